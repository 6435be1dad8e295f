def zbp (y b : Nat) : Nat := (zPL.getD y []).getD b 0
def zow (y : Nat) : Nat := (zmt y).2.2.2.2
def zmx (y : Nat) : Nat := (zmt y).2.2.1
def zNA : List Nat := [1, 2, 2, 2, 2, 0, 0, 2, 1, 3, 1, 2, 2, 2, 2, 1, 2, 1, 1, 1, 3, 2, 2, 2, 3, 1, 3, 0, 2, 3, 1, 0, 1, 0, 1, 0, 0, 0, 2, 1, 2, 1, 1, 1, 2, 2, 2, 1, 2, 1, 1, 1, 1, 1, 1, 3, 3, 2, 1, 0, 1, 1, 1, 1, 1, 0, 3, 5, 3, 5, 1, 0, 1, 0, 0, 1, 1, 1, 1, 1, 3, 2, 2, 2, 1, 0, 2, 2, 2, 1, 1, 1, 1, 0, 0, 0, 1, 1, 0, 1, 1, 1, 1, 1, 1, 1, 0, 0, 2, 2, 1, 1, 0, 2, 2, 3, 0, 1, 0, 0, 2, 1, 0, 0, 0, 1, 0, 2, 1, 1, 1, 0, 0, 1, 0, 1, 0, 1, 1, 1, 1, 1, 2, 1, 1, 2, 2, 2, 1, 1, 1, 2, 2, 1, 1, 1, 2, 1, 1, 1, 1, 2, 2, 3, 3, 1, 1, 3, 3, 5, 3, 1, 3, 2, 3, 5, 5, 1, 1, 3, 0, 0, 1, 1, 1, 1, 2, 3, 0, 0, 0, 1, 1, 2, 0, 1, 3, 0, 0, 0, 4, 2, 0, 1, 1, 1, 1, 2, 1, 0, 7, 3, 2, 2, 1, 0, 2, 2, 0, 0, 1, 1, 2, 2, 2, 2, 2, 1, 2, 1, 1, 0, 0, 0, 1, 1, 1, 0, 1, 1, 1, 0, 0, 1, 1, 1, 1, 0, 1, 1, 1, 0, 2, 1, 1, 3, 2, 2, 3, 0, 1, 0, 0, 2, 1, 0, 0, 0, 0, 0, 1, 1, 1, 0, 0, 0, 1, 2, 0, 0, 1, 1, 1, 1, 1, 2, 1, 1, 2, 1, 1, 1, 2, 2, 1, 1, 2, 1, 1, 1, 1, 1, 2, 2, 3, 3, 2, 2, 1, 1, 1, 1]
def zna (y : Nat) : Nat := zNA.getD y 0
def zIn_1 (y a b : Nat) (v : Int) (pc : Nat) (i : Instr) (len : Nat) : Bool := match i with
  | .iload_n k => k.val == a && len == 1
  | .iload k => k == a && len == 2
  | _ => false
def zIn_2 (y a b : Nat) (v : Int) (pc : Nat) (i : Instr) (len : Nat) : Bool := match i with
  | .lload_n k => k.val == a && len == 1
  | .lload k => k == a && len == 2
  | _ => false
def zIn_3 (y a b : Nat) (v : Int) (pc : Nat) (i : Instr) (len : Nat) : Bool := match i with
  | .aload_n k => k.val == a && len == 1
  | .aload k => k == a && len == 2
  | _ => false
def zIn_4 (y a b : Nat) (v : Int) (pc : Nat) (i : Instr) (len : Nat) : Bool := match i with
  | .istore_n k => k.val == a && len == 1 && decide (a < zmx y)
  | .istore k => k == a && len == 2 && decide (a < zmx y)
  | _ => false
def zIn_5 (y a b : Nat) (v : Int) (pc : Nat) (i : Instr) (len : Nat) : Bool := match i with
  | .lstore_n k => k.val == a && len == 1 && decide (a + 1 < zmx y)
  | .lstore k => k == a && len == 2 && decide (a + 1 < zmx y)
  | _ => false
def zIn_6 (y a b : Nat) (v : Int) (pc : Nat) (i : Instr) (len : Nat) : Bool := match i with
  | .astore_n k => k.val == a && len == 1 && decide (a < zmx y)
  | .astore k => k == a && len == 2 && decide (a < zmx y)
  | _ => false
def zIn_7 (y a b : Nat) (v : Int) (pc : Nat) (i : Instr) (len : Nat) : Bool := match i with
  | .iconst n => len == 1 && (v == (Int32.ofInt v).toInt && Int32.ofInt n == Int32.ofInt v)
  | .bipush n => len == 2 && (v == (Int32.ofInt v).toInt && (Int8.ofInt n).toInt32 == Int32.ofInt v)
  | .sipush n => len == 3 && (v == (Int32.ofInt v).toInt && (Int16.ofInt n).toInt32 == Int32.ofInt v)
  | .ldc k => len == 2 && (v == (Int32.ofInt v).toInt && zCIT.contains (zow y, k, v))
  | .ldc_w k => len == 3 && (v == (Int32.ofInt v).toInt && zCIT.contains (zow y, k, v))
  | _ => false
def zIn_8 (y a b : Nat) (v : Int) (pc : Nat) (i : Instr) (len : Nat) : Bool := match i with
  | .lconst n => len == 1 && (v == (Int64.ofInt v).toInt && Int64.ofNat n.val == Int64.ofInt v)
  | .ldc2_w k => len == 3 && (v == (Int64.ofInt v).toInt && zCLT.contains (zow y, k, v))
  | _ => false
def zIn_9 (y a b : Nat) (v : Int) (pc : Nat) (i : Instr) (len : Nat) : Bool := match i with
  | .ldc k => len == 2 && (zow y == 8 && (zSIX[a]? == some k && decide (a < 17)))
  | _ => false
def zIn_10 (y a b : Nat) (v : Int) (pc : Nat) (i : Instr) (len : Nat) : Bool := match i with
  | .getfield n => len == 3 && (zFLT.contains (zow y, n, a, b) && (decide (a < 12) && (decide (b < znf a) && (zft a b == 1 || zft a b == 4))))
  | _ => false
def zIn_11 (y a b : Nat) (v : Int) (pc : Nat) (i : Instr) (len : Nat) : Bool := match i with
  | .getfield n => len == 3 && (zFLT.contains (zow y, n, a, b) && (decide (a < 12) && (decide (b < znf a) && zft a b == 2)))
  | _ => false
def zIn_12 (y a b : Nat) (v : Int) (pc : Nat) (i : Instr) (len : Nat) : Bool := match i with
  | .getfield n => len == 3 && (zFLT.contains (zow y, n, a, b) && (decide (a < 12) && (decide (b < znf a) && zft a b == 0)))
  | _ => false
def zIn_13 (y a b : Nat) (v : Int) (pc : Nat) (i : Instr) (len : Nat) : Bool := match i with
  | .putfield n => len == 3 && (zFLT.contains (zow y, n, a, b) && (decide (a < 12) && (decide (b < znf a) && zft a b == 1)))
  | _ => false
def zIn_14 (y a b : Nat) (v : Int) (pc : Nat) (i : Instr) (len : Nat) : Bool := match i with
  | .putfield n => len == 3 && (zFLT.contains (zow y, n, a, b) && (decide (a < 12) && (decide (b < znf a) && zft a b == 2)))
  | _ => false
def zIn_15 (y a b : Nat) (v : Int) (pc : Nat) (i : Instr) (len : Nat) : Bool := match i with
  | .putfield n => len == 3 && (zFLT.contains (zow y, n, a, b) && (decide (a < 12) && (decide (b < znf a) && zft a b == 4)))
  | _ => false
def zIn_16 (y a b : Nat) (v : Int) (pc : Nat) (i : Instr) (len : Nat) : Bool := match i with
  | .iaload => len == 1
  | _ => false
def zIn_17 (y a b : Nat) (v : Int) (pc : Nat) (i : Instr) (len : Nat) : Bool := match i with
  | .baload => len == 1
  | _ => false
def zIn_19 (y a b : Nat) (v : Int) (pc : Nat) (i : Instr) (len : Nat) : Bool := match i with
  | .laload => len == 1
  | _ => false
def zIn_20 (y a b : Nat) (v : Int) (pc : Nat) (i : Instr) (len : Nat) : Bool := match i with
  | .aaload => len == 1
  | _ => false
def zIn_21 (y a b : Nat) (v : Int) (pc : Nat) (i : Instr) (len : Nat) : Bool := match i with
  | .iastore => len == 1
  | _ => false
def zIn_22 (y a b : Nat) (v : Int) (pc : Nat) (i : Instr) (len : Nat) : Bool := match i with
  | .bastore => len == 1
  | _ => false
def zIn_24 (y a b : Nat) (v : Int) (pc : Nat) (i : Instr) (len : Nat) : Bool := match i with
  | .lastore => len == 1
  | _ => false
def zIn_25 (y a b : Nat) (v : Int) (pc : Nat) (i : Instr) (len : Nat) : Bool := match i with
  | .arraylength => len == 1
  | _ => false
def zIn_26 (y a b : Nat) (v : Int) (pc : Nat) (i : Instr) (len : Nat) : Bool := match i with
  | .iadd => len == 1
  | _ => false
def zIn_27 (y a b : Nat) (v : Int) (pc : Nat) (i : Instr) (len : Nat) : Bool := match i with
  | .isub => len == 1
  | _ => false
def zIn_28 (y a b : Nat) (v : Int) (pc : Nat) (i : Instr) (len : Nat) : Bool := match i with
  | .imul => len == 1
  | _ => false
def zIn_29 (y a b : Nat) (v : Int) (pc : Nat) (i : Instr) (len : Nat) : Bool := match i with
  | .idiv => len == 1
  | _ => false
def zIn_30 (y a b : Nat) (v : Int) (pc : Nat) (i : Instr) (len : Nat) : Bool := match i with
  | .irem => len == 1
  | _ => false
def zIn_31 (y a b : Nat) (v : Int) (pc : Nat) (i : Instr) (len : Nat) : Bool := match i with
  | .iand => len == 1
  | _ => false
def zIn_32 (y a b : Nat) (v : Int) (pc : Nat) (i : Instr) (len : Nat) : Bool := match i with
  | .ior => len == 1
  | _ => false
def zIn_33 (y a b : Nat) (v : Int) (pc : Nat) (i : Instr) (len : Nat) : Bool := match i with
  | .ixor => len == 1
  | _ => false
def zIn_34 (y a b : Nat) (v : Int) (pc : Nat) (i : Instr) (len : Nat) : Bool := match i with
  | .ishl => len == 1
  | _ => false
def zIn_35 (y a b : Nat) (v : Int) (pc : Nat) (i : Instr) (len : Nat) : Bool := match i with
  | .ishr => len == 1
  | _ => false
def zIn_36 (y a b : Nat) (v : Int) (pc : Nat) (i : Instr) (len : Nat) : Bool := match i with
  | .iushr => len == 1
  | _ => false
def zIn_37 (y a b : Nat) (v : Int) (pc : Nat) (i : Instr) (len : Nat) : Bool := match i with
  | .ladd => len == 1
  | _ => false
def zIn_38 (y a b : Nat) (v : Int) (pc : Nat) (i : Instr) (len : Nat) : Bool := match i with
  | .lsub => len == 1
  | _ => false
def zIn_39 (y a b : Nat) (v : Int) (pc : Nat) (i : Instr) (len : Nat) : Bool := match i with
  | .lmul => len == 1
  | _ => false
def zIn_40 (y a b : Nat) (v : Int) (pc : Nat) (i : Instr) (len : Nat) : Bool := match i with
  | .ldiv => len == 1
  | _ => false
def zIn_41 (y a b : Nat) (v : Int) (pc : Nat) (i : Instr) (len : Nat) : Bool := match i with
  | .lrem => len == 1
  | _ => false
def zIn_42 (y a b : Nat) (v : Int) (pc : Nat) (i : Instr) (len : Nat) : Bool := match i with
  | .land => len == 1
  | _ => false
def zIn_43 (y a b : Nat) (v : Int) (pc : Nat) (i : Instr) (len : Nat) : Bool := match i with
  | .lor => len == 1
  | _ => false
def zIn_44 (y a b : Nat) (v : Int) (pc : Nat) (i : Instr) (len : Nat) : Bool := match i with
  | .lshl => len == 1
  | _ => false
def zIn_45 (y a b : Nat) (v : Int) (pc : Nat) (i : Instr) (len : Nat) : Bool := match i with
  | .lcmp => len == 1
  | _ => false
def zIn_46 (y a b : Nat) (v : Int) (pc : Nat) (i : Instr) (len : Nat) : Bool := match i with
  | .i2l => len == 1
  | _ => false
def zIn_47 (y a b : Nat) (v : Int) (pc : Nat) (i : Instr) (len : Nat) : Bool := match i with
  | .l2i => len == 1
  | _ => false
def zIn_48 (y a b : Nat) (v : Int) (pc : Nat) (i : Instr) (len : Nat) : Bool := match i with
  | .i2b => len == 1
  | _ => false
def zIn_49 (y a b : Nat) (v : Int) (pc : Nat) (i : Instr) (len : Nat) : Bool := match i with
  | .i2s => len == 1
  | _ => false
def zIn_50 (y a b : Nat) (v : Int) (pc : Nat) (i : Instr) (len : Nat) : Bool := match i with
  | .dup => len == 1
  | _ => false
def zIn_51 (y a b : Nat) (v : Int) (pc : Nat) (i : Instr) (len : Nat) : Bool := match i with
  | .dup2 => len == 1
  | _ => false
def zIn_52 (y a b : Nat) (v : Int) (pc : Nat) (i : Instr) (len : Nat) : Bool := match i with
  | .pop => len == 1
  | _ => false
def zIn_74 (y a b : Nat) (v : Int) (pc : Nat) (i : Instr) (len : Nat) : Bool := match i with
  | .iaload => len == 1 && y == 311
  | _ => false
def zIn_75 (y a b : Nat) (v : Int) (pc : Nat) (i : Instr) (len : Nat) : Bool := match i with
  | .arraylength => len == 1 && y == 311
  | _ => false
def zIn_53 (y a b : Nat) (v : Int) (pc : Nat) (i : Instr) (len : Nat) : Bool := match i with
  | .iinc k n => len == 3 && (k == a && (n == v && (v == (Int32.ofInt v).toInt && decide (a < zmx y))))
  | _ => false
def zIn_54 (y a b : Nat) (v : Int) (pc : Nat) (i : Instr) (len : Nat) : Bool := match i with
  | .goto o => len == 3 && (pc : Int) + o == zbp y a
  | _ => false
def zIn_55 (y a b : Nat) (v : Int) (pc : Nat) (i : Instr) (len : Nat) : Bool := match i with
  | .if_icmp .eq o => len == 3 && ((pc : Int) + o == zbp y a && pc + 3 == zbp y b)
  | _ => false
def zIn_61 (y a b : Nat) (v : Int) (pc : Nat) (i : Instr) (len : Nat) : Bool := match i with
  | .ifCond .eq o => len == 3 && ((pc : Int) + o == zbp y a && pc + 3 == zbp y b)
  | _ => false
def zIn_56 (y a b : Nat) (v : Int) (pc : Nat) (i : Instr) (len : Nat) : Bool := match i with
  | .if_icmp .ne o => len == 3 && ((pc : Int) + o == zbp y a && pc + 3 == zbp y b)
  | _ => false
def zIn_62 (y a b : Nat) (v : Int) (pc : Nat) (i : Instr) (len : Nat) : Bool := match i with
  | .ifCond .ne o => len == 3 && ((pc : Int) + o == zbp y a && pc + 3 == zbp y b)
  | _ => false
def zIn_57 (y a b : Nat) (v : Int) (pc : Nat) (i : Instr) (len : Nat) : Bool := match i with
  | .if_icmp .lt o => len == 3 && ((pc : Int) + o == zbp y a && pc + 3 == zbp y b)
  | _ => false
def zIn_63 (y a b : Nat) (v : Int) (pc : Nat) (i : Instr) (len : Nat) : Bool := match i with
  | .ifCond .lt o => len == 3 && ((pc : Int) + o == zbp y a && pc + 3 == zbp y b)
  | _ => false
def zIn_58 (y a b : Nat) (v : Int) (pc : Nat) (i : Instr) (len : Nat) : Bool := match i with
  | .if_icmp .ge o => len == 3 && ((pc : Int) + o == zbp y a && pc + 3 == zbp y b)
  | _ => false
def zIn_64 (y a b : Nat) (v : Int) (pc : Nat) (i : Instr) (len : Nat) : Bool := match i with
  | .ifCond .ge o => len == 3 && ((pc : Int) + o == zbp y a && pc + 3 == zbp y b)
  | _ => false
def zIn_59 (y a b : Nat) (v : Int) (pc : Nat) (i : Instr) (len : Nat) : Bool := match i with
  | .if_icmp .gt o => len == 3 && ((pc : Int) + o == zbp y a && pc + 3 == zbp y b)
  | _ => false
def zIn_65 (y a b : Nat) (v : Int) (pc : Nat) (i : Instr) (len : Nat) : Bool := match i with
  | .ifCond .gt o => len == 3 && ((pc : Int) + o == zbp y a && pc + 3 == zbp y b)
  | _ => false
def zIn_60 (y a b : Nat) (v : Int) (pc : Nat) (i : Instr) (len : Nat) : Bool := match i with
  | .if_icmp .le o => len == 3 && ((pc : Int) + o == zbp y a && pc + 3 == zbp y b)
  | _ => false
def zIn_66 (y a b : Nat) (v : Int) (pc : Nat) (i : Instr) (len : Nat) : Bool := match i with
  | .ifCond .le o => len == 3 && ((pc : Int) + o == zbp y a && pc + 3 == zbp y b)
  | _ => false
def zswok (y pc : Nat) (dflt lo hi : Int) (offs : Array Int) (e : Int × List Nat × Nat) : Bool := lo == e.1 && (hi == lo + e.2.1.length - 1 && ((pc : Int) + dflt == zbp y e.2.2 && (List.range e.2.1.length).all (fun j => (offs[j]?).map (fun o => (pc : Int) + o) == (e.2.1[j]?).map (fun t => (zbp y t : Int)))))
def zIn_67 (y a b : Nat) (v : Int) (pc : Nat) (i : Instr) (len : Nat) : Bool := match i with
  | .tableswitch d lo hi offs => decide (a < zSW.length) && zswok y pc d lo hi offs (zSW.getD a (0, [], 0))
  | _ => false
def zIn_68 (y a b : Nat) (v : Int) (pc : Nat) (i : Instr) (len : Nat) : Bool := match i with
  | .invokevirtual n => len == 3 && ((decide (a < 311) && (zMLT.contains (zow y, n, a) && (zIM.contains a && (b == zna a + 1 && v == (zow a : Nat))))) || (zPLT.contains (zow y, n, a) && (v == -1 && ((a == 1001 && b == 1) || (a == 1002 && b == 2)))))
  | _ => false
def zIn_69 (y a b : Nat) (v : Int) (pc : Nat) (i : Instr) (len : Nat) : Bool := match i with
  | .invokestatic n => len == 3 && ((decide (a < 311) && (zMLT.contains (zow y, n, a) && (zSTA.contains a && b == zna a))) || (zPLT.contains (zow y, n, a) && (a == 1000 && b == 5)))
  | _ => false
def zIn_78 (y a b : Nat) (v : Int) (pc : Nat) (i : Instr) (len : Nat) : Bool := match i with
  | .invokestatic n => len == 3 && (zow y == 5 && (n == 66 && (a == 81 && b == 2)))
  | _ => false
def zIn_70 (y a b : Nat) (v : Int) (pc : Nat) (i : Instr) (len : Nat) : Bool := match i with
  | .ireturn => len == 1 && decide ((zmt y).2.2.2.1 = some .int)
  | _ => false
def zIn_71 (y a b : Nat) (v : Int) (pc : Nat) (i : Instr) (len : Nat) : Bool := match i with
  | .lreturn => len == 1 && decide ((zmt y).2.2.2.1 = some .long)
  | _ => false
def zIn_72 (y a b : Nat) (v : Int) (pc : Nat) (i : Instr) (len : Nat) : Bool := match i with
  | .return_ => len == 1 && decide ((zmt y).2.2.2.1 = none)
  | _ => false
def zIn_76 (y a b : Nat) (v : Int) (pc : Nat) (i : Instr) (len : Nat) : Bool := match i with
  | .ireturn => len == 1 && decide ((zmt y).2.2.2.1 = some .boolean)
  | _ => false
def zlenS : List Nat := zstr.map List.length
def zbytS : List (List Int32) := zstr.map (fun l => l.map Int32.ofInt)
/-- what holds at each moment of what isn't the world's cells: the tables, the cells' places, the String constants -/
def zCx (G : zG) (A : Nat → Prop) (U : State) : Prop := va_K G.1 zcl12 (ztys G) U ∧ ((∀ i j : Nat, i < 151 → j < 151 → zra G i = zra G j → i = j) ∧ ∀ i : Nat, i < 151 → A (zra G i)) ∧ vk_S 17 zlenS zbytS G.2.2.2.1 G.2.2.2.2.1 A U U.heap ∧ (∀ k, k < 17 → vk_R RX8 (zSIX.getD k 0) (zSTX.getD k "") (G.2.2.2.1 k) U) ∧ va_Z "java/lang/String" "COMPACT_STRINGS" "Z" (.int 1) A U U.heap ∧ va_Nw (.methodLinkNest RX5 66 yX10_bit "DaughtersGate") U ∧ va_Zq "jdk/internal/util/Preconditions" "SIOOBE_FORMATTER" "Ljava/util/function/BiFunction;" A U U.heap
theorem zCx.calling {G : zG} {A : Nat → Prop} {U : State} (h : zCx G A U) (g : JFrame) (mk : MethodId) (a : Array Value) : zCx G A (U.calling g mk a) := by
  obtain ⟨h1, h2, h3, h4, h5, h6, h7⟩ := h
  exact ⟨va_K.moved (u := U) (U := U.calling g mk a) (Vm.Alike.refl U.vm) h1, h2, vk_S.moved (u := U) (U := U.calling g mk a) (Vm.Alike.refl U.vm) h3, fun k hk => vk_R.same (u := U) (U := U.calling g mk a) rfl (h4 k hk), va_Z.moved (u := U) (U := U.calling g mk a) (Vm.Alike.refl U.vm) h5, va_Nw.same (u := U) (U := U.calling g mk a) rfl rfl h6, va_Zq.moved (u := U) (U := U.calling g mk a) (Vm.Alike.refl U.vm) h7⟩
theorem zCx.warm {G : zG} {A : Nat → Prop} {s U : State} {H : Heap} {locs : List Loc} (h : zCx G A s) (hS : va_S A s.heap H locs) (hU : U.heap = H) (hW : s.WarmedH U.vm) : zCx G A U := by
  obtain ⟨h1, h2, h3, h4, h5, h6, h7⟩ := h
  exact ⟨va_K.moved hW.alike h1, h2, by rw [hU]; exact vk_S.moved hW.alike (h3.kept hS.2.1), fun k hk => vk_R.warm hW (h4 k hk), by rw [hU]; exact va_Z.moved hW.alike (h5.kept hS.2.1), va_Nw.warmM hW h6, by rw [hU]; exact va_Zq.moved hW.alike (h7.kept hS.2.1)⟩
theorem zCx.D {G : zG} {A : Nat → Prop} {U : State} (h : zCx G A U) (m : zMm) : va_D A (zWl G m) := by
  have key : ∀ (k : Nat) (q : Nat × va_E), (zWl G m)[k]? = some q → k < 151 ∧ q.1 = zra G k := by
    intro k q hq
    unfold zWl at hq
    have hk : k < 151 := by simpa using (List.getElem?_eq_some_iff.mp hq).1
    rw [List.getElem?_map, List.getElem?_range hk] at hq
    cases hq
    exact ⟨hk, rfl⟩
  refine ⟨fun i j p q hi hj e => ?_, fun k q hq => ?_⟩
  · obtain ⟨a1, a2⟩ := key i p hi
    obtain ⟨b1, b2⟩ := key j q hj
    exact h.2.1.1 i j a1 b1 (by rw [← a2, ← b2]; exact e)
  · obtain ⟨a1, a2⟩ := key k q hq
    rw [a2]; exact h.2.1.2 k a1
def zAt (p : Program) (s : State) (m : MethodId) (args : Array Value) (c : Code) (y : Nat) (G : zG) (A : Nat → Prop) : Prop :=
  p.tables.exec = Jvm.exec ∧ c.code = (zmt y).2.1 ∧ c.maxLocals = zmx y ∧ s.vm.findClass (zCN (zow y)) = some m.cls ∧ (∀ w ∈ zBIG, w.before args s = true) ∧ zCx G A s
def zI (G : zG) (A : Nat → Prop) (s : State) (y : Nat) (H : Heap) (locs : List Loc) (lc : zLc) (st : List zV) (mem : zMm) (ls : Array Slot) : Prop :=
  zLR G ls (zmx y) lc ∧ (∀ i v, zlg lc i = some v → zCv v) ∧ (∀ v ∈ st, zCv v) ∧ zCm mem ∧ va_P G.1 zcl12 (zWl G mem) H ∧ va_S A s.heap H locs
def zGo (p : Program) (l : Launch) (e : Env) (R : Room) (s : State) (m : MethodId) (args : Array Value) (below : List Frame) (meth : Method) (c : Code) (Qf : State → Prop) (G : zG) (A : Nat → Prop) (y pc : Nat) (lc : zLc) (st : List zV) (mem : zMm) : Prop :=
  ∀ (H : Heap) (locs : List Loc) (ls : Array Slot), zI G A s y H locs lc st mem ls → W p l e R s m args below meth c H locs R.cells R.slots Qf (F0 m pc ls (st.map (zph G)))
theorem zI.push {G : zG} {A : Nat → Prop} {s : State} {y : Nat} {H : Heap} {locs : List Loc} {lc : zLc} {st : List zV} {mem : zMm} {ls : Array Slot} (h : zI G A s y H locs lc st mem ls) {v : zV} (hv : zCv v) : zI G A s y H locs lc (v :: st) mem ls :=
  ⟨h.1, h.2.1, fun w hw => (List.mem_cons.mp hw).elim (fun e => e ▸ hv) (h.2.2.1 w), h.2.2.2⟩
theorem zI.pop {G : zG} {A : Nat → Prop} {s : State} {y : Nat} {H : Heap} {locs : List Loc} {lc : zLc} {st : List zV} {mem : zMm} {ls : Array Slot} {v : zV} (h : zI G A s y H locs lc (v :: st) mem ls) : zCv v ∧ zI G A s y H locs lc st mem ls :=
  ⟨h.2.2.1 v List.mem_cons_self, h.1, h.2.1, fun w hw => h.2.2.1 w (List.mem_cons_of_mem _ hw), h.2.2.2⟩
theorem zI.mem {G : zG} {A : Nat → Prop} {s : State} {y : Nat} {H H1 : Heap} {locs locs1 : List Loc} {lc : zLc} {st : List zV} {mem mem1 : zMm} {ls : Array Slot} (h : zI G A s y H locs lc st mem ls) (hc : zCm mem1) (hP : va_P G.1 zcl12 (zWl G mem1) H1) (hS : va_S A s.heap H1 locs1) : zI G A s y H1 locs1 lc st mem1 ls :=
  ⟨h.1, h.2.1, h.2.2.1, hc, hP, hS⟩
theorem zCm.put {m : zMm} (h : zCm m) {c i v : Int} (h1 : zlo c i → ∃ X : Int64, v = X.toInt) (h2 : ¬ zlo c i → ∃ X : Int32, v = X.toInt) : zCm (zmu m c i v) := by
  intro c' i'
  unfold zmu
  by_cases e : c' = c ∧ i' = i
  · obtain ⟨rfl, rfl⟩ := e
    simp only [and_self, if_true]
    exact ⟨h1, h2⟩
  · simp only [e, if_false]
    exact h c' i'
theorem zft4 : ∀ ci, ci < 12 → ∀ k, k < znf ci → zft ci k ≤ 4 := by decide +kernel
theorem zcl12_at : ∀ ci, ci < 12 → zcl12[ci]? = some (zCN ci, zT ci, znf ci) := by
  intro ci h
  match ci, h with
  | 0, _ => rfl
  | 1, _ => rfl
  | 2, _ => rfl
  | 3, _ => rfl
  | 4, _ => rfl
  | 5, _ => rfl
  | 6, _ => rfl
  | 7, _ => rfl
  | 8, _ => rfl
  | 9, _ => rfl
  | 10, _ => rfl
  | 11, _ => rfl
  | n + 12, h => exact absurd h (by omega)
theorem zU_all : ∀ ci, ci < 12 → ∀ w ∈ u_ws (zCN ci) (zT ci) (znf ci), w ∈ zBIG := by
  intro ci h
  match ci, h with
  | 0, _ => exact zU_0
  | 1, _ => exact zU_1
  | 2, _ => exact zU_2
  | 3, _ => exact zU_3
  | 4, _ => exact zU_4
  | 5, _ => exact zU_5
  | 6, _ => exact zU_6
  | 7, _ => exact zU_7
  | 8, _ => exact zU_8
  | 9, _ => exact zU_9
  | 10, _ => exact zU_10
  | 11, _ => exact zU_11
  | n + 12, h => exact absurd h (by omega)
theorem znm_all : ∀ ci, ci < 12 → ∀ a, a < znf ci → ∀ b, b < znf ci → a ≠ b → (zT ci a).2.1 ≠ (zT ci b).2.1 := by
  intro ci h
  match ci, h with
  | 0, _ => exact nmX0
  | 1, _ => exact nmX1
  | 2, _ => exact nmX2
  | 3, _ => exact nmX3
  | 4, _ => exact nmX4
  | 5, _ => exact nmX5
  | 6, _ => exact nmX6
  | 7, _ => exact nmX7
  | 8, _ => exact nmX8
  | 9, _ => exact nmX9
  | 10, _ => exact nmX10
  | 11, _ => exact nmX11
  | n + 12, h => exact absurd h (by omega)
theorem zty_all : ∀ ci, ci < 12 → ∀ k, k < znf ci → parseFieldDescriptor (zT ci k).2.2.1 = some (zty ci k) := by
  intro ci h
  match ci, h with
  | 0, _ => exact tyX0_ok
  | 1, _ => exact tyX1_ok
  | 2, _ => exact tyX2_ok
  | 3, _ => exact tyX3_ok
  | 4, _ => exact tyX4_ok
  | 5, _ => exact tyX5_ok
  | 6, _ => exact tyX6_ok
  | 7, _ => exact tyX7_ok
  | 8, _ => exact tyX8_ok
  | 9, _ => exact tyX9_ok
  | 10, _ => exact tyX10_ok
  | 11, _ => exact tyX11_ok
  | n + 12, h => exact absurd h (by omega)
theorem zFL_in {o i c k : Nat} (h : zFLT.contains (o, i, c, k) = true) : Cond.fieldLink (zCN o) i (zT c k).1 (zT c k).2.1 (zT c k).2.2.1 ∈ zBIG :=
  zBIG_of zFLT_s (List.mem_map.mpr ⟨(o, i, c, k), List.contains_iff_mem.mp h, rfl⟩) rfl
theorem zML_in {o i y : Nat} (h : zMLT.contains (o, i, y) = true) : Cond.methodLink (zCN o) i (zmt y).1 ∈ zBIG :=
  zBIG_of zMLT_s (List.mem_map.mpr ⟨(o, i, y), List.contains_iff_mem.mp h, rfl⟩) rfl
theorem zPL_in {o i y : Nat} (h : zPLT.contains (o, i, y) = true) : Cond.methodLink (zCN o) i (zpnm y) ∈ zBIG :=
  zBIG_of zPLT_s (List.mem_map.mpr ⟨(o, i, y), List.contains_iff_mem.mp h, rfl⟩) rfl
theorem zSTA_in {y : Nat} (h : zSTA.contains y = true) : Cond.static (zmt y).1 ∈ zBIG := zBIG_of zSTA_s (List.mem_map.mpr ⟨y, List.contains_iff_mem.mp h, rfl⟩) rfl
theorem zIM_in {y : Nat} (h : zIM.contains y = true) : Cond.instanceMethod (zmt y).1 ∈ zBIG := zBIG_of zIM_s (List.mem_map.mpr ⟨y, List.contains_iff_mem.mp h, rfl⟩) rfl
theorem zSE_in {y : Nat} (h : zSE.contains y = true) : Cond.selects (zmt y).1.cls (zmt y).1 (zmt y).1 ∈ zBIG := zBIG_of zSE_s (List.mem_map.mpr ⟨y, List.contains_iff_mem.mp h, rfl⟩) rfl
theorem zIS : ∀ y, y < 311 → zIM.contains y = true → zSE.contains y = true := by decide +kernel
theorem zINI_in {o : Nat} (h : zINI.contains o = true) : Cond.initialized (zCN o) ∈ zBIG := zBIG_of zINI_s (List.mem_map.mpr ⟨o, List.contains_iff_mem.mp h, rfl⟩) rfl
theorem zCI_in {o i : Nat} {v : Int} (h : zCIT.contains (o, i, v) = true) : Cond.constant (zCN o) i (Int32.ofInt v) ∈ zBIG := zBIG_of zCIT_s (List.mem_map.mpr ⟨(o, i, v), List.contains_iff_mem.mp h, rfl⟩) rfl
theorem zCL_in {o i : Nat} {v : Int} (h : zCLT.contains (o, i, v) = true) : Cond.constantLong (zCN o) i (Int64.ofInt v) ∈ zBIG := zBIG_of zCLT_s (List.mem_map.mpr ⟨(o, i, v), List.contains_iff_mem.mp h, rfl⟩) rfl
theorem zow_all : ∀ y, y < 312 → (zmt y).1.cls = zCN (zow y) ∧ zINI.contains (zow y) = true ∧ zmx y ≤ 11 ∧ zow y < 16 := by decide +kernel
theorem znh_all : ∀ y, y < 311 → plainFor (zmt y).1 = true ∧ (zmt y).1.cls ≠ "java/lang/invoke/MethodHandle" ∧ (zmt y).1.cls ≠ "java/lang/invoke/VarHandle" ∧ (parseMethodDescriptor (zmt y).1.desc).map (fun d => d.parameters.length) = some (zna y) := by decide +kernel
theorem zw_add (X Y : Int32) : zw (X.toInt + Y.toInt) = (X + Y).toInt := (Int32.toInt_add X Y).symm
theorem zw_sub (X Y : Int32) : zw (X.toInt - Y.toInt) = (X - Y).toInt := (Int32.toInt_sub X Y).symm
theorem zw_mul (X Y : Int32) : zw (X.toInt * Y.toInt) = (X * Y).toInt := (Int32.toInt_mul X Y).symm
theorem zw_div (X Y : Int32) : zdiv X.toInt Y.toInt = (X / Y).toInt := (Int32.toInt_div X Y).symm
theorem zw_rem (X Y : Int32) : zrem X.toInt Y.toInt = (X - X / Y * Y).toInt := by unfold zrem; rw [zw_div, zw_mul, zw_sub]
theorem zw_and (X Y : Int32) : zand X.toInt Y.toInt = (X &&& Y).toInt := by unfold zand; rw [Int32.ofInt_toInt, Int32.ofInt_toInt]
theorem zw_or (X Y : Int32) : zor X.toInt Y.toInt = (X ||| Y).toInt := by unfold zor; rw [Int32.ofInt_toInt, Int32.ofInt_toInt]
theorem zw_xor (X Y : Int32) : zxor X.toInt Y.toInt = (X ^^^ Y).toInt := by unfold zxor; rw [Int32.ofInt_toInt, Int32.ofInt_toInt]
theorem zw_shl (X Y : Int32) : zshl X.toInt Y.toInt = (X <<< (Y &&& 31)).toInt := by unfold zshl; rw [Int32.ofInt_toInt, Int32.ofInt_toInt]
theorem zw_shr (X Y : Int32) : zshr X.toInt Y.toInt = (X >>> (Y &&& 31)).toInt := by unfold zshr; rw [Int32.ofInt_toInt, Int32.ofInt_toInt]
theorem zw_ushr (X Y : Int32) : zushr X.toInt Y.toInt = ((X.toUInt32 >>> (Y.toUInt32 &&& Int32.toUInt32 31)).toInt32).toInt := by unfold zushr; rw [Int32.ofInt_toInt, Int32.ofInt_toInt]
theorem zl_add (X Y : Int64) : zwl (X.toInt + Y.toInt) = (X + Y).toInt := (Int64.toInt_add X Y).symm
theorem zl_sub (X Y : Int64) : zwl (X.toInt - Y.toInt) = (X - Y).toInt := (Int64.toInt_sub X Y).symm
theorem zl_mul (X Y : Int64) : zwl (X.toInt * Y.toInt) = (X * Y).toInt := (Int64.toInt_mul X Y).symm
theorem zl_div (X Y : Int64) : zldiv X.toInt Y.toInt = (X / Y).toInt := (Int64.toInt_div X Y).symm
theorem zl_rem (X Y : Int64) : zlrem X.toInt Y.toInt = (X - X / Y * Y).toInt := by unfold zlrem; rw [zl_div, zl_mul, zl_sub]
theorem zl_and (X Y : Int64) : zland X.toInt Y.toInt = (X &&& Y).toInt := by unfold zland; rw [Int64.ofInt_toInt, Int64.ofInt_toInt]
theorem zl_or (X Y : Int64) : zlor X.toInt Y.toInt = (X ||| Y).toInt := by unfold zlor; rw [Int64.ofInt_toInt, Int64.ofInt_toInt]
theorem zl_shl (X : Int64) (Y : Int32) : zlshl X.toInt Y.toInt = (X <<< (Y.toInt64 &&& 63)).toInt := by unfold zlshl; rw [Int64.ofInt_toInt, Int32.ofInt_toInt]
theorem zl_cmp (X Y : Int64) : zlcmp X.toInt Y.toInt = (lg_cmp X Y).toInt := by
  unfold zlcmp lg_cmp
  by_cases h1 : X.toInt < Y.toInt
  · have e1 : ¬ X > Y := fun q => by have := Int64.lt_iff_toInt_lt.mp q; omega
    have e2 : ¬ X = Y := fun q => by rw [q] at h1; omega
    rw [if_pos h1, if_neg e1, if_neg e2]; rfl
  · rw [if_neg h1]
    by_cases h2 : X.toInt = Y.toInt
    · have := Int64.toInt_inj.mp h2
      subst this
      rw [if_pos rfl, if_neg (fun q => by have := Int64.lt_iff_toInt_lt.mp q; omega), if_pos rfl]; rfl
    · have e1 : X > Y := Int64.lt_iff_toInt_lt.mpr (by omega)
      rw [if_neg h2, if_pos e1]; rfl
theorem zn0 {Y : Int32} (h : ¬ Y.toInt = 0) : ¬ Y = 0 := fun e => h (by rw [e]; rfl)
theorem zl0 {Y : Int64} (h : ¬ Y.toInt = 0) : ¬ Y = 0 := fun e => h (by rw [e]; rfl)
theorem zvi {X : Int32} {n : Nat} (h : 0 ≤ X.toInt ∧ X.toInt < n) : vp_in X n := vp_in_iff.mpr h
theorem zclamp {X : Int32} (h : 0 ≤ X.toInt) : ((X.toNatClampNeg : Nat) : Int) = X.toInt := by show ((X.toInt.toNat : Nat) : Int) = X.toInt; omega
section ZS
variable {p : Program} {l : Launch} {e : Env} {R : Room} {s : State} {m : MethodId} {args : Array Value} {below : List Frame} {meth : Method} {c : Code} {Qf : State → Prop} {G : zG} {A : Nat → Prop} {y : Nat}
variable {E : Nat → List zV → zMm → Option zV → zMm → Prop} {a b : Nat} {v : Int} {pc : Nat} {i : Instr} {len : Nat} {lc : zLc} {st : List zV} {mem : zMm} {K : Nat → zLc → List zV → zMm → Prop} {Q : Option zV → zMm → Prop} {k : zLc → List zV → zMm → Prop}
theorem zs_1 (C : zAt p s m args c y G A) (hd : decode (zmt y).2.1 pc = .ok (i, len)) (hi : zIn_1 y a b v pc i len = true) (h : zst E (1, a, b, v) lc st mem K Q k) (hk : ∀ lc st mem, k lc st mem → zGo p l e R s m args below meth c Qf G A y (pc + len) lc st mem) : zGo p l e R s m args below meth c Qf G A y pc lc st mem := by
  obtain ⟨hx, hb, hml, hown, hts, hC⟩ := C
  intro H locs ls hI
  rw [zst_1] at h
  split at h
  case h_2 => exact h.elim
  rename_i x hx0
  obtain ⟨X, rfl⟩ := hI.2.1 _ _ hx0
  have hl := hI.1.at hx0
  rw [zph_i] at hl
  have g := hk _ _ _ h H locs ls (hI.push ⟨X, rfl⟩)
  rw [zmp_i] at g
  unfold zIn_1 at hi
  split at hi
  · simp only [Bool.and_eq_true, beq_iff_eq] at hi
    obtain ⟨e1, rfl⟩ := hi
    exact lv_iload_n hx hb hd e1 hl g
  · simp only [Bool.and_eq_true, beq_iff_eq] at hi
    obtain ⟨rfl, rfl⟩ := hi
    exact lv_iload hx hb hd hl g
  · cases hi
theorem zs_2 (C : zAt p s m args c y G A) (hd : decode (zmt y).2.1 pc = .ok (i, len)) (hi : zIn_2 y a b v pc i len = true) (h : zst E (2, a, b, v) lc st mem K Q k) (hk : ∀ lc st mem, k lc st mem → zGo p l e R s m args below meth c Qf G A y (pc + len) lc st mem) : zGo p l e R s m args below meth c Qf G A y pc lc st mem := by
  obtain ⟨hx, hb, hml, hown, hts, hC⟩ := C
  intro H locs ls hI
  rw [zst_2] at h
  split at h
  case h_2 => exact h.elim
  rename_i x hx0
  obtain ⟨X, rfl⟩ := hI.2.1 _ _ hx0
  have hl := hI.1.at hx0
  rw [zph_l] at hl
  have g := hk _ _ _ h H locs ls (hI.push ⟨X, rfl⟩)
  rw [zmp_l] at g
  unfold zIn_2 at hi
  split at hi
  · simp only [Bool.and_eq_true, beq_iff_eq] at hi
    obtain ⟨e1, rfl⟩ := hi
    exact lv_lload_n hx hb hd e1 hl g
  · simp only [Bool.and_eq_true, beq_iff_eq] at hi
    obtain ⟨rfl, rfl⟩ := hi
    exact lv_lload hx hb hd hl g
  · cases hi
theorem zs_3 (C : zAt p s m args c y G A) (hd : decode (zmt y).2.1 pc = .ok (i, len)) (hi : zIn_3 y a b v pc i len = true) (h : zst E (3, a, b, v) lc st mem K Q k) (hk : ∀ lc st mem, k lc st mem → zGo p l e R s m args below meth c Qf G A y (pc + len) lc st mem) : zGo p l e R s m args below meth c Qf G A y pc lc st mem := by
  obtain ⟨hx, hb, hml, hown, hts, hC⟩ := C
  intro H locs ls hI
  rw [zst_3] at h
  split at h
  case h_2 => exact h.elim
  rename_i x hx0
  have hl := hI.1.at hx0
  rw [zph_r] at hl
  have g := hk _ _ _ h H locs ls (hI.push trivial)
  rw [zmp_r] at g
  unfold zIn_3 at hi
  split at hi
  · simp only [Bool.and_eq_true, beq_iff_eq] at hi
    obtain ⟨e1, rfl⟩ := hi
    exact lv_aload_n hx hb hd e1 hl g
  · simp only [Bool.and_eq_true, beq_iff_eq] at hi
    obtain ⟨rfl, rfl⟩ := hi
    exact lv_aload hx hb hd hl g
  · cases hi
theorem zs_4 (C : zAt p s m args c y G A) (hd : decode (zmt y).2.1 pc = .ok (i, len)) (hi : zIn_4 y a b v pc i len = true) (h : zst E (4, a, b, v) lc st mem K Q k) (hk : ∀ lc st mem, k lc st mem → zGo p l e R s m args below meth c Qf G A y (pc + len) lc st mem) : zGo p l e R s m args below meth c Qf G A y pc lc st mem := by
  obtain ⟨hx, hb, hml, hown, hts, hC⟩ := C
  intro H locs ls hI
  rw [zst_4] at h
  split at h
  case h_2 => exact h.elim
  rename_i x st
  obtain ⟨hv, hI⟩ := hI.pop
  obtain ⟨⟨lv, hlv, hl⟩, hL, hR⟩ := hI
  obtain ⟨X, rfl⟩ := hv
  rw [zmp_i]
  have hst := zLR.st1 (G := G) (a := a) (v := .inl X.toInt) hl
  rw [zph_i] at hst
  have hL' : ∀ i v, zlg (zls lc a (some (.inl X.toInt))) i = some v → zCv v := by
    intro i v hv
    rcases zls_get _ _ _ _ _ hv with ⟨-, e⟩ | ⟨-, e2, -⟩
    · cases e; exact ⟨X, rfl⟩
    · exact hL _ _ e2
  have g := fun ls' hq => hk _ _ _ h H locs ls' ⟨⟨_, hq, hst⟩, hL', hR⟩
  unfold zIn_4 at hi
  split at hi
  · simp only [Bool.and_eq_true, beq_iff_eq, decide_eq_true_eq] at hi
    obtain ⟨⟨e1, rfl⟩, hn⟩ := hi
    exact lv_istore_n hx hb hd e1 hlv hn rfl g
  · simp only [Bool.and_eq_true, beq_iff_eq, decide_eq_true_eq] at hi
    obtain ⟨⟨rfl, rfl⟩, hn⟩ := hi
    exact lv_istore hx hb hd hlv hn rfl g
  · cases hi
theorem zs_5 (C : zAt p s m args c y G A) (hd : decode (zmt y).2.1 pc = .ok (i, len)) (hi : zIn_5 y a b v pc i len = true) (h : zst E (5, a, b, v) lc st mem K Q k) (hk : ∀ lc st mem, k lc st mem → zGo p l e R s m args below meth c Qf G A y (pc + len) lc st mem) : zGo p l e R s m args below meth c Qf G A y pc lc st mem := by
  obtain ⟨hx, hb, hml, hown, hts, hC⟩ := C
  intro H locs ls hI
  rw [zst_5] at h
  split at h
  case h_2 => exact h.elim
  rename_i x st
  obtain ⟨hv, hI⟩ := hI.pop
  obtain ⟨⟨lv, hlv, hl⟩, hL, hR⟩ := hI
  obtain ⟨X, rfl⟩ := hv
  rw [zmp_l]
  have hst := zLR.st2 (G := G) (a := a) (v := .inr (.inl X.toInt)) hl
  rw [zph_l] at hst
  have hL' : ∀ i v, zlg (zlL lc a (some (.inr (.inl X.toInt)))) i = some v → zCv v := by
    intro i v hv
    rcases zlL_get _ _ _ _ _ hv with ⟨-, e⟩ | ⟨-, -, e2, -⟩
    · cases e; exact ⟨X, rfl⟩
    · exact hL _ _ e2
  have g := fun ls' hq => hk _ _ _ h H locs ls' ⟨⟨_, hq, hst⟩, hL', hR⟩
  unfold zIn_5 at hi
  split at hi
  · simp only [Bool.and_eq_true, beq_iff_eq, decide_eq_true_eq] at hi
    obtain ⟨⟨e1, rfl⟩, hn⟩ := hi
    exact lv_lstore_n hx hb hd e1 hlv hn rfl g
  · simp only [Bool.and_eq_true, beq_iff_eq, decide_eq_true_eq] at hi
    obtain ⟨⟨rfl, rfl⟩, hn⟩ := hi
    exact lv_lstore hx hb hd hlv hn rfl g
  · cases hi
theorem zs_6 (C : zAt p s m args c y G A) (hd : decode (zmt y).2.1 pc = .ok (i, len)) (hi : zIn_6 y a b v pc i len = true) (h : zst E (6, a, b, v) lc st mem K Q k) (hk : ∀ lc st mem, k lc st mem → zGo p l e R s m args below meth c Qf G A y (pc + len) lc st mem) : zGo p l e R s m args below meth c Qf G A y pc lc st mem := by
  obtain ⟨hx, hb, hml, hown, hts, hC⟩ := C
  intro H locs ls hI
  rw [zst_6] at h
  split at h
  case h_2 => exact h.elim
  rename_i x st
  obtain ⟨hv, hI⟩ := hI.pop
  obtain ⟨⟨lv, hlv, hl⟩, hL, hR⟩ := hI
  rw [zmp_r]
  have hst := zLR.st1 (G := G) (a := a) (v := .inr (.inr x)) hl
  rw [zph_r] at hst
  have hL' : ∀ i v, zlg (zls lc a (some (.inr (.inr x)))) i = some v → zCv v := by
    intro i v hv
    rcases zls_get _ _ _ _ _ hv with ⟨-, e⟩ | ⟨-, e2, -⟩
    · cases e; exact trivial
    · exact hL _ _ e2
  have g := fun ls' hq => hk _ _ _ h H locs ls' ⟨⟨_, hq, hst⟩, hL', hR⟩
  unfold zIn_6 at hi
  split at hi
  · simp only [Bool.and_eq_true, beq_iff_eq, decide_eq_true_eq] at hi
    obtain ⟨⟨e1, rfl⟩, hn⟩ := hi
    exact lv_astore_n hx hb hd e1 hlv hn rfl g
  · simp only [Bool.and_eq_true, beq_iff_eq, decide_eq_true_eq] at hi
    obtain ⟨⟨rfl, rfl⟩, hn⟩ := hi
    exact lv_astore hx hb hd hlv hn rfl g
  · cases hi
theorem zs_7 (C : zAt p s m args c y G A) (hd : decode (zmt y).2.1 pc = .ok (i, len)) (hi : zIn_7 y a b v pc i len = true) (h : zst E (7, a, b, v) lc st mem K Q k) (hk : ∀ lc st mem, k lc st mem → zGo p l e R s m args below meth c Qf G A y (pc + len) lc st mem) : zGo p l e R s m args below meth c Qf G A y pc lc st mem := by
  obtain ⟨hx, hb, hml, hown, hts, hC⟩ := C
  intro H locs ls hI
  have h : k lc (.inl v :: st) mem := h
  have hv : v = (Int32.ofInt v).toInt := by
    unfold zIn_7 at hi
    split at hi <;> first | (simp only [Bool.and_eq_true, beq_iff_eq] at hi; exact hi.2.1) | cases hi
  have g := hk _ _ _ h H locs ls (hI.push ⟨Int32.ofInt v, hv⟩)
  rw [hv, zmp_i] at g
  unfold zIn_7 at hi
  split at hi
  · simp only [Bool.and_eq_true, beq_iff_eq] at hi
    obtain ⟨rfl, -, e1⟩ := hi
    exact lv_iconst hx hb hd e1 g
  · simp only [Bool.and_eq_true, beq_iff_eq] at hi
    obtain ⟨rfl, -, e1⟩ := hi
    exact lv_bipush hx hb hd e1 g
  · simp only [Bool.and_eq_true, beq_iff_eq] at hi
    obtain ⟨rfl, -, e1⟩ := hi
    exact lv_sipush hx hb hd e1 g
  · simp only [Bool.and_eq_true, beq_iff_eq] at hi
    obtain ⟨rfl, -, e1⟩ := hi
    exact lv_ldc hx hb hown (hts _ (zCI_in e1)) hd g
  · simp only [Bool.and_eq_true, beq_iff_eq] at hi
    obtain ⟨rfl, -, e1⟩ := hi
    exact lv_ldcw hx hb hown (hts _ (zCI_in e1)) hd g
  · cases hi
theorem zs_8 (C : zAt p s m args c y G A) (hd : decode (zmt y).2.1 pc = .ok (i, len)) (hi : zIn_8 y a b v pc i len = true) (h : zst E (8, a, b, v) lc st mem K Q k) (hk : ∀ lc st mem, k lc st mem → zGo p l e R s m args below meth c Qf G A y (pc + len) lc st mem) : zGo p l e R s m args below meth c Qf G A y pc lc st mem := by
  obtain ⟨hx, hb, hml, hown, hts, hC⟩ := C
  intro H locs ls hI
  have h : k lc (.inr (.inl v) :: st) mem := h
  have hv : v = (Int64.ofInt v).toInt := by
    unfold zIn_8 at hi
    split at hi <;> first | (simp only [Bool.and_eq_true, beq_iff_eq] at hi; exact hi.2.1) | cases hi
  have g := hk _ _ _ h H locs ls (hI.push ⟨Int64.ofInt v, hv⟩)
  rw [hv, zmp_l] at g
  unfold zIn_8 at hi
  split at hi
  · simp only [Bool.and_eq_true, beq_iff_eq] at hi
    obtain ⟨rfl, -, e1⟩ := hi
    exact lv_lconst hx hb hd e1 g
  · simp only [Bool.and_eq_true, beq_iff_eq] at hi
    obtain ⟨rfl, -, e1⟩ := hi
    exact lv_ldc2 hx hb hown (hts _ (zCL_in e1)) hd g
  · cases hi
theorem zs_9 (C : zAt p s m args c y G A) (hd : decode (zmt y).2.1 pc = .ok (i, len)) (hi : zIn_9 y a b v pc i len = true) (h : zst E (9, a, b, v) lc st mem K Q k) (hk : ∀ lc st mem, k lc st mem → zGo p l e R s m args below meth c Qf G A y (pc + len) lc st mem) : zGo p l e R s m args below meth c Qf G A y pc lc st mem := by
  obtain ⟨hx, hb, hml, hown, hts, hC⟩ := C
  intro H locs ls hI
  have h : k lc (.inr (.inr (-10 - a)) :: st) mem := h
  have g := hk _ _ _ h H locs ls (hI.push trivial)
  unfold zIn_9 at hi
  split at hi
  · rename_i n
    simp only [Bool.and_eq_true, beq_iff_eq, decide_eq_true_eq] at hi
    obtain ⟨rfl, e1, e2, e3⟩ := hi
    have hR := hC.2.2.2.1 a e3
    rw [zmp_r, show zra G (-10 - (a : Int)) = G.2.2.2.1 a by unfold zra; rw [if_neg (by omega), if_pos (by omega), show (-10 - (-10 - (a : Int))).toNat = a by omega]] at g
    rw [e1] at hown
    have e4 : zSIX.getD a 0 = n := by rw [List.getD_eq_getElem?_getD, e2]; rfl
    rw [e4] at hR
    exact va_ldcS hx hb hown hR hd g
  · cases hi
theorem zs_10 (C : zAt p s m args c y G A) (hd : decode (zmt y).2.1 pc = .ok (i, len)) (hi : zIn_10 y a b v pc i len = true) (h : zst E (10, a, b, v) lc st mem K Q k) (hk : ∀ lc st mem, k lc st mem → zGo p l e R s m args below meth c Qf G A y (pc + len) lc st mem) : zGo p l e R s m args below meth c Qf G A y pc lc st mem := by
  obtain ⟨hx, hb, hml, hown, hts, hC⟩ := C
  intro H locs ls hI
  rw [zst_10] at h
  split at h
  case h_2 => exact h.elim
  rename_i cc st
  obtain ⟨hkd, h⟩ := h
  obtain ⟨-, hI⟩ := hI.pop
  unfold zIn_10 at hi
  split at hi
  case h_2 => cases hi
  simp only [Bool.and_eq_true, Bool.or_eq_true, beq_iff_eq, decide_eq_true_eq] at hi
  obtain ⟨rfl, e1, e2, e3, e4⟩ := hi
  have hne : ¬ zkd cc = 0 := by omega
  have hw := zWl_at G mem hne
  rw [zcE_ob G mem hkd] at hw
  have hv := zfs_at G mem cc a b e3
  have hlo : zlo cc b ↔ zft a b = 2 := by
    unfold zlo
    rw [show (zkd cc - 100).toNat = a by omega, Int.toNat_natCast]
    constructor
    · rintro (q | q)
      · omega
      · exact q.2
    · intro q; exact Or.inr ⟨by omega, q⟩
  obtain ⟨X, hX⟩ := (hI.2.2.2.1 cc b).2 (fun q => by rw [hlo] at q; omega)
  rw [hX] at h hv
  have g := hk _ _ _ h H locs ls (hI.push ⟨X, rfl⟩)
  rw [zmp_i] at g
  have hv2 : zfv G (zft a b) (zrf cc b) X.toInt = .int X := by unfold zfv; rw [if_neg (by omega), if_neg (by omega), Int32.ofInt_toInt]
  rw [hv2] at hv
  rw [zmp_r]
  exact va_get (D := G.1) (cl := zcl12) (tys := ztys G) (ref := (zT a b).1) hx hb hts (zU_all a e2) hown hC.1 hI.2.2.2.2.1 cc.toNat hw (zcl12_at a e2) b e3 (hts _ (zFL_in e1)) (fun _ q => q) hv hd g
theorem zs_11 (C : zAt p s m args c y G A) (hd : decode (zmt y).2.1 pc = .ok (i, len)) (hi : zIn_11 y a b v pc i len = true) (h : zst E (11, a, b, v) lc st mem K Q k) (hk : ∀ lc st mem, k lc st mem → zGo p l e R s m args below meth c Qf G A y (pc + len) lc st mem) : zGo p l e R s m args below meth c Qf G A y pc lc st mem := by
  obtain ⟨hx, hb, hml, hown, hts, hC⟩ := C
  intro H locs ls hI
  rw [zst_11] at h
  split at h
  case h_2 => exact h.elim
  rename_i cc st
  obtain ⟨hkd, h⟩ := h
  obtain ⟨-, hI⟩ := hI.pop
  unfold zIn_11 at hi
  split at hi
  case h_2 => cases hi
  simp only [Bool.and_eq_true, Bool.or_eq_true, beq_iff_eq, decide_eq_true_eq] at hi
  obtain ⟨rfl, e1, e2, e3, e4⟩ := hi
  have hne : ¬ zkd cc = 0 := by omega
  have hw := zWl_at G mem hne
  rw [zcE_ob G mem hkd] at hw
  have hv := zfs_at G mem cc a b e3
  have hlo : zlo cc b ↔ zft a b = 2 := by
    unfold zlo
    rw [show (zkd cc - 100).toNat = a by omega, Int.toNat_natCast]
    constructor
    · rintro (q | q)
      · omega
      · exact q.2
    · intro q; exact Or.inr ⟨by omega, q⟩
  obtain ⟨X, hX⟩ := (hI.2.2.2.1 cc b).1 (hlo.mpr e4)
  rw [hX] at h hv
  have g := hk _ _ _ h H locs ls (hI.push ⟨X, rfl⟩)
  rw [zmp_l] at g
  have hv2 : zfv G (zft a b) (zrf cc b) X.toInt = .long X := by unfold zfv; rw [if_neg (by omega), if_pos e4, Int64.ofInt_toInt]
  rw [hv2] at hv
  rw [zmp_r]
  exact va_get (D := G.1) (cl := zcl12) (tys := ztys G) (ref := (zT a b).1) hx hb hts (zU_all a e2) hown hC.1 hI.2.2.2.2.1 cc.toNat hw (zcl12_at a e2) b e3 (hts _ (zFL_in e1)) (fun _ q => q) hv hd g
theorem zs_12 (C : zAt p s m args c y G A) (hd : decode (zmt y).2.1 pc = .ok (i, len)) (hi : zIn_12 y a b v pc i len = true) (h : zst E (12, a, b, v) lc st mem K Q k) (hk : ∀ lc st mem, k lc st mem → zGo p l e R s m args below meth c Qf G A y (pc + len) lc st mem) : zGo p l e R s m args below meth c Qf G A y pc lc st mem := by
  obtain ⟨hx, hb, hml, hown, hts, hC⟩ := C
  intro H locs ls hI
  rw [zst_12] at h
  split at h
  case h_2 => exact h.elim
  rename_i cc st
  obtain ⟨hkd, h⟩ := h
  obtain ⟨-, hI⟩ := hI.pop
  unfold zIn_12 at hi
  split at hi
  case h_2 => cases hi
  simp only [Bool.and_eq_true, Bool.or_eq_true, beq_iff_eq, decide_eq_true_eq] at hi
  obtain ⟨rfl, e1, e2, e3, e4⟩ := hi
  have hne : ¬ zkd cc = 0 := by omega
  have hw := zWl_at G mem hne
  rw [zcE_ob G mem hkd] at hw
  have hv := zfs_at G mem cc a b e3
  have hlo : zlo cc b ↔ zft a b = 2 := by
    unfold zlo
    rw [show (zkd cc - 100).toNat = a by omega, Int.toNat_natCast]
    constructor
    · rintro (q | q)
      · omega
      · exact q.2
    · intro q; exact Or.inr ⟨by omega, q⟩
  have g := hk _ _ _ h H locs ls (hI.push trivial)
  rw [zmp_r] at g
  have hv2 : zfv G (zft a b) (zrf cc b) (mem cc b) = .ref (zra G (zrf cc b)) := by unfold zfv; rw [if_pos e4]
  rw [hv2] at hv
  rw [zmp_r]
  exact va_get (D := G.1) (cl := zcl12) (tys := ztys G) (ref := (zT a b).1) hx hb hts (zU_all a e2) hown hC.1 hI.2.2.2.2.1 cc.toNat hw (zcl12_at a e2) b e3 (hts _ (zFL_in e1)) (fun _ q => q) hv hd g
theorem zs_13 (C : zAt p s m args c y G A) (hd : decode (zmt y).2.1 pc = .ok (i, len)) (hi : zIn_13 y a b v pc i len = true) (h : zst E (13, a, b, v) lc st mem K Q k) (hk : ∀ lc st mem, k lc st mem → zGo p l e R s m args below meth c Qf G A y (pc + len) lc st mem) : zGo p l e R s m args below meth c Qf G A y pc lc st mem := by
  obtain ⟨hx, hb, hml, hown, hts, hC⟩ := C
  intro H locs ls hI
  rw [zst_13] at h
  split at h
  case h_2 => exact h.elim
  rename_i x cc st
  obtain ⟨hkd, h⟩ := h
  obtain ⟨hv, hI1⟩ := hI.pop
  obtain ⟨-, hI2⟩ := hI1.pop
  obtain ⟨X, rfl⟩ := hv
  unfold zIn_13 at hi
  split at hi
  case h_2 => cases hi
  simp only [Bool.and_eq_true, Bool.or_eq_true, beq_iff_eq, decide_eq_true_eq] at hi
  obtain ⟨rfl, e1, e2, e3, e4⟩ := hi
  have hne : ¬ zkd cc = 0 := by omega
  have hw := zWl_at G mem hne
  rw [zcE_ob G mem hkd] at hw
  have hlo : zlo cc b ↔ zft a b = 2 := by
    unfold zlo
    rw [show (zkd cc - 100).toNat = a by omega, Int.toNat_natCast]
    constructor
    · rintro (q | q)
      · omega
      · exact q.2
    · intro q; exact Or.inr ⟨by omega, q⟩
  have hset := zWl_set G mem (zmu mem cc b X.toInt) hne (zmu_ne mem cc b X.toInt)
  rw [zcE_ob G _ hkd, ← zfs_set G mem cc a b e3 X.toInt (by omega)] at hset
  rw [if_neg (by omega), Int32.ofInt_toInt] at hset
  have hcm : zCm (zmu mem cc b X.toInt) := hI2.2.2.2.1.put (fun q => by rw [hlo] at q; omega) (fun _ => ⟨X, rfl⟩)
  rw [zmp_i, zmp_r]
  have ty := (zft_all a e2 b e3).resolve_left (by omega) |>.resolve_right (fun q => by rcases q with q | q <;> omega)
  refine va_put (D := G.1) (cl := zcl12) (tys := ztys G) (ref := (zT a b).1) hx hb hts (zU_all a e2) (zty a) (zty_all a e2) (znm_all a e2) hown hC.1 hI2.2.2.2.2.1 (hC.D mem) hI2.2.2.2.2.2 cc.toNat hw (zcl12_at a e2) b e3 (hts _ (zFL_in e1)) (fun _ q => q) ((zft_fin a e2 b e3).resolve_right (by omega)) ty.2 rfl rfl (by unfold zfs; simpa using e3) hd (fun H1 locs1 hP1 _ hS1 => ?_)
  rw [hset] at hP1
  exact hk _ _ _ h H1 locs1 ls (hI2.mem hcm hP1 hS1)
theorem zs_14 (C : zAt p s m args c y G A) (hd : decode (zmt y).2.1 pc = .ok (i, len)) (hi : zIn_14 y a b v pc i len = true) (h : zst E (14, a, b, v) lc st mem K Q k) (hk : ∀ lc st mem, k lc st mem → zGo p l e R s m args below meth c Qf G A y (pc + len) lc st mem) : zGo p l e R s m args below meth c Qf G A y pc lc st mem := by
  obtain ⟨hx, hb, hml, hown, hts, hC⟩ := C
  intro H locs ls hI
  rw [zst_14] at h
  split at h
  case h_2 => exact h.elim
  rename_i x cc st
  obtain ⟨hkd, h⟩ := h
  obtain ⟨hv, hI1⟩ := hI.pop
  obtain ⟨-, hI2⟩ := hI1.pop
  obtain ⟨X, rfl⟩ := hv
  unfold zIn_14 at hi
  split at hi
  case h_2 => cases hi
  simp only [Bool.and_eq_true, Bool.or_eq_true, beq_iff_eq, decide_eq_true_eq] at hi
  obtain ⟨rfl, e1, e2, e3, e4⟩ := hi
  have hne : ¬ zkd cc = 0 := by omega
  have hw := zWl_at G mem hne
  rw [zcE_ob G mem hkd] at hw
  have hlo : zlo cc b ↔ zft a b = 2 := by
    unfold zlo
    rw [show (zkd cc - 100).toNat = a by omega, Int.toNat_natCast]
    constructor
    · rintro (q | q)
      · omega
      · exact q.2
    · intro q; exact Or.inr ⟨by omega, q⟩
  have hset := zWl_set G mem (zmu mem cc b X.toInt) hne (zmu_ne mem cc b X.toInt)
  rw [zcE_ob G _ hkd, ← zfs_set G mem cc a b e3 X.toInt (by omega)] at hset
  rw [if_pos e4, Int64.ofInt_toInt] at hset
  have hcm : zCm (zmu mem cc b X.toInt) := hI2.2.2.2.1.put (fun _ => ⟨X, rfl⟩) (fun q => absurd (hlo.mpr e4) q)
  rw [zmp_l, zmp_r]
  have ty := (zft_all a e2 b e3).resolve_left (by omega) |>.resolve_left (fun q => by omega) |>.resolve_right (fun q => by omega)
  refine va_put (D := G.1) (cl := zcl12) (tys := ztys G) (ref := (zT a b).1) hx hb hts (zU_all a e2) (zty a) (zty_all a e2) (znm_all a e2) hown hC.1 hI2.2.2.2.2.1 (hC.D mem) hI2.2.2.2.2.2 cc.toNat hw (zcl12_at a e2) b e3 (hts _ (zFL_in e1)) (fun _ q => q) ((zft_fin a e2 b e3).resolve_right (by omega)) ty.2 rfl rfl (by unfold zfs; simpa using e3) hd (fun H1 locs1 hP1 _ hS1 => ?_)
  rw [hset] at hP1
  exact hk _ _ _ h H1 locs1 ls (hI2.mem hcm hP1 hS1)
theorem zs_15 (C : zAt p s m args c y G A) (hd : decode (zmt y).2.1 pc = .ok (i, len)) (hi : zIn_15 y a b v pc i len = true) (h : zst E (15, a, b, v) lc st mem K Q k) (hk : ∀ lc st mem, k lc st mem → zGo p l e R s m args below meth c Qf G A y (pc + len) lc st mem) : zGo p l e R s m args below meth c Qf G A y pc lc st mem := by
  obtain ⟨hx, hb, hml, hown, hts, hC⟩ := C
  intro H locs ls hI
  rw [zst_15] at h
  split at h
  case h_2 => exact h.elim
  rename_i x cc st
  obtain ⟨hkd, h⟩ := h
  obtain ⟨hv, hI1⟩ := hI.pop
  obtain ⟨-, hI2⟩ := hI1.pop
  obtain ⟨X, rfl⟩ := hv
  obtain ⟨hx01, h⟩ := h
  unfold zIn_15 at hi
  split at hi
  case h_2 => cases hi
  simp only [Bool.and_eq_true, Bool.or_eq_true, beq_iff_eq, decide_eq_true_eq] at hi
  obtain ⟨rfl, e1, e2, e3, e4⟩ := hi
  have hne : ¬ zkd cc = 0 := by omega
  have hw := zWl_at G mem hne
  rw [zcE_ob G mem hkd] at hw
  have hlo : zlo cc b ↔ zft a b = 2 := by
    unfold zlo
    rw [show (zkd cc - 100).toNat = a by omega, Int.toNat_natCast]
    constructor
    · rintro (q | q)
      · omega
      · exact q.2
    · intro q; exact Or.inr ⟨by omega, q⟩
  have hset := zWl_set G mem (zmu mem cc b X.toInt) hne (zmu_ne mem cc b X.toInt)
  rw [zcE_ob G _ hkd, ← zfs_set G mem cc a b e3 X.toInt (by omega)] at hset
  rw [if_neg (by omega), Int32.ofInt_toInt] at hset
  have hcm : zCm (zmu mem cc b X.toInt) := hI2.2.2.2.1.put (fun q => by rw [hlo] at q; omega) (fun _ => ⟨X, rfl⟩)
  rw [zmp_i, zmp_r]
  have ty := (zft_all a e2 b e3).resolve_left (by omega) |>.resolve_left (fun q => by omega) |>.resolve_left (fun q => by omega)
  have hX01 : X = 0 ∨ X = 1 := hx01.elim (fun q => Or.inl (Int32.toInt_inj.mp q)) (fun q => Or.inr (Int32.toInt_inj.mp q))
  have hnb : narrow .boolean (.int X) = .int X := by rcases hX01 with rfl | rfl <;> rfl
  have hfb : fits .boolean (.int X) = true := by rcases hX01 with rfl | rfl <;> rfl
  refine va_put (D := G.1) (cl := zcl12) (tys := ztys G) (ref := (zT a b).1) hx hb hts (zU_all a e2) (zty a) (zty_all a e2) (znm_all a e2) hown hC.1 hI2.2.2.2.2.1 (hC.D mem) hI2.2.2.2.2.2 cc.toNat hw (zcl12_at a e2) b e3 (hts _ (zFL_in e1)) (fun _ q => q) ((zft_fin a e2 b e3).resolve_right (by omega)) ty.2 hnb hfb (by unfold zfs; simpa using e3) hd (fun H1 locs1 hP1 _ hS1 => ?_)
  rw [hset] at hP1
  exact hk _ _ _ h H1 locs1 ls (hI2.mem hcm hP1 hS1)
end ZS
