theorem q1 : (Jvm.Cond.selects "Pegboardry$Solver" ({ cls := "Pegboardry$Solver", name := "run", desc := "(LPegboardry$Puzzle;I)V" } : Jvm.MethodName) ({ cls := "Pegboardry$Solver", name := "run", desc := "(LPegboardry$Puzzle;I)V" } : Jvm.MethodName)) ∈ WW := inW 1 (by decide +kernel) rfl
theorem q24 : (Jvm.Cond.selects "Pegboardry$Puzzle" ({ cls := "Pegboardry$Puzzle", name := "putGiven", desc := "(II)V" } : Jvm.MethodName) ({ cls := "Pegboardry$Puzzle", name := "putGiven", desc := "(II)V" } : Jvm.MethodName)) ∈ WW := inW 24 (by decide +kernel) rfl
theorem q26 : (Jvm.Cond.selects "Pegboardry$Draws" ({ cls := "Pegboardry$Draws", name := "mix", desc := "([I)V" } : Jvm.MethodName) ({ cls := "Pegboardry$Draws", name := "mix", desc := "([I)V" } : Jvm.MethodName)) ∈ WW := inW 26 (by decide +kernel) rfl
theorem q28 : (Jvm.Cond.selects "Pegboardry" ({ cls := "Pegboardry", name := "takeGivensAway", desc := "(LPegboardry$Puzzle;LPegboardry$Draws;I)V" } : Jvm.MethodName) ({ cls := "Pegboardry", name := "takeGivensAway", desc := "(LPegboardry$Puzzle;LPegboardry$Draws;I)V" } : Jvm.MethodName)) ∈ WW := inW 28 (by decide +kernel) rfl
theorem q57 : (Jvm.Cond.initialized "Pegboardry$Puzzle") ∈ WW := inW 57 (by decide +kernel) rfl
theorem nq147 : (Jvm.Cond.fieldLinkNest "Pegboardry" (148 : Nat) "Pegboardry$Solver" "outcome" "C" "Pegboardry") ∈ NWs := inN 147 (by decide +kernel) rfl
theorem q208 : (Jvm.Cond.methodLink "Pegboardry" (45 : Nat) ({ cls := "java/util/ArrayList", name := "size", desc := "()I" } : Jvm.MethodName)) ∈ WW := inW 208 (by decide +kernel) rfl
theorem q209 : (Jvm.Cond.instanceMethod ({ cls := "java/util/ArrayList", name := "size", desc := "()I" } : Jvm.MethodName)) ∈ WW := inW 209 (by decide +kernel) rfl
theorem q210 : (Jvm.Cond.selects "java/util/ArrayList" ({ cls := "java/util/ArrayList", name := "size", desc := "()I" } : Jvm.MethodName) ({ cls := "java/util/ArrayList", name := "size", desc := "()I" } : Jvm.MethodName)) ∈ WW := inW 210 (by decide +kernel) rfl
theorem q211 : (Jvm.Cond.code ({ cls := "java/util/ArrayList", name := "size", desc := "()I" } : Jvm.MethodName) prog_36_method_8_code (1 : Nat) (Option.some Jvm.ClassFile.FieldType.int)) ∈ WW := inW 211 (by decide +kernel) rfl
theorem q226 : (Jvm.Cond.classLink "Pegboardry" (56 : Nat) "Pegboardry$Puzzle") ∈ WW := inW 226 (by decide +kernel) rfl
theorem q235 : (Jvm.Cond.instantiable "Pegboardry$Puzzle" (7 : Nat)) ∈ WW := inW 235 (by decide +kernel) rfl
theorem q239 : (Jvm.Cond.instanceMethod ({ cls := "Pegboardry$Solver", name := "run", desc := "(LPegboardry$Puzzle;I)V" } : Jvm.MethodName)) ∈ WW := inW 239 (by decide +kernel) rfl
theorem q240 : (Jvm.Cond.code ({ cls := "Pegboardry$Solver", name := "run", desc := "(LPegboardry$Puzzle;I)V" } : Jvm.MethodName) prog_7_method_2_code (5 : Nat) (Option.none : Option Jvm.ClassFile.FieldType)) ∈ WW := inW 240 (by decide +kernel) rfl
theorem nq429 : (Jvm.Cond.methodLinkNest "Pegboardry" (58 : Nat) ({ cls := "Pegboardry$Puzzle", name := "<init>", desc := "()V" } : Jvm.MethodName) "Pegboardry") ∈ NWs := inN 429 (by decide +kernel) rfl
theorem q430 : (Jvm.Cond.instanceMethod ({ cls := "Pegboardry$Puzzle", name := "<init>", desc := "()V" } : Jvm.MethodName)) ∈ WW := inW 430 (by decide +kernel) rfl
theorem q431 : (Jvm.Cond.code ({ cls := "Pegboardry$Puzzle", name := "<init>", desc := "()V" } : Jvm.MethodName) prog_5_method_1_code (1 : Nat) (Option.none : Option Jvm.ClassFile.FieldType)) ∈ WW := inW 431 (by decide +kernel) rfl
theorem nq440 : (Jvm.Cond.fieldLinkNest "Pegboardry" (74 : Nat) "Pegboardry$Puzzle" "givenRow" "[I" "Pegboardry") ∈ NWs := inN 440 (by decide +kernel) rfl
theorem q468 : (Jvm.Cond.methodLink "Pegboardry" (59 : Nat) ({ cls := "java/util/ArrayList", name := "add", desc := "(Ljava/lang/Object;)Z" } : Jvm.MethodName)) ∈ WW := inW 468 (by decide +kernel) rfl
theorem q469 : (Jvm.Cond.instanceMethod ({ cls := "java/util/ArrayList", name := "add", desc := "(Ljava/lang/Object;)Z" } : Jvm.MethodName)) ∈ WW := inW 469 (by decide +kernel) rfl
theorem q470 : (Jvm.Cond.selects "java/util/ArrayList" ({ cls := "java/util/ArrayList", name := "add", desc := "(Ljava/lang/Object;)Z" } : Jvm.MethodName) ({ cls := "java/util/ArrayList", name := "add", desc := "(Ljava/lang/Object;)Z" } : Jvm.MethodName)) ∈ WW := inW 470 (by decide +kernel) rfl
theorem q471 : (Jvm.Cond.code ({ cls := "java/util/ArrayList", name := "add", desc := "(Ljava/lang/Object;)Z" } : Jvm.MethodName) prog_36_method_25_code (2 : Nat) (Option.some Jvm.ClassFile.FieldType.boolean)) ∈ WW := inW 471 (by decide +kernel) rfl
theorem nq606 : (Jvm.Cond.methodLinkNest "Pegboardry" (78 : Nat) ({ cls := "Pegboardry$Puzzle", name := "putGiven", desc := "(II)V" } : Jvm.MethodName) "Pegboardry") ∈ NWs := inN 606 (by decide +kernel) rfl
theorem q608 : (Jvm.Cond.instanceMethod ({ cls := "Pegboardry$Puzzle", name := "putGiven", desc := "(II)V" } : Jvm.MethodName)) ∈ WW := inW 608 (by decide +kernel) rfl
theorem q609 : (Jvm.Cond.code ({ cls := "Pegboardry$Puzzle", name := "putGiven", desc := "(II)V" } : Jvm.MethodName) prog_5_method_2_code (3 : Nat) (Option.none : Option Jvm.ClassFile.FieldType)) ∈ WW := inW 609 (by decide +kernel) rfl
theorem q665 : (Jvm.Cond.classLink "Pegboardry" (114 : Nat) "Pegboardry$Draws") ∈ WW := inW 665 (by decide +kernel) rfl
theorem q666 : (Jvm.Cond.instantiable "Pegboardry$Draws" (1 : Nat)) ∈ WW := inW 666 (by decide +kernel) rfl
theorem nq667 : (Jvm.Cond.methodLinkNest "Pegboardry" (116 : Nat) ({ cls := "Pegboardry$Draws", name := "<init>", desc := "(I)V" } : Jvm.MethodName) "Pegboardry") ∈ NWs := inN 667 (by decide +kernel) rfl
theorem q668 : (Jvm.Cond.instanceMethod ({ cls := "Pegboardry$Draws", name := "<init>", desc := "(I)V" } : Jvm.MethodName)) ∈ WW := inW 668 (by decide +kernel) rfl
theorem q669 : (Jvm.Cond.code ({ cls := "Pegboardry$Draws", name := "<init>", desc := "(I)V" } : Jvm.MethodName) prog_4_method_1_code (2 : Nat) (Option.none : Option Jvm.ClassFile.FieldType)) ∈ WW := inW 669 (by decide +kernel) rfl
theorem q675 : (Jvm.Cond.methodLink "Pegboardry" (118 : Nat) ({ cls := "Pegboardry", name := "giveAllCells", desc := "(LPegboardry$Puzzle;LPegboardry$Draws;)V" } : Jvm.MethodName)) ∈ WW := inW 675 (by decide +kernel) rfl
theorem q676 : (Jvm.Cond.static ({ cls := "Pegboardry", name := "giveAllCells", desc := "(LPegboardry$Puzzle;LPegboardry$Draws;)V" } : Jvm.MethodName)) ∈ WW := inW 676 (by decide +kernel) rfl
theorem q677 : (Jvm.Cond.code ({ cls := "Pegboardry", name := "giveAllCells", desc := "(LPegboardry$Puzzle;LPegboardry$Draws;)V" } : Jvm.MethodName) prog_1_method_38_code (8 : Nat) (Option.none : Option Jvm.ClassFile.FieldType)) ∈ WW := inW 677 (by decide +kernel) rfl
theorem nq678 : (Jvm.Cond.methodLinkNest "Pegboardry" (262 : Nat) ({ cls := "Pegboardry$Draws", name := "mix", desc := "([I)V" } : Jvm.MethodName) "Pegboardry") ∈ NWs := inN 678 (by decide +kernel) rfl
theorem q680 : (Jvm.Cond.instanceMethod ({ cls := "Pegboardry$Draws", name := "mix", desc := "([I)V" } : Jvm.MethodName)) ∈ WW := inW 680 (by decide +kernel) rfl
theorem q681 : (Jvm.Cond.code ({ cls := "Pegboardry$Draws", name := "mix", desc := "([I)V" } : Jvm.MethodName) prog_4_method_3_code (5 : Nat) (Option.none : Option Jvm.ClassFile.FieldType)) ∈ WW := inW 681 (by decide +kernel) rfl
theorem q690 : (Jvm.Cond.methodLink "Pegboardry" (122 : Nat) ({ cls := "Pegboardry", name := "takeGivensAway", desc := "(LPegboardry$Puzzle;LPegboardry$Draws;I)V" } : Jvm.MethodName)) ∈ WW := inW 690 (by decide +kernel) rfl
theorem q692 : (Jvm.Cond.instanceMethod ({ cls := "Pegboardry", name := "takeGivensAway", desc := "(LPegboardry$Puzzle;LPegboardry$Draws;I)V" } : Jvm.MethodName)) ∈ WW := inW 692 (by decide +kernel) rfl
theorem q693 : (Jvm.Cond.code ({ cls := "Pegboardry", name := "takeGivensAway", desc := "(LPegboardry$Puzzle;LPegboardry$Draws;I)V" } : Jvm.MethodName) prog_1_method_39_code (7 : Nat) (Option.none : Option Jvm.ClassFile.FieldType)) ∈ WW := inW 693 (by decide +kernel) rfl
theorem nq694 : (Jvm.Cond.methodLinkNest "Pegboardry" (266 : Nat) ({ cls := "Pegboardry$Draws", name := "below", desc := "(I)I" } : Jvm.MethodName) "Pegboardry") ∈ NWs := inN 694 (by decide +kernel) rfl
theorem nq695 : (Jvm.Cond.methodLinkNest "Pegboardry" (269 : Nat) ({ cls := "Pegboardry$Solver", name := "run", desc := "(LPegboardry$Puzzle;I)V" } : Jvm.MethodName) "Pegboardry") ∈ NWs := inN 695 (by decide +kernel) rfl
theorem nq1386 : (Jvm.Cond.castable "Pegboardry$Puzzle" "java/lang/Object") ∈ NWs := inN 1386 (by decide +kernel) rfl
theorem dX6_giveAllCells_0 : decode cX6_giveAllCells 0 = .ok (.iconst 4, 1) := by decide +kernel
theorem dX6_giveAllCells_1 : decode cX6_giveAllCells 1 = .ok (.newarray .int, 2) := by decide +kernel
theorem dX6_giveAllCells_3 : decode cX6_giveAllCells 3 = .ok (.dup, 1) := by decide +kernel
theorem dX6_giveAllCells_4 : decode cX6_giveAllCells 4 = .ok (.iconst 0, 1) := by decide +kernel
theorem dX6_giveAllCells_5 : decode cX6_giveAllCells 5 = .ok (.iconst 0, 1) := by decide +kernel
theorem dX6_giveAllCells_6 : decode cX6_giveAllCells 6 = .ok (.iastore, 1) := by decide +kernel
theorem dX6_giveAllCells_7 : decode cX6_giveAllCells 7 = .ok (.dup, 1) := by decide +kernel
theorem dX6_giveAllCells_8 : decode cX6_giveAllCells 8 = .ok (.iconst 1, 1) := by decide +kernel
theorem dX6_giveAllCells_9 : decode cX6_giveAllCells 9 = .ok (.iconst 1, 1) := by decide +kernel
theorem dX6_giveAllCells_10 : decode cX6_giveAllCells 10 = .ok (.iastore, 1) := by decide +kernel
theorem dX6_giveAllCells_11 : decode cX6_giveAllCells 11 = .ok (.dup, 1) := by decide +kernel
theorem dX6_giveAllCells_12 : decode cX6_giveAllCells 12 = .ok (.iconst 2, 1) := by decide +kernel
theorem dX6_giveAllCells_13 : decode cX6_giveAllCells 13 = .ok (.iconst 2, 1) := by decide +kernel
theorem dX6_giveAllCells_14 : decode cX6_giveAllCells 14 = .ok (.iastore, 1) := by decide +kernel
theorem dX6_giveAllCells_15 : decode cX6_giveAllCells 15 = .ok (.dup, 1) := by decide +kernel
theorem dX6_giveAllCells_16 : decode cX6_giveAllCells 16 = .ok (.iconst 3, 1) := by decide +kernel
theorem dX6_giveAllCells_17 : decode cX6_giveAllCells 17 = .ok (.iconst 3, 1) := by decide +kernel
theorem dX6_giveAllCells_18 : decode cX6_giveAllCells 18 = .ok (.iastore, 1) := by decide +kernel
theorem dX6_giveAllCells_19 : decode cX6_giveAllCells 19 = .ok (.astore_n 2, 1) := by decide +kernel
theorem dX6_giveAllCells_20 : decode cX6_giveAllCells 20 = .ok (.iconst 4, 1) := by decide +kernel
theorem dX6_giveAllCells_21 : decode cX6_giveAllCells 21 = .ok (.newarray .int, 2) := by decide +kernel
theorem dX6_giveAllCells_23 : decode cX6_giveAllCells 23 = .ok (.dup, 1) := by decide +kernel
theorem dX6_giveAllCells_24 : decode cX6_giveAllCells 24 = .ok (.iconst 0, 1) := by decide +kernel
theorem dX6_giveAllCells_25 : decode cX6_giveAllCells 25 = .ok (.iconst 0, 1) := by decide +kernel
theorem dX6_giveAllCells_26 : decode cX6_giveAllCells 26 = .ok (.iastore, 1) := by decide +kernel
theorem dX6_giveAllCells_27 : decode cX6_giveAllCells 27 = .ok (.dup, 1) := by decide +kernel
theorem dX6_giveAllCells_28 : decode cX6_giveAllCells 28 = .ok (.iconst 1, 1) := by decide +kernel
theorem dX6_giveAllCells_29 : decode cX6_giveAllCells 29 = .ok (.iconst 1, 1) := by decide +kernel
theorem dX6_giveAllCells_30 : decode cX6_giveAllCells 30 = .ok (.iastore, 1) := by decide +kernel
theorem dX6_giveAllCells_31 : decode cX6_giveAllCells 31 = .ok (.dup, 1) := by decide +kernel
theorem dX6_giveAllCells_32 : decode cX6_giveAllCells 32 = .ok (.iconst 2, 1) := by decide +kernel
theorem dX6_giveAllCells_33 : decode cX6_giveAllCells 33 = .ok (.iconst 2, 1) := by decide +kernel
theorem dX6_giveAllCells_34 : decode cX6_giveAllCells 34 = .ok (.iastore, 1) := by decide +kernel
theorem dX6_giveAllCells_35 : decode cX6_giveAllCells 35 = .ok (.dup, 1) := by decide +kernel
theorem dX6_giveAllCells_36 : decode cX6_giveAllCells 36 = .ok (.iconst 3, 1) := by decide +kernel
theorem dX6_giveAllCells_37 : decode cX6_giveAllCells 37 = .ok (.iconst 3, 1) := by decide +kernel
theorem dX6_giveAllCells_38 : decode cX6_giveAllCells 38 = .ok (.iastore, 1) := by decide +kernel
theorem dX6_giveAllCells_39 : decode cX6_giveAllCells 39 = .ok (.astore_n 3, 1) := by decide +kernel
theorem dX6_giveAllCells_40 : decode cX6_giveAllCells 40 = .ok (.iconst 4, 1) := by decide +kernel
theorem dX6_giveAllCells_41 : decode cX6_giveAllCells 41 = .ok (.newarray .int, 2) := by decide +kernel
theorem dX6_giveAllCells_43 : decode cX6_giveAllCells 43 = .ok (.dup, 1) := by decide +kernel
theorem dX6_giveAllCells_44 : decode cX6_giveAllCells 44 = .ok (.iconst 0, 1) := by decide +kernel
theorem dX6_giveAllCells_45 : decode cX6_giveAllCells 45 = .ok (.iconst 1, 1) := by decide +kernel
theorem dX6_giveAllCells_46 : decode cX6_giveAllCells 46 = .ok (.iastore, 1) := by decide +kernel
theorem dX6_giveAllCells_47 : decode cX6_giveAllCells 47 = .ok (.dup, 1) := by decide +kernel
theorem dX6_giveAllCells_48 : decode cX6_giveAllCells 48 = .ok (.iconst 1, 1) := by decide +kernel
theorem dX6_giveAllCells_49 : decode cX6_giveAllCells 49 = .ok (.iconst 2, 1) := by decide +kernel
theorem dX6_giveAllCells_50 : decode cX6_giveAllCells 50 = .ok (.iastore, 1) := by decide +kernel
theorem dX6_giveAllCells_51 : decode cX6_giveAllCells 51 = .ok (.dup, 1) := by decide +kernel
theorem dX6_giveAllCells_52 : decode cX6_giveAllCells 52 = .ok (.iconst 2, 1) := by decide +kernel
theorem dX6_giveAllCells_53 : decode cX6_giveAllCells 53 = .ok (.iconst 3, 1) := by decide +kernel
theorem dX6_giveAllCells_54 : decode cX6_giveAllCells 54 = .ok (.iastore, 1) := by decide +kernel
theorem dX6_giveAllCells_55 : decode cX6_giveAllCells 55 = .ok (.dup, 1) := by decide +kernel
theorem dX6_giveAllCells_56 : decode cX6_giveAllCells 56 = .ok (.iconst 3, 1) := by decide +kernel
theorem dX6_giveAllCells_57 : decode cX6_giveAllCells 57 = .ok (.iconst 4, 1) := by decide +kernel
theorem dX6_giveAllCells_58 : decode cX6_giveAllCells 58 = .ok (.iastore, 1) := by decide +kernel
theorem dX6_giveAllCells_59 : decode cX6_giveAllCells 59 = .ok (.astore 4, 2) := by decide +kernel
theorem dX6_giveAllCells_61 : decode cX6_giveAllCells 61 = .ok (.aload_n 1, 1) := by decide +kernel
theorem dX6_giveAllCells_62 : decode cX6_giveAllCells 62 = .ok (.aload_n 2, 1) := by decide +kernel
theorem dX6_giveAllCells_63 : decode cX6_giveAllCells 63 = .ok (.invokevirtual 262, 3) := by decide +kernel
theorem dX6_giveAllCells_66 : decode cX6_giveAllCells 66 = .ok (.aload_n 1, 1) := by decide +kernel
theorem dX6_giveAllCells_67 : decode cX6_giveAllCells 67 = .ok (.aload_n 3, 1) := by decide +kernel
theorem dX6_giveAllCells_68 : decode cX6_giveAllCells 68 = .ok (.invokevirtual 262, 3) := by decide +kernel
theorem dX6_giveAllCells_71 : decode cX6_giveAllCells 71 = .ok (.aload_n 1, 1) := by decide +kernel
theorem dX6_giveAllCells_72 : decode cX6_giveAllCells 72 = .ok (.aload 4, 2) := by decide +kernel
theorem dX6_giveAllCells_74 : decode cX6_giveAllCells 74 = .ok (.invokevirtual 262, 3) := by decide +kernel
theorem dX6_giveAllCells_77 : decode cX6_giveAllCells 77 = .ok (.iconst 0, 1) := by decide +kernel
theorem dX6_giveAllCells_78 : decode cX6_giveAllCells 78 = .ok (.istore 5, 2) := by decide +kernel
theorem dX6_giveAllCells_80 : decode cX6_giveAllCells 80 = .ok (.iload 5, 2) := by decide +kernel
theorem dX6_giveAllCells_82 : decode cX6_giveAllCells 82 = .ok (.iconst 4, 1) := by decide +kernel
theorem dX6_giveAllCells_83 : decode cX6_giveAllCells 83 = .ok (.if_icmp .ge 57, 3) := by decide +kernel
theorem dX6_giveAllCells_140 : decode cX6_giveAllCells 140 = .ok (.return_, 1) := by decide +kernel
theorem dX6_giveAllCells_86 : decode cX6_giveAllCells 86 = .ok (.iconst 0, 1) := by decide +kernel
theorem dX6_giveAllCells_87 : decode cX6_giveAllCells 87 = .ok (.istore 6, 2) := by decide +kernel
theorem dX6_giveAllCells_89 : decode cX6_giveAllCells 89 = .ok (.iload 6, 2) := by decide +kernel
theorem dX6_giveAllCells_91 : decode cX6_giveAllCells 91 = .ok (.iconst 4, 1) := by decide +kernel
theorem dX6_giveAllCells_92 : decode cX6_giveAllCells 92 = .ok (.if_icmp .ge 42, 3) := by decide +kernel
theorem dX6_giveAllCells_134 : decode cX6_giveAllCells 134 = .ok (.iinc 5 1, 3) := by decide +kernel
theorem dX6_giveAllCells_137 : decode cX6_giveAllCells 137 = .ok (.goto (-57), 3) := by decide +kernel
theorem dX6_giveAllCells_95 : decode cX6_giveAllCells 95 = .ok (.iconst 1, 1) := by decide +kernel
theorem dX6_giveAllCells_96 : decode cX6_giveAllCells 96 = .ok (.aload_n 2, 1) := by decide +kernel
theorem dX6_giveAllCells_97 : decode cX6_giveAllCells 97 = .ok (.iload 5, 2) := by decide +kernel
theorem dX6_giveAllCells_99 : decode cX6_giveAllCells 99 = .ok (.iaload, 1) := by decide +kernel
theorem dX6_giveAllCells_100 : decode cX6_giveAllCells 100 = .ok (.aload_n 3, 1) := by decide +kernel
theorem dX6_giveAllCells_101 : decode cX6_giveAllCells 101 = .ok (.iload 6, 2) := by decide +kernel
theorem dX6_giveAllCells_103 : decode cX6_giveAllCells 103 = .ok (.iaload, 1) := by decide +kernel
theorem dX6_giveAllCells_104 : decode cX6_giveAllCells 104 = .ok (.iadd, 1) := by decide +kernel
theorem dX6_giveAllCells_105 : decode cX6_giveAllCells 105 = .ok (.iconst 4, 1) := by decide +kernel
theorem dX6_giveAllCells_106 : decode cX6_giveAllCells 106 = .ok (.irem, 1) := by decide +kernel
theorem dX6_giveAllCells_107 : decode cX6_giveAllCells 107 = .ok (.iadd, 1) := by decide +kernel
theorem dX6_giveAllCells_108 : decode cX6_giveAllCells 108 = .ok (.istore 7, 2) := by decide +kernel
theorem dX6_giveAllCells_110 : decode cX6_giveAllCells 110 = .ok (.aload_n 0, 1) := by decide +kernel
theorem dX6_giveAllCells_111 : decode cX6_giveAllCells 111 = .ok (.iload 5, 2) := by decide +kernel
theorem dX6_giveAllCells_113 : decode cX6_giveAllCells 113 = .ok (.iconst 4, 1) := by decide +kernel
theorem dX6_giveAllCells_114 : decode cX6_giveAllCells 114 = .ok (.imul, 1) := by decide +kernel
theorem dX6_giveAllCells_115 : decode cX6_giveAllCells 115 = .ok (.iload 6, 2) := by decide +kernel
theorem dX6_giveAllCells_117 : decode cX6_giveAllCells 117 = .ok (.iadd, 1) := by decide +kernel
theorem dX6_giveAllCells_118 : decode cX6_giveAllCells 118 = .ok (.aload 4, 2) := by decide +kernel
theorem dX6_giveAllCells_120 : decode cX6_giveAllCells 120 = .ok (.iload 7, 2) := by decide +kernel
theorem dX6_giveAllCells_122 : decode cX6_giveAllCells 122 = .ok (.iconst 1, 1) := by decide +kernel
theorem dX6_giveAllCells_123 : decode cX6_giveAllCells 123 = .ok (.isub, 1) := by decide +kernel
theorem dX6_giveAllCells_124 : decode cX6_giveAllCells 124 = .ok (.iaload, 1) := by decide +kernel
theorem dX6_giveAllCells_125 : decode cX6_giveAllCells 125 = .ok (.invokevirtual 78, 3) := by decide +kernel
theorem dX6_giveAllCells_128 : decode cX6_giveAllCells 128 = .ok (.iinc 6 1, 3) := by decide +kernel
theorem dX6_giveAllCells_131 : decode cX6_giveAllCells 131 = .ok (.goto (-42), 3) := by decide +kernel
theorem dX6_takeGivensAway_0 : decode cX6_takeGivensAway 0 = .ok (.iconst 0, 1) := by decide +kernel
theorem dX6_takeGivensAway_1 : decode cX6_takeGivensAway 1 = .ok (.istore 4, 2) := by decide +kernel
theorem dX6_takeGivensAway_3 : decode cX6_takeGivensAway 3 = .ok (.iload 4, 2) := by decide +kernel
theorem dX6_takeGivensAway_5 : decode cX6_takeGivensAway 5 = .ok (.bipush 16, 2) := by decide +kernel
theorem dX6_takeGivensAway_7 : decode cX6_takeGivensAway 7 = .ok (.if_icmp .ge 67, 3) := by decide +kernel
theorem dX6_takeGivensAway_74 : decode cX6_takeGivensAway 74 = .ok (.return_, 1) := by decide +kernel
theorem dX6_takeGivensAway_10 : decode cX6_takeGivensAway 10 = .ok (.aload_n 2, 1) := by decide +kernel
theorem dX6_takeGivensAway_11 : decode cX6_takeGivensAway 11 = .ok (.bipush 16, 2) := by decide +kernel
theorem dX6_takeGivensAway_13 : decode cX6_takeGivensAway 13 = .ok (.invokevirtual 266, 3) := by decide +kernel
theorem dX6_takeGivensAway_16 : decode cX6_takeGivensAway 16 = .ok (.istore 5, 2) := by decide +kernel
theorem dX6_takeGivensAway_18 : decode cX6_takeGivensAway 18 = .ok (.aload_n 1, 1) := by decide +kernel
theorem dX6_takeGivensAway_19 : decode cX6_takeGivensAway 19 = .ok (.getfield 74, 3) := by decide +kernel
theorem dX6_takeGivensAway_22 : decode cX6_takeGivensAway 22 = .ok (.iload 5, 2) := by decide +kernel
theorem dX6_takeGivensAway_24 : decode cX6_takeGivensAway 24 = .ok (.iaload, 1) := by decide +kernel
theorem dX6_takeGivensAway_25 : decode cX6_takeGivensAway 25 = .ok (.istore 6, 2) := by decide +kernel
theorem dX6_takeGivensAway_27 : decode cX6_takeGivensAway 27 = .ok (.iload 6, 2) := by decide +kernel
theorem dX6_takeGivensAway_29 : decode cX6_takeGivensAway 29 = .ok (.ifCond .eq 39, 3) := by decide +kernel
theorem dX6_takeGivensAway_68 : decode cX6_takeGivensAway 68 = .ok (.iinc 4 1, 3) := by decide +kernel
theorem dX6_takeGivensAway_71 : decode cX6_takeGivensAway 71 = .ok (.goto (-68), 3) := by decide +kernel
theorem dX6_takeGivensAway_32 : decode cX6_takeGivensAway 32 = .ok (.aload_n 1, 1) := by decide +kernel
theorem dX6_takeGivensAway_33 : decode cX6_takeGivensAway 33 = .ok (.iload 5, 2) := by decide +kernel
theorem dX6_takeGivensAway_35 : decode cX6_takeGivensAway 35 = .ok (.iconst 0, 1) := by decide +kernel
theorem dX6_takeGivensAway_36 : decode cX6_takeGivensAway 36 = .ok (.invokevirtual 78, 3) := by decide +kernel
theorem dX6_takeGivensAway_39 : decode cX6_takeGivensAway 39 = .ok (.aload_n 0, 1) := by decide +kernel
theorem dX6_takeGivensAway_40 : decode cX6_takeGivensAway 40 = .ok (.getfield 19, 3) := by decide +kernel
theorem dX6_takeGivensAway_43 : decode cX6_takeGivensAway 43 = .ok (.aload_n 1, 1) := by decide +kernel
theorem dX6_takeGivensAway_44 : decode cX6_takeGivensAway 44 = .ok (.iload_n 3, 1) := by decide +kernel
theorem dX6_takeGivensAway_45 : decode cX6_takeGivensAway 45 = .ok (.invokevirtual 269, 3) := by decide +kernel
theorem dX6_takeGivensAway_48 : decode cX6_takeGivensAway 48 = .ok (.aload_n 0, 1) := by decide +kernel
theorem dX6_takeGivensAway_49 : decode cX6_takeGivensAway 49 = .ok (.getfield 19, 3) := by decide +kernel
theorem dX6_takeGivensAway_52 : decode cX6_takeGivensAway 52 = .ok (.getfield 148, 3) := by decide +kernel
theorem dX6_takeGivensAway_55 : decode cX6_takeGivensAway 55 = .ok (.bipush 115, 2) := by decide +kernel
theorem dX6_takeGivensAway_57 : decode cX6_takeGivensAway 57 = .ok (.if_icmp .eq 11, 3) := by decide +kernel
theorem dX6_takeGivensAway_60 : decode cX6_takeGivensAway 60 = .ok (.aload_n 1, 1) := by decide +kernel
theorem dX6_takeGivensAway_61 : decode cX6_takeGivensAway 61 = .ok (.iload 5, 2) := by decide +kernel
theorem dX6_takeGivensAway_63 : decode cX6_takeGivensAway 63 = .ok (.iload 6, 2) := by decide +kernel
theorem dX6_takeGivensAway_65 : decode cX6_takeGivensAway 65 = .ok (.invokevirtual 78, 3) := by decide +kernel
theorem dX6_make_0 : decode cX6_make 0 = .ok (.iload_n 1, 1) := by decide +kernel
theorem dX6_make_1 : decode cX6_make 1 = .ok (.ifCond .lt 20, 3) := by decide +kernel
theorem dX6_make_4 : decode cX6_make 4 = .ok (.iload_n 1, 1) := by decide +kernel
theorem dX6_make_5 : decode cX6_make 5 = .ok (.sipush 9999, 3) := by decide +kernel
theorem dX6_make_8 : decode cX6_make 8 = .ok (.if_icmp .gt 13, 3) := by decide +kernel
theorem dX6_make_11 : decode cX6_make 11 = .ok (.iload_n 2, 1) := by decide +kernel
theorem dX6_make_12 : decode cX6_make 12 = .ok (.iconst 1, 1) := by decide +kernel
theorem dX6_make_13 : decode cX6_make 13 = .ok (.if_icmp .lt 8, 3) := by decide +kernel
theorem dX6_make_16 : decode cX6_make 16 = .ok (.iload_n 2, 1) := by decide +kernel
theorem dX6_make_17 : decode cX6_make 17 = .ok (.iconst 3, 1) := by decide +kernel
theorem dX6_make_18 : decode cX6_make 18 = .ok (.if_icmp .le 13, 3) := by decide +kernel
theorem dX6_make_31 : decode cX6_make 31 = .ok (.aload_n 0, 1) := by decide +kernel
theorem dX6_make_32 : decode cX6_make 32 = .ok (.getfield 10, 3) := by decide +kernel
theorem dX6_make_35 : decode cX6_make 35 = .ok (.invokevirtual 45, 3) := by decide +kernel
theorem dX6_make_38 : decode cX6_make 38 = .ok (.bipush 8, 2) := by decide +kernel
theorem dX6_make_40 : decode cX6_make 40 = .ok (.if_icmp .lt 13, 3) := by decide +kernel
theorem dX6_make_53 : decode cX6_make 53 = .ok (.new 56, 3) := by decide +kernel
theorem dX6_make_56 : decode cX6_make 56 = .ok (.dup, 1) := by decide +kernel
theorem dX6_make_57 : decode cX6_make 57 = .ok (.invokespecial 58, 3) := by decide +kernel
theorem dX6_make_60 : decode cX6_make 60 = .ok (.astore_n 3, 1) := by decide +kernel
theorem dX6_make_61 : decode cX6_make 61 = .ok (.new 114, 3) := by decide +kernel
theorem dX6_make_64 : decode cX6_make 64 = .ok (.dup, 1) := by decide +kernel
theorem dX6_make_65 : decode cX6_make 65 = .ok (.iload_n 1, 1) := by decide +kernel
theorem dX6_make_66 : decode cX6_make 66 = .ok (.invokespecial 116, 3) := by decide +kernel
theorem dX6_make_69 : decode cX6_make 69 = .ok (.astore 4, 2) := by decide +kernel
theorem dX6_make_71 : decode cX6_make 71 = .ok (.aload_n 3, 1) := by decide +kernel
theorem dX6_make_72 : decode cX6_make 72 = .ok (.aload 4, 2) := by decide +kernel
theorem dX6_make_74 : decode cX6_make 74 = .ok (.invokestatic 118, 3) := by decide +kernel
theorem dX6_make_77 : decode cX6_make 77 = .ok (.aload_n 0, 1) := by decide +kernel
theorem dX6_make_78 : decode cX6_make 78 = .ok (.aload_n 3, 1) := by decide +kernel
theorem dX6_make_79 : decode cX6_make 79 = .ok (.aload 4, 2) := by decide +kernel
theorem dX6_make_81 : decode cX6_make 81 = .ok (.iload_n 2, 1) := by decide +kernel
theorem dX6_make_82 : decode cX6_make 82 = .ok (.invokevirtual 122, 3) := by decide +kernel
theorem dX6_make_85 : decode cX6_make 85 = .ok (.aload_n 0, 1) := by decide +kernel
theorem dX6_make_86 : decode cX6_make 86 = .ok (.getfield 10, 3) := by decide +kernel
theorem dX6_make_89 : decode cX6_make 89 = .ok (.aload_n 3, 1) := by decide +kernel
theorem dX6_make_90 : decode cX6_make 90 = .ok (.invokevirtual 59, 3) := by decide +kernel
theorem dX6_make_93 : decode cX6_make 93 = .ok (.pop, 1) := by decide +kernel
theorem dX6_make_94 : decode cX6_make 94 = .ok (.aload_n 0, 1) := by decide +kernel
theorem dX6_make_95 : decode cX6_make 95 = .ok (.getfield 10, 3) := by decide +kernel
theorem dX6_make_98 : decode cX6_make 98 = .ok (.invokevirtual 45, 3) := by decide +kernel
theorem dX6_make_101 : decode cX6_make 101 = .ok (.iconst 1, 1) := by decide +kernel
theorem dX6_make_102 : decode cX6_make 102 = .ok (.isub, 1) := by decide +kernel
theorem dX6_make_103 : decode cX6_make 103 = .ok (.ireturn, 1) := by decide +kernel
theorem dX6_puzzle_0 : decode cX6_puzzle 0 = .ok (.aload_n 0, 1) := by decide +kernel
theorem dX6_puzzle_1 : decode cX6_puzzle 1 = .ok (.getfield 10, 3) := by decide +kernel
theorem dX6_puzzle_4 : decode cX6_puzzle 4 = .ok (.invokevirtual 45, 3) := by decide +kernel
theorem dX6_puzzle_7 : decode cX6_puzzle 7 = .ok (.bipush 8, 2) := by decide +kernel
theorem dX6_puzzle_9 : decode cX6_puzzle 9 = .ok (.if_icmp .lt 13, 3) := by decide +kernel
theorem dX6_puzzle_22 : decode cX6_puzzle 22 = .ok (.aload_n 0, 1) := by decide +kernel
theorem dX6_puzzle_23 : decode cX6_puzzle 23 = .ok (.getfield 10, 3) := by decide +kernel
theorem dX6_puzzle_26 : decode cX6_puzzle 26 = .ok (.new 56, 3) := by decide +kernel
theorem dX6_puzzle_29 : decode cX6_puzzle 29 = .ok (.dup, 1) := by decide +kernel
theorem dX6_puzzle_30 : decode cX6_puzzle 30 = .ok (.invokespecial 58, 3) := by decide +kernel
theorem dX6_puzzle_33 : decode cX6_puzzle 33 = .ok (.invokevirtual 59, 3) := by decide +kernel
theorem dX6_puzzle_36 : decode cX6_puzzle 36 = .ok (.pop, 1) := by decide +kernel
theorem dX6_puzzle_37 : decode cX6_puzzle 37 = .ok (.aload_n 0, 1) := by decide +kernel
theorem dX6_puzzle_38 : decode cX6_puzzle 38 = .ok (.getfield 10, 3) := by decide +kernel
theorem dX6_puzzle_41 : decode cX6_puzzle 41 = .ok (.invokevirtual 45, 3) := by decide +kernel
theorem dX6_puzzle_44 : decode cX6_puzzle 44 = .ok (.iconst 1, 1) := by decide +kernel
theorem dX6_puzzle_45 : decode cX6_puzzle 45 = .ok (.isub, 1) := by decide +kernel
theorem dX6_puzzle_46 : decode cX6_puzzle 46 = .ok (.ireturn, 1) := by decide +kernel
set_option maxHeartbeats 4000000 in
set_option maxRecDepth 100000 in
theorem c_X6_giveAllCells (l : Launch) (G : GG) (pz : Nat) (gr : Nat) (mr : Nat) (cg : Nat) (so : Nat) (sh : Nat) (s1 : Int32) (s2 : Int32) (gv : Nat → Int32) (dr : Nat) (zn : Nat) (hz : zn < 2147483648) : Mv l G yX6_giveAllCells cX6_giveAllCells 8 ({ frames := 2, cells := 3, slots := 12, locals := 45 } : Room) [.ref pz, .ref dr] [(pz, .inr (8, [.ref gr, .ref mr, .ref cg, .ref so, .ref sh, .int s1, .int s2])), (gr, .inl (gyI G, 16, .inl gv)), (dr, .inr (7, [.long (lN zn)]))] (fun (u : (Nat → Int32) × Int32 × Int32 × Nat) => u.2.2.2 < 2147483648) (fun (u : (Nat → Int32) × Int32 × Int32 × Nat) => [(pz, .inr (8, [.ref gr, .ref mr, .ref cg, .ref so, .ref sh, .int u.2.1, .int u.2.2.1])), (gr, .inl (gyI G, 16, .inl u.1)), (dr, .inr (7, [.long (lN u.2.2.2)]))]) := by
  intro sz
  refine Met.ofW (cc := cX6_giveAllCells) (maxL := 8) (ret := none) (by decide) rfl ?_
  intro p e s m args below meth c s₁ B9 hml hv
  obtain ⟨rfl, hsz, hP, hK, hD0, hE⟩ := hv
  have hx := B9.exec
  have hb := B9.bytes
  have hr := B9.returns
  have hts : ∀ w ∈ WW, w.before ([.ref pz, .ref dr] : List Value).toArray s = true := fun w h => atoms_spec (ws := .code yX6_giveAllCells cX6_giveAllCells 8 none :: WW) B9.pre w (List.mem_cons_of_mem _ h)
  have hown : s.vm.findClass RX6 = some m.cls := findClass_of_methodNamed B9.named
  subst hsz
  have hD := hD0.self (sz := s.heap.size)
  generalize hAe : va_A [(pz, .inr (8, [.ref gr, .ref mr, .ref cg, .ref so, .ref sh, .int s1, .int s2])), (gr, .inl (gyI G, 16, .inl gv)), (dr, .inr (7, [.long (lN zn)]))] s.heap.size = A at hD hE ⊢
  have hA : ∀ q : Nat, s.heap.size ≤ q → A q := fun q h => by rw [← hAe]; exact Or.inr h
  have hl := lv_entry ([.ref pz, .ref dr]) (n := 8) (Nat.le_of_ble_eq_true rfl)
  rw [lg_entry_eq]
  generalize (lg_sl ([.ref pz, .ref dr]) ++ List.replicate (8 - (lg_sl ([.ref pz, .ref dr])).length) Slot.unset).toArray = ls at hl ⊢
  have hl : lv_has ls 8 [(0, .ref pz), (1, .ref dr)] := hl
  refine qgen (fun Q hQ => ?_)
  refine hgen (fun H locs hP hD hS => ?_) hP hD
  refine lv_iconst (v := nI 4) hx hb dX6_giveAllCells_0 (by decide) ?_
  refine va_newa (D := gD G) (atype := .int) (ty := .int) (a0 := (4, .inl (fun _ => 0))) hx hb (hts _ q135) rfl hK hP hD hS hA (fun _ => rfl) (nI_pos (by omega)) (nI_clamp (by omega)) (Nat.le_of_ble_eq_true rfl) (Nat.le_of_ble_eq_true rfl) (Nat.le_of_ble_eq_true rfl) dX6_giveAllCells_1 (fun q_1 cA_2 H hKn hP hD hS => ?_)
  obtain rfl := ty_one_I hK hKn
  have hb_3 : inB 4 4 (fun _ => (0 : Int32)) := inB.zero (by decide)
  have hP : va_P (gD G) vwCl [(pz, .inr (8, [.ref gr, .ref mr, .ref cg, .ref so, .ref sh, .int s1, .int s2])), (gr, .inl (gyI G, 16, .inl gv)), (dr, .inr (7, [.long (lN zn)])), (q_1, .inl (gyI G, 4, .inl (fun _ => 0)))] H := hP
  have hD : va_D A [(pz, .inr (8, [.ref gr, .ref mr, .ref cg, .ref so, .ref sh, .int s1, .int s2])), (gr, .inl (gyI G, 16, .inl gv)), (dr, .inr (7, [.long (lN zn)])), (q_1, .inl (gyI G, 4, .inl (fun _ => 0)))] := hD
  refine lv_dup hx hb dX6_giveAllCells_3 rfl ?_
  refine lv_iconst (v := nI 0) hx hb dX6_giveAllCells_4 (by decide) ?_
  refine lv_iconst (v := nI 0) hx hb dX6_giveAllCells_5 (by decide) ?_
  refine va_iast (D := gD G) (cA := gyI G) (n := 4) (f := fun _ => 0) hx hb hK hP hD hS 3 0 rfl rfl (vp_in_nI (n := 0) (N := 4) (by omega) (by omega)) dX6_giveAllCells_6 (fun H locs hP hD hS => ?_)
  have hb_5 : inB 4 4 (upd (fun _ => 0) (nI 0).toNatClampNeg (nI 0)) := hb_3.upd (n := 0) (by omega) rfl
  generalize upd (fun _ => 0) (nI 0).toNatClampNeg (nI 0) = f_4 at hP hD hb_5
  have hP : va_P (gD G) vwCl [(pz, .inr (8, [.ref gr, .ref mr, .ref cg, .ref so, .ref sh, .int s1, .int s2])), (gr, .inl (gyI G, 16, .inl gv)), (dr, .inr (7, [.long (lN zn)])), (q_1, .inl (gyI G, 4, .inl f_4))] H := hP
  have hD : va_D A [(pz, .inr (8, [.ref gr, .ref mr, .ref cg, .ref so, .ref sh, .int s1, .int s2])), (gr, .inl (gyI G, 16, .inl gv)), (dr, .inr (7, [.long (lN zn)])), (q_1, .inl (gyI G, 4, .inl f_4))] := hD
  refine lv_dup hx hb dX6_giveAllCells_7 rfl ?_
  refine lv_iconst (v := nI 1) hx hb dX6_giveAllCells_8 (by decide) ?_
  refine lv_iconst (v := nI 1) hx hb dX6_giveAllCells_9 (by decide) ?_
  refine va_iast (D := gD G) (cA := gyI G) (n := 4) (f := f_4) hx hb hK hP hD hS 3 0 rfl rfl (vp_in_nI (n := 1) (N := 4) (by omega) (by omega)) dX6_giveAllCells_10 (fun H locs hP hD hS => ?_)
  have hb_7 : inB 4 4 (upd f_4 (nI 1).toNatClampNeg (nI 1)) := hb_5.upd (n := 1) (by omega) rfl
  generalize upd f_4 (nI 1).toNatClampNeg (nI 1) = f_6 at hP hD hb_7
  have hP : va_P (gD G) vwCl [(pz, .inr (8, [.ref gr, .ref mr, .ref cg, .ref so, .ref sh, .int s1, .int s2])), (gr, .inl (gyI G, 16, .inl gv)), (dr, .inr (7, [.long (lN zn)])), (q_1, .inl (gyI G, 4, .inl f_6))] H := hP
  have hD : va_D A [(pz, .inr (8, [.ref gr, .ref mr, .ref cg, .ref so, .ref sh, .int s1, .int s2])), (gr, .inl (gyI G, 16, .inl gv)), (dr, .inr (7, [.long (lN zn)])), (q_1, .inl (gyI G, 4, .inl f_6))] := hD
  refine lv_dup hx hb dX6_giveAllCells_11 rfl ?_
  refine lv_iconst (v := nI 2) hx hb dX6_giveAllCells_12 (by decide) ?_
  refine lv_iconst (v := nI 2) hx hb dX6_giveAllCells_13 (by decide) ?_
  refine va_iast (D := gD G) (cA := gyI G) (n := 4) (f := f_6) hx hb hK hP hD hS 3 0 rfl rfl (vp_in_nI (n := 2) (N := 4) (by omega) (by omega)) dX6_giveAllCells_14 (fun H locs hP hD hS => ?_)
  have hb_9 : inB 4 4 (upd f_6 (nI 2).toNatClampNeg (nI 2)) := hb_7.upd (n := 2) (by omega) rfl
  generalize upd f_6 (nI 2).toNatClampNeg (nI 2) = f_8 at hP hD hb_9
  have hP : va_P (gD G) vwCl [(pz, .inr (8, [.ref gr, .ref mr, .ref cg, .ref so, .ref sh, .int s1, .int s2])), (gr, .inl (gyI G, 16, .inl gv)), (dr, .inr (7, [.long (lN zn)])), (q_1, .inl (gyI G, 4, .inl f_8))] H := hP
  have hD : va_D A [(pz, .inr (8, [.ref gr, .ref mr, .ref cg, .ref so, .ref sh, .int s1, .int s2])), (gr, .inl (gyI G, 16, .inl gv)), (dr, .inr (7, [.long (lN zn)])), (q_1, .inl (gyI G, 4, .inl f_8))] := hD
  refine lv_dup hx hb dX6_giveAllCells_15 rfl ?_
  refine lv_iconst (v := nI 3) hx hb dX6_giveAllCells_16 (by decide) ?_
  refine lv_iconst (v := nI 3) hx hb dX6_giveAllCells_17 (by decide) ?_
  refine va_iast (D := gD G) (cA := gyI G) (n := 4) (f := f_8) hx hb hK hP hD hS 3 0 rfl rfl (vp_in_nI (n := 3) (N := 4) (by omega) (by omega)) dX6_giveAllCells_18 (fun H locs hP hD hS => ?_)
  have hb_11 : inB 4 4 (upd f_8 (nI 3).toNatClampNeg (nI 3)) := hb_9.upd (n := 3) (by omega) rfl
  generalize upd f_8 (nI 3).toNatClampNeg (nI 3) = f_10 at hP hD hb_11
  have hP : va_P (gD G) vwCl [(pz, .inr (8, [.ref gr, .ref mr, .ref cg, .ref so, .ref sh, .int s1, .int s2])), (gr, .inl (gyI G, 16, .inl gv)), (dr, .inr (7, [.long (lN zn)])), (q_1, .inl (gyI G, 4, .inl f_10))] H := hP
  have hD : va_D A [(pz, .inr (8, [.ref gr, .ref mr, .ref cg, .ref so, .ref sh, .int s1, .int s2])), (gr, .inl (gyI G, 16, .inl gv)), (dr, .inr (7, [.long (lN zn)])), (q_1, .inl (gyI G, 4, .inl f_10))] := hD
  refine lv_astore_n (lv' := [(2, .ref q_1), (0, .ref pz), (1, .ref dr)]) hx hb dX6_giveAllCells_19 rfl hl (by decide) rfl (fun ls hl => ?_)
  refine lv_iconst (v := nI 4) hx hb dX6_giveAllCells_20 (by decide) ?_
  refine va_newa (D := gD G) (atype := .int) (ty := .int) (a0 := (4, .inl (fun _ => 0))) hx hb (hts _ q135) rfl hK hP hD hS hA (fun _ => rfl) (nI_pos (by omega)) (nI_clamp (by omega)) (Nat.le_of_ble_eq_true rfl) (Nat.le_of_ble_eq_true rfl) (Nat.le_of_ble_eq_true rfl) dX6_giveAllCells_21 (fun q_12 cA_13 H hKn hP hD hS => ?_)
  obtain rfl := ty_one_I hK hKn
  have hb_14 : inB 4 4 (fun _ => (0 : Int32)) := inB.zero (by decide)
  have hP : va_P (gD G) vwCl [(pz, .inr (8, [.ref gr, .ref mr, .ref cg, .ref so, .ref sh, .int s1, .int s2])), (gr, .inl (gyI G, 16, .inl gv)), (dr, .inr (7, [.long (lN zn)])), (q_1, .inl (gyI G, 4, .inl f_10)), (q_12, .inl (gyI G, 4, .inl (fun _ => 0)))] H := hP
  have hD : va_D A [(pz, .inr (8, [.ref gr, .ref mr, .ref cg, .ref so, .ref sh, .int s1, .int s2])), (gr, .inl (gyI G, 16, .inl gv)), (dr, .inr (7, [.long (lN zn)])), (q_1, .inl (gyI G, 4, .inl f_10)), (q_12, .inl (gyI G, 4, .inl (fun _ => 0)))] := hD
  refine lv_dup hx hb dX6_giveAllCells_23 rfl ?_
  refine lv_iconst (v := nI 0) hx hb dX6_giveAllCells_24 (by decide) ?_
  refine lv_iconst (v := nI 0) hx hb dX6_giveAllCells_25 (by decide) ?_
  refine va_iast (D := gD G) (cA := gyI G) (n := 4) (f := fun _ => 0) hx hb hK hP hD hS 4 0 rfl rfl (vp_in_nI (n := 0) (N := 4) (by omega) (by omega)) dX6_giveAllCells_26 (fun H locs hP hD hS => ?_)
  have hb_16 : inB 4 4 (upd (fun _ => 0) (nI 0).toNatClampNeg (nI 0)) := hb_14.upd (n := 0) (by omega) rfl
  generalize upd (fun _ => 0) (nI 0).toNatClampNeg (nI 0) = f_15 at hP hD hb_16
  have hP : va_P (gD G) vwCl [(pz, .inr (8, [.ref gr, .ref mr, .ref cg, .ref so, .ref sh, .int s1, .int s2])), (gr, .inl (gyI G, 16, .inl gv)), (dr, .inr (7, [.long (lN zn)])), (q_1, .inl (gyI G, 4, .inl f_10)), (q_12, .inl (gyI G, 4, .inl f_15))] H := hP
  have hD : va_D A [(pz, .inr (8, [.ref gr, .ref mr, .ref cg, .ref so, .ref sh, .int s1, .int s2])), (gr, .inl (gyI G, 16, .inl gv)), (dr, .inr (7, [.long (lN zn)])), (q_1, .inl (gyI G, 4, .inl f_10)), (q_12, .inl (gyI G, 4, .inl f_15))] := hD
  refine lv_dup hx hb dX6_giveAllCells_27 rfl ?_
  refine lv_iconst (v := nI 1) hx hb dX6_giveAllCells_28 (by decide) ?_
  refine lv_iconst (v := nI 1) hx hb dX6_giveAllCells_29 (by decide) ?_
  refine va_iast (D := gD G) (cA := gyI G) (n := 4) (f := f_15) hx hb hK hP hD hS 4 0 rfl rfl (vp_in_nI (n := 1) (N := 4) (by omega) (by omega)) dX6_giveAllCells_30 (fun H locs hP hD hS => ?_)
  have hb_18 : inB 4 4 (upd f_15 (nI 1).toNatClampNeg (nI 1)) := hb_16.upd (n := 1) (by omega) rfl
  generalize upd f_15 (nI 1).toNatClampNeg (nI 1) = f_17 at hP hD hb_18
  have hP : va_P (gD G) vwCl [(pz, .inr (8, [.ref gr, .ref mr, .ref cg, .ref so, .ref sh, .int s1, .int s2])), (gr, .inl (gyI G, 16, .inl gv)), (dr, .inr (7, [.long (lN zn)])), (q_1, .inl (gyI G, 4, .inl f_10)), (q_12, .inl (gyI G, 4, .inl f_17))] H := hP
  have hD : va_D A [(pz, .inr (8, [.ref gr, .ref mr, .ref cg, .ref so, .ref sh, .int s1, .int s2])), (gr, .inl (gyI G, 16, .inl gv)), (dr, .inr (7, [.long (lN zn)])), (q_1, .inl (gyI G, 4, .inl f_10)), (q_12, .inl (gyI G, 4, .inl f_17))] := hD
  refine lv_dup hx hb dX6_giveAllCells_31 rfl ?_
  refine lv_iconst (v := nI 2) hx hb dX6_giveAllCells_32 (by decide) ?_
  refine lv_iconst (v := nI 2) hx hb dX6_giveAllCells_33 (by decide) ?_
  refine va_iast (D := gD G) (cA := gyI G) (n := 4) (f := f_17) hx hb hK hP hD hS 4 0 rfl rfl (vp_in_nI (n := 2) (N := 4) (by omega) (by omega)) dX6_giveAllCells_34 (fun H locs hP hD hS => ?_)
  have hb_20 : inB 4 4 (upd f_17 (nI 2).toNatClampNeg (nI 2)) := hb_18.upd (n := 2) (by omega) rfl
  generalize upd f_17 (nI 2).toNatClampNeg (nI 2) = f_19 at hP hD hb_20
  have hP : va_P (gD G) vwCl [(pz, .inr (8, [.ref gr, .ref mr, .ref cg, .ref so, .ref sh, .int s1, .int s2])), (gr, .inl (gyI G, 16, .inl gv)), (dr, .inr (7, [.long (lN zn)])), (q_1, .inl (gyI G, 4, .inl f_10)), (q_12, .inl (gyI G, 4, .inl f_19))] H := hP
  have hD : va_D A [(pz, .inr (8, [.ref gr, .ref mr, .ref cg, .ref so, .ref sh, .int s1, .int s2])), (gr, .inl (gyI G, 16, .inl gv)), (dr, .inr (7, [.long (lN zn)])), (q_1, .inl (gyI G, 4, .inl f_10)), (q_12, .inl (gyI G, 4, .inl f_19))] := hD
  refine lv_dup hx hb dX6_giveAllCells_35 rfl ?_
  refine lv_iconst (v := nI 3) hx hb dX6_giveAllCells_36 (by decide) ?_
  refine lv_iconst (v := nI 3) hx hb dX6_giveAllCells_37 (by decide) ?_
  refine va_iast (D := gD G) (cA := gyI G) (n := 4) (f := f_19) hx hb hK hP hD hS 4 0 rfl rfl (vp_in_nI (n := 3) (N := 4) (by omega) (by omega)) dX6_giveAllCells_38 (fun H locs hP hD hS => ?_)
  have hb_22 : inB 4 4 (upd f_19 (nI 3).toNatClampNeg (nI 3)) := hb_20.upd (n := 3) (by omega) rfl
  generalize upd f_19 (nI 3).toNatClampNeg (nI 3) = f_21 at hP hD hb_22
  have hP : va_P (gD G) vwCl [(pz, .inr (8, [.ref gr, .ref mr, .ref cg, .ref so, .ref sh, .int s1, .int s2])), (gr, .inl (gyI G, 16, .inl gv)), (dr, .inr (7, [.long (lN zn)])), (q_1, .inl (gyI G, 4, .inl f_10)), (q_12, .inl (gyI G, 4, .inl f_21))] H := hP
  have hD : va_D A [(pz, .inr (8, [.ref gr, .ref mr, .ref cg, .ref so, .ref sh, .int s1, .int s2])), (gr, .inl (gyI G, 16, .inl gv)), (dr, .inr (7, [.long (lN zn)])), (q_1, .inl (gyI G, 4, .inl f_10)), (q_12, .inl (gyI G, 4, .inl f_21))] := hD
  refine lv_astore_n (lv' := [(3, .ref q_12), (2, .ref q_1), (0, .ref pz), (1, .ref dr)]) hx hb dX6_giveAllCells_39 rfl hl (by decide) rfl (fun ls hl => ?_)
  refine lv_iconst (v := nI 4) hx hb dX6_giveAllCells_40 (by decide) ?_
  refine va_newa (D := gD G) (atype := .int) (ty := .int) (a0 := (4, .inl (fun _ => 0))) hx hb (hts _ q135) rfl hK hP hD hS hA (fun _ => rfl) (nI_pos (by omega)) (nI_clamp (by omega)) (Nat.le_of_ble_eq_true rfl) (Nat.le_of_ble_eq_true rfl) (Nat.le_of_ble_eq_true rfl) dX6_giveAllCells_41 (fun q_23 cA_24 H hKn hP hD hS => ?_)
  obtain rfl := ty_one_I hK hKn
  have hb_25 : inB 4 5 (fun _ => (0 : Int32)) := inB.zero (by decide)
  have hP : va_P (gD G) vwCl [(pz, .inr (8, [.ref gr, .ref mr, .ref cg, .ref so, .ref sh, .int s1, .int s2])), (gr, .inl (gyI G, 16, .inl gv)), (dr, .inr (7, [.long (lN zn)])), (q_1, .inl (gyI G, 4, .inl f_10)), (q_12, .inl (gyI G, 4, .inl f_21)), (q_23, .inl (gyI G, 4, .inl (fun _ => 0)))] H := hP
  have hD : va_D A [(pz, .inr (8, [.ref gr, .ref mr, .ref cg, .ref so, .ref sh, .int s1, .int s2])), (gr, .inl (gyI G, 16, .inl gv)), (dr, .inr (7, [.long (lN zn)])), (q_1, .inl (gyI G, 4, .inl f_10)), (q_12, .inl (gyI G, 4, .inl f_21)), (q_23, .inl (gyI G, 4, .inl (fun _ => 0)))] := hD
  refine lv_dup hx hb dX6_giveAllCells_43 rfl ?_
  refine lv_iconst (v := nI 0) hx hb dX6_giveAllCells_44 (by decide) ?_
  refine lv_iconst (v := nI 1) hx hb dX6_giveAllCells_45 (by decide) ?_
  refine va_iast (D := gD G) (cA := gyI G) (n := 4) (f := fun _ => 0) hx hb hK hP hD hS 5 0 rfl rfl (vp_in_nI (n := 0) (N := 4) (by omega) (by omega)) dX6_giveAllCells_46 (fun H locs hP hD hS => ?_)
  have hb_27 : inB 4 5 (upd (fun _ => 0) (nI 0).toNatClampNeg (nI 1)) := hb_25.upd (n := 1) (by omega) rfl
  generalize upd (fun _ => 0) (nI 0).toNatClampNeg (nI 1) = f_26 at hP hD hb_27
  have hP : va_P (gD G) vwCl [(pz, .inr (8, [.ref gr, .ref mr, .ref cg, .ref so, .ref sh, .int s1, .int s2])), (gr, .inl (gyI G, 16, .inl gv)), (dr, .inr (7, [.long (lN zn)])), (q_1, .inl (gyI G, 4, .inl f_10)), (q_12, .inl (gyI G, 4, .inl f_21)), (q_23, .inl (gyI G, 4, .inl f_26))] H := hP
  have hD : va_D A [(pz, .inr (8, [.ref gr, .ref mr, .ref cg, .ref so, .ref sh, .int s1, .int s2])), (gr, .inl (gyI G, 16, .inl gv)), (dr, .inr (7, [.long (lN zn)])), (q_1, .inl (gyI G, 4, .inl f_10)), (q_12, .inl (gyI G, 4, .inl f_21)), (q_23, .inl (gyI G, 4, .inl f_26))] := hD
  refine lv_dup hx hb dX6_giveAllCells_47 rfl ?_
  refine lv_iconst (v := nI 1) hx hb dX6_giveAllCells_48 (by decide) ?_
  refine lv_iconst (v := nI 2) hx hb dX6_giveAllCells_49 (by decide) ?_
  refine va_iast (D := gD G) (cA := gyI G) (n := 4) (f := f_26) hx hb hK hP hD hS 5 0 rfl rfl (vp_in_nI (n := 1) (N := 4) (by omega) (by omega)) dX6_giveAllCells_50 (fun H locs hP hD hS => ?_)
  have hb_29 : inB 4 5 (upd f_26 (nI 1).toNatClampNeg (nI 2)) := hb_27.upd (n := 2) (by omega) rfl
  generalize upd f_26 (nI 1).toNatClampNeg (nI 2) = f_28 at hP hD hb_29
  have hP : va_P (gD G) vwCl [(pz, .inr (8, [.ref gr, .ref mr, .ref cg, .ref so, .ref sh, .int s1, .int s2])), (gr, .inl (gyI G, 16, .inl gv)), (dr, .inr (7, [.long (lN zn)])), (q_1, .inl (gyI G, 4, .inl f_10)), (q_12, .inl (gyI G, 4, .inl f_21)), (q_23, .inl (gyI G, 4, .inl f_28))] H := hP
  have hD : va_D A [(pz, .inr (8, [.ref gr, .ref mr, .ref cg, .ref so, .ref sh, .int s1, .int s2])), (gr, .inl (gyI G, 16, .inl gv)), (dr, .inr (7, [.long (lN zn)])), (q_1, .inl (gyI G, 4, .inl f_10)), (q_12, .inl (gyI G, 4, .inl f_21)), (q_23, .inl (gyI G, 4, .inl f_28))] := hD
  refine lv_dup hx hb dX6_giveAllCells_51 rfl ?_
  refine lv_iconst (v := nI 2) hx hb dX6_giveAllCells_52 (by decide) ?_
  refine lv_iconst (v := nI 3) hx hb dX6_giveAllCells_53 (by decide) ?_
  refine va_iast (D := gD G) (cA := gyI G) (n := 4) (f := f_28) hx hb hK hP hD hS 5 0 rfl rfl (vp_in_nI (n := 2) (N := 4) (by omega) (by omega)) dX6_giveAllCells_54 (fun H locs hP hD hS => ?_)
  have hb_31 : inB 4 5 (upd f_28 (nI 2).toNatClampNeg (nI 3)) := hb_29.upd (n := 3) (by omega) rfl
  generalize upd f_28 (nI 2).toNatClampNeg (nI 3) = f_30 at hP hD hb_31
  have hP : va_P (gD G) vwCl [(pz, .inr (8, [.ref gr, .ref mr, .ref cg, .ref so, .ref sh, .int s1, .int s2])), (gr, .inl (gyI G, 16, .inl gv)), (dr, .inr (7, [.long (lN zn)])), (q_1, .inl (gyI G, 4, .inl f_10)), (q_12, .inl (gyI G, 4, .inl f_21)), (q_23, .inl (gyI G, 4, .inl f_30))] H := hP
  have hD : va_D A [(pz, .inr (8, [.ref gr, .ref mr, .ref cg, .ref so, .ref sh, .int s1, .int s2])), (gr, .inl (gyI G, 16, .inl gv)), (dr, .inr (7, [.long (lN zn)])), (q_1, .inl (gyI G, 4, .inl f_10)), (q_12, .inl (gyI G, 4, .inl f_21)), (q_23, .inl (gyI G, 4, .inl f_30))] := hD
  refine lv_dup hx hb dX6_giveAllCells_55 rfl ?_
  refine lv_iconst (v := nI 3) hx hb dX6_giveAllCells_56 (by decide) ?_
  refine lv_iconst (v := nI 4) hx hb dX6_giveAllCells_57 (by decide) ?_
  refine va_iast (D := gD G) (cA := gyI G) (n := 4) (f := f_30) hx hb hK hP hD hS 5 0 rfl rfl (vp_in_nI (n := 3) (N := 4) (by omega) (by omega)) dX6_giveAllCells_58 (fun H locs hP hD hS => ?_)
  have hb_33 : inB 4 5 (upd f_30 (nI 3).toNatClampNeg (nI 4)) := hb_31.upd (n := 4) (by omega) rfl
  generalize upd f_30 (nI 3).toNatClampNeg (nI 4) = f_32 at hP hD hb_33
  have hP : va_P (gD G) vwCl [(pz, .inr (8, [.ref gr, .ref mr, .ref cg, .ref so, .ref sh, .int s1, .int s2])), (gr, .inl (gyI G, 16, .inl gv)), (dr, .inr (7, [.long (lN zn)])), (q_1, .inl (gyI G, 4, .inl f_10)), (q_12, .inl (gyI G, 4, .inl f_21)), (q_23, .inl (gyI G, 4, .inl f_32))] H := hP
  have hD : va_D A [(pz, .inr (8, [.ref gr, .ref mr, .ref cg, .ref so, .ref sh, .int s1, .int s2])), (gr, .inl (gyI G, 16, .inl gv)), (dr, .inr (7, [.long (lN zn)])), (q_1, .inl (gyI G, 4, .inl f_10)), (q_12, .inl (gyI G, 4, .inl f_21)), (q_23, .inl (gyI G, 4, .inl f_32))] := hD
  refine lv_astore (lv' := [(4, .ref q_23), (3, .ref q_12), (2, .ref q_1), (0, .ref pz), (1, .ref dr)]) hx hb dX6_giveAllCells_59 hl (by decide) rfl (fun ls hl => ?_)
  refine lv_aload_n hx hb dX6_giveAllCells_61 rfl (lv_at hl 4 rfl) ?_
  refine lv_aload_n hx hb dX6_giveAllCells_62 rfl (lv_at hl 2 rfl) ?_
  refine fin_v hP hD hS hA [2, 3] [0, 1, 4, 5] (wr := [(pz, .inr (8, [.ref gr, .ref mr, .ref cg, .ref so, .ref sh, .int s1, .int s2])), (gr, .inl (gyI G, 16, .inl gv)), (q_12, .inl (gyI G, 4, .inl f_21)), (q_23, .inl (gyI G, 4, .inl f_32))]) rfl rfl (by decide) (by decide) (va_runVN (As := [.ref q_1]) (rest := []) ⟨hx, hb, hml, hown, hts⟩ (c_X2_mix l G dr zn q_1 f_10 4 (by omega) hb_11 H.size) ⟨(va_cnB 1 hts (gI q681) rfl rfl rfl (hE.1.1 _ nq678) (hts _ q74) (by decide +kernel) ⟨Nat.le_of_ble_eq_true rfl, Nat.le_of_ble_eq_true rfl⟩), hts _ q680, hts _ q26⟩ (preV (q0 := 2) (ci := 7) hK hE hP hD hS hA [2, 3] rfl (by decide) rfl rfl) rfl rfl hl.1 rfl (lv_room (Nat.le_of_ble_eq_true rfl)) dX6_giveAllCells_63 ⟨Nat.le_of_ble_eq_true rfl, Nat.le_of_ble_eq_true rfl⟩) (fun u9 hw_36 H locs hP hD hS => ?_)
  obtain ⟨zn2_34, f2_35⟩ := u9
  obtain ⟨hz2_38, hf2_39⟩ := hw_36
  have hz2_38 : zn2_34 < 2147483648 := hz2_38
  have hf2_39 : inB 4 4 f2_35 := hf2_39
  have hP : va_P (gD G) vwCl [(pz, .inr (8, [.ref gr, .ref mr, .ref cg, .ref so, .ref sh, .int s1, .int s2])), (gr, .inl (gyI G, 16, .inl gv)), (q_12, .inl (gyI G, 4, .inl f_21)), (q_23, .inl (gyI G, 4, .inl f_32)), (dr, .inr (7, [.long (lN zn2_34)])), (q_1, .inl (gyI G, 4, .inl f2_35))] H := hP
  have hD : va_D A [(pz, .inr (8, [.ref gr, .ref mr, .ref cg, .ref so, .ref sh, .int s1, .int s2])), (gr, .inl (gyI G, 16, .inl gv)), (q_12, .inl (gyI G, 4, .inl f_21)), (q_23, .inl (gyI G, 4, .inl f_32)), (dr, .inr (7, [.long (lN zn2_34)])), (q_1, .inl (gyI G, 4, .inl f2_35))] := hD
  refine lv_aload_n hx hb dX6_giveAllCells_66 rfl (lv_at hl 4 rfl) ?_
  refine lv_aload_n hx hb dX6_giveAllCells_67 rfl (lv_at hl 1 rfl) ?_
  refine fin_v hP hD hS hA [4, 2] [0, 1, 3, 5] (wr := [(pz, .inr (8, [.ref gr, .ref mr, .ref cg, .ref so, .ref sh, .int s1, .int s2])), (gr, .inl (gyI G, 16, .inl gv)), (q_23, .inl (gyI G, 4, .inl f_32)), (q_1, .inl (gyI G, 4, .inl f2_35))]) rfl rfl (by decide) (by decide) (va_runVN (As := [.ref q_12]) (rest := []) ⟨hx, hb, hml, hown, hts⟩ (c_X2_mix l G dr zn2_34 q_12 f_21 4 (by omega) hb_22 H.size) ⟨(va_cnB 1 hts (gI q681) rfl rfl rfl (hE.1.1 _ nq678) (hts _ q74) (by decide +kernel) ⟨Nat.le_of_ble_eq_true rfl, Nat.le_of_ble_eq_true rfl⟩), hts _ q680, hts _ q26⟩ (preV (q0 := 4) (ci := 7) hK hE hP hD hS hA [4, 2] rfl (by decide) rfl rfl) rfl rfl hl.1 rfl (lv_room (Nat.le_of_ble_eq_true rfl)) dX6_giveAllCells_68 ⟨Nat.le_of_ble_eq_true rfl, Nat.le_of_ble_eq_true rfl⟩) (fun u9 hw_42 H locs hP hD hS => ?_)
  obtain ⟨zn2_40, f2_41⟩ := u9
  obtain ⟨hz2_44, hf2_45⟩ := hw_42
  have hz2_44 : zn2_40 < 2147483648 := hz2_44
  have hf2_45 : inB 4 4 f2_41 := hf2_45
  have hP : va_P (gD G) vwCl [(pz, .inr (8, [.ref gr, .ref mr, .ref cg, .ref so, .ref sh, .int s1, .int s2])), (gr, .inl (gyI G, 16, .inl gv)), (q_23, .inl (gyI G, 4, .inl f_32)), (q_1, .inl (gyI G, 4, .inl f2_35)), (dr, .inr (7, [.long (lN zn2_40)])), (q_12, .inl (gyI G, 4, .inl f2_41))] H := hP
  have hD : va_D A [(pz, .inr (8, [.ref gr, .ref mr, .ref cg, .ref so, .ref sh, .int s1, .int s2])), (gr, .inl (gyI G, 16, .inl gv)), (q_23, .inl (gyI G, 4, .inl f_32)), (q_1, .inl (gyI G, 4, .inl f2_35)), (dr, .inr (7, [.long (lN zn2_40)])), (q_12, .inl (gyI G, 4, .inl f2_41))] := hD
  refine lv_aload_n hx hb dX6_giveAllCells_71 rfl (lv_at hl 4 rfl) ?_
  refine lv_aload hx hb dX6_giveAllCells_72 (lv_at hl 0 rfl) ?_
  refine fin_v hP hD hS hA [4, 2] [0, 1, 3, 5] (wr := [(pz, .inr (8, [.ref gr, .ref mr, .ref cg, .ref so, .ref sh, .int s1, .int s2])), (gr, .inl (gyI G, 16, .inl gv)), (q_1, .inl (gyI G, 4, .inl f2_35)), (q_12, .inl (gyI G, 4, .inl f2_41))]) rfl rfl (by decide) (by decide) (va_runVN (As := [.ref q_23]) (rest := []) ⟨hx, hb, hml, hown, hts⟩ (c_X2_mix l G dr zn2_40 q_23 f_32 5 (by omega) hb_33 H.size) ⟨(va_cnB 1 hts (gI q681) rfl rfl rfl (hE.1.1 _ nq678) (hts _ q74) (by decide +kernel) ⟨Nat.le_of_ble_eq_true rfl, Nat.le_of_ble_eq_true rfl⟩), hts _ q680, hts _ q26⟩ (preV (q0 := 4) (ci := 7) hK hE hP hD hS hA [4, 2] rfl (by decide) rfl rfl) rfl rfl hl.1 rfl (lv_room (Nat.le_of_ble_eq_true rfl)) dX6_giveAllCells_74 ⟨Nat.le_of_ble_eq_true rfl, Nat.le_of_ble_eq_true rfl⟩) (fun u9 hw_48 H locs hP hD hS => ?_)
  obtain ⟨zn2_46, f2_47⟩ := u9
  obtain ⟨hz2_50, hf2_51⟩ := hw_48
  have hz2_50 : zn2_46 < 2147483648 := hz2_50
  have hf2_51 : inB 4 5 f2_47 := hf2_51
  have hP : va_P (gD G) vwCl [(pz, .inr (8, [.ref gr, .ref mr, .ref cg, .ref so, .ref sh, .int s1, .int s2])), (gr, .inl (gyI G, 16, .inl gv)), (q_1, .inl (gyI G, 4, .inl f2_35)), (q_12, .inl (gyI G, 4, .inl f2_41)), (dr, .inr (7, [.long (lN zn2_46)])), (q_23, .inl (gyI G, 4, .inl f2_47))] H := hP
  have hD : va_D A [(pz, .inr (8, [.ref gr, .ref mr, .ref cg, .ref so, .ref sh, .int s1, .int s2])), (gr, .inl (gyI G, 16, .inl gv)), (q_1, .inl (gyI G, 4, .inl f2_35)), (q_12, .inl (gyI G, 4, .inl f2_41)), (dr, .inr (7, [.long (lN zn2_46)])), (q_23, .inl (gyI G, 4, .inl f2_47))] := hD
  refine lv_iconst (v := nI 0) hx hb dX6_giveAllCells_77 (by decide) ?_
  refine lv_istore (lv' := [(5, .int (nI 0)), (4, .ref q_23), (3, .ref q_12), (2, .ref q_1), (0, .ref pz), (1, .ref dr)]) hx hb dX6_giveAllCells_78 hl (by decide) rfl (fun ls hl => ?_)
  have cut_80_1 : ∀ (n9 : Nat) (i : Nat) (gv3 : Nat → Int32) (s5 : Int32) (s6 : Int32) (hi : i ≤ 4) (hm9 : 4 - i < n9) (H : Heap) (locs : List Loc), va_P (gD G) vwCl [(pz, .inr (8, [.ref gr, .ref mr, .ref cg, .ref so, .ref sh, .int s5, .int s6])), (gr, .inl (gyI G, 16, .inl gv3)), (q_1, .inl (gyI G, 4, .inl f2_35)), (q_12, .inl (gyI G, 4, .inl f2_41)), (dr, .inr (7, [.long (lN zn2_46)])), (q_23, .inl (gyI G, 4, .inl f2_47))] H → va_D A [(pz, .inr (8, [.ref gr, .ref mr, .ref cg, .ref so, .ref sh, .int s5, .int s6])), (gr, .inl (gyI G, 16, .inl gv3)), (q_1, .inl (gyI G, 4, .inl f2_35)), (q_12, .inl (gyI G, 4, .inl f2_41)), (dr, .inr (7, [.long (lN zn2_46)])), (q_23, .inl (gyI G, 4, .inl f2_47))] → va_S A s.heap H locs → ∀ (ls : Array Slot), lv_has ls 8 [(4, .ref q_23), (3, .ref q_12), (2, .ref q_1), (0, .ref pz), (1, .ref dr), (5, .int (nI i))] → W p l e ({ frames := 2, cells := 3, slots := 12, locals := 45 } : Room) s m ([.ref pz, .ref dr] : List Value).toArray below meth c H locs 3 12 Q (F0 m 80 ls []) := by
    intro n9
    induction n9 with
    | zero =>
      intro i gv3 s5 s6 hi hm9
      exact absurd hm9 (Nat.not_lt_zero _)
    | succ n9 ih_80_1 =>
      intro i gv3 s5 s6 hi hm9 H locs hP hD hS ls hl
      refine lv_iload hx hb dX6_giveAllCells_80 (lv_at hl 5 rfl) ?_
      refine lv_iconst (v := nI 4) hx hb dX6_giveAllCells_82 (by decide) ?_
      refine lv_icmp_ge (tgt := 140) hx hb dX6_giveAllCells_83 (by decide) (fun c_52 => ?_) (fun c_52 => ?_)
      · skip
        have c_52 : 4 ≤ i := (nI_leI (a := 4) (b := i) (by omega) (by omega)).mp c_52
        have hP9 := hP.sub (ws' := [(pz, .inr (8, [.ref gr, .ref mr, .ref cg, .ref so, .ref sh, .int s5, .int s6])), (gr, .inl (gyI G, 16, .inl gv3)), (dr, .inr (7, [.long (lN zn2_46)]))]) [0, 1, 4] rfl
        have hD9 := hD.sub (ws' := [(pz, .inr (8, [.ref gr, .ref mr, .ref cg, .ref so, .ref sh, .int s5, .int s6])), (gr, .inl (gyI G, 16, .inl gv3)), (dr, .inr (7, [.long (lN zn2_46)]))]) [0, 1, 4] (by decide) rfl
        subst hQ
        exact W.vret hx hb hr (fun t ht hW => ⟨⟨(gv3, s5, s6, zn2_46), rfl, (show zn2_46 < 2147483648 by omega), by rw [ht]; exact hP9, hD9⟩, hS.F ht⟩) hS.2.2 dX6_giveAllCells_140
      · skip
        have c_52 : ¬ 4 ≤ i := fun z => c_52 ((nI_leI (a := 4) (b := i) (by omega) (by omega)).mpr z)
        refine lv_iconst (v := nI 0) hx hb dX6_giveAllCells_86 (by decide) ?_
        refine lv_istore (lv' := [(6, .int (nI 0)), (4, .ref q_23), (3, .ref q_12), (2, .ref q_1), (0, .ref pz), (1, .ref dr), (5, .int (nI i))]) hx hb dX6_giveAllCells_87 hl (by decide) rfl (fun ls hl => ?_)
        have cut_89_2 : ∀ (n9 : Nat) (j : Nat) (gv4 : Nat → Int32) (s7 : Int32) (s8 : Int32) (hj : j ≤ 4) (hm9 : 4 - j < n9) (H : Heap) (locs : List Loc), va_P (gD G) vwCl [(pz, .inr (8, [.ref gr, .ref mr, .ref cg, .ref so, .ref sh, .int s7, .int s8])), (gr, .inl (gyI G, 16, .inl gv4)), (q_1, .inl (gyI G, 4, .inl f2_35)), (q_12, .inl (gyI G, 4, .inl f2_41)), (dr, .inr (7, [.long (lN zn2_46)])), (q_23, .inl (gyI G, 4, .inl f2_47))] H → va_D A [(pz, .inr (8, [.ref gr, .ref mr, .ref cg, .ref so, .ref sh, .int s7, .int s8])), (gr, .inl (gyI G, 16, .inl gv4)), (q_1, .inl (gyI G, 4, .inl f2_35)), (q_12, .inl (gyI G, 4, .inl f2_41)), (dr, .inr (7, [.long (lN zn2_46)])), (q_23, .inl (gyI G, 4, .inl f2_47))] → va_S A s.heap H locs → ∀ (ls : Array Slot), lv_has ls 8 [(4, .ref q_23), (3, .ref q_12), (2, .ref q_1), (0, .ref pz), (1, .ref dr), (5, .int (nI i)), (6, .int (nI j))] → W p l e ({ frames := 2, cells := 3, slots := 12, locals := 45 } : Room) s m ([.ref pz, .ref dr] : List Value).toArray below meth c H locs 3 12 Q (F0 m 89 ls []) := by
          intro n9
          induction n9 with
          | zero =>
            intro j gv4 s7 s8 hj hm9
            exact absurd hm9 (Nat.not_lt_zero _)
          | succ n9 ih_89_2 =>
            intro j gv4 s7 s8 hj hm9 H locs hP hD hS ls hl
            refine lv_iload hx hb dX6_giveAllCells_89 (lv_at hl 6 rfl) ?_
            refine lv_iconst (v := nI 4) hx hb dX6_giveAllCells_91 (by decide) ?_
            refine lv_icmp_ge (tgt := 134) hx hb dX6_giveAllCells_92 (by decide) (fun c_53 => ?_) (fun c_53 => ?_)
            · skip
              have c_53 : 4 ≤ j := (nI_leI (a := 4) (b := j) (by omega) (by omega)).mp c_53
              refine lv_iinc (v := nI (i + 1)) (lv' := [(5, .int (nI (i + 1))), (4, .ref q_23), (3, .ref q_12), (2, .ref q_1), (0, .ref pz), (1, .ref dr), (6, .int (nI j))]) hx hb dX6_giveAllCells_134 hl (k := 5) rfl (nI_add i 1) (by decide) rfl (fun ls hl => ?_)
              refine lv_goto (tgt := 80) hx hb dX6_giveAllCells_137 (by decide) ?_
              exact ih_80_1 (i + 1) gv4 s7 s8 (by omega) (by omega) _ _ (hP.sub [0, 1, 2, 3, 4, 5] rfl) (hD.sub [0, 1, 2, 3, 4, 5] (by decide) rfl) hS ls (lv_sub hl [1, 2, 3, 4, 5, 0] rfl)
            · skip
              have c_53 : ¬ 4 ≤ j := fun z => c_53 ((nI_leI (a := 4) (b := j) (by omega) (by omega)).mpr z)
              refine lv_iconst (v := nI 1) hx hb dX6_giveAllCells_95 (by decide) ?_
              refine lv_aload_n hx hb dX6_giveAllCells_96 rfl (lv_at hl 2 rfl) ?_
              refine lv_iload hx hb dX6_giveAllCells_97 (lv_at hl 5 rfl) ?_
              refine va_iald (D := gD G) (cA := gyI G) (n := 4) (f := f2_35) hx hb hK hP 2 0 rfl rfl (vp_in_nI (n := i) (N := 4) (by omega) (by omega)) dX6_giveAllCells_99 ?_
              obtain ⟨n_54, hn_54, en_54⟩ := hf2_39 i (by omega)
              refine lv_toe (show f2_35 (nI i).toNatClampNeg = nI n_54 by rw [nI_clamp (by omega)]; exact en_54) ?_
              refine lv_aload_n hx hb dX6_giveAllCells_100 rfl (lv_at hl 1 rfl) ?_
              refine lv_iload hx hb dX6_giveAllCells_101 (lv_at hl 6 rfl) ?_
              refine va_iald (D := gD G) (cA := gyI G) (n := 4) (f := f2_41) hx hb hK hP 3 0 rfl rfl (vp_in_nI (n := j) (N := 4) (by omega) (by omega)) dX6_giveAllCells_103 ?_
              obtain ⟨n_55, hn_55, en_55⟩ := hf2_45 j (by omega)
              refine lv_toe (show f2_41 (nI j).toNatClampNeg = nI n_55 by rw [nI_clamp (by omega)]; exact en_55) ?_
              refine lv_iadd hx hb dX6_giveAllCells_104 ?_
              refine lv_toe (nI_add n_54 n_55) ?_
              refine lv_iconst (v := nI 4) hx hb dX6_giveAllCells_105 (by decide) ?_
              refine lv_irem hx hb dX6_giveAllCells_106 (nI_ne0 (by omega) (by omega)) ?_
              refine lv_toe (pk_rem (a := n_54 + n_55) (d := 4) (by omega) (by omega) (by omega)) ?_
              refine lv_iadd hx hb dX6_giveAllCells_107 ?_
              refine lv_toe (nI_add 1 ((n_54 + n_55) % 4)) ?_
              refine lv_istore (lv' := [(7, .int (nI (1 + ((n_54 + n_55) % 4)))), (4, .ref q_23), (3, .ref q_12), (2, .ref q_1), (0, .ref pz), (1, .ref dr), (5, .int (nI i)), (6, .int (nI j))]) hx hb dX6_giveAllCells_108 hl (by decide) rfl (fun ls hl => ?_)
              refine lv_aload_n hx hb dX6_giveAllCells_110 rfl (lv_at hl 4 rfl) ?_
              refine lv_iload hx hb dX6_giveAllCells_111 (lv_at hl 6 rfl) ?_
              refine lv_iconst (v := nI 4) hx hb dX6_giveAllCells_113 (by decide) ?_
              refine lv_imul hx hb dX6_giveAllCells_114 ?_
              refine lv_toe (pk_mul i 4) ?_
              refine lv_iload hx hb dX6_giveAllCells_115 (lv_at hl 7 rfl) ?_
              refine lv_iadd hx hb dX6_giveAllCells_117 ?_
              refine lv_toe (nI_add (i * 4) j) ?_
              refine lv_aload hx hb dX6_giveAllCells_118 (lv_at hl 1 rfl) ?_
              refine lv_iload hx hb dX6_giveAllCells_120 (lv_at hl 0 rfl) ?_
              refine lv_iconst (v := nI 1) hx hb dX6_giveAllCells_122 (by decide) ?_
              refine lv_isub hx hb dX6_giveAllCells_123 ?_
              refine lv_toe (pk_sub (a := 1 + ((n_54 + n_55) % 4)) (b := 1) (by omega)) ?_
              refine va_iald (D := gD G) (cA := gyI G) (n := 4) (f := f2_47) hx hb hK hP 5 0 rfl rfl (vp_in_nI (n := 1 + ((n_54 + n_55) % 4) - 1) (N := 4) (by omega) (by omega)) dX6_giveAllCells_124 ?_
              obtain ⟨n_56, hn_56, en_56⟩ := hf2_51 (1 + ((n_54 + n_55) % 4) - 1) (by omega)
              refine lv_toe (show f2_47 (nI (1 + ((n_54 + n_55) % 4) - 1)).toNatClampNeg = nI n_56 by rw [nI_clamp (by omega)]; exact en_56) ?_
              refine fin_v hP hD hS hA [0, 1] [2, 3, 4, 5] (wr := [(q_1, .inl (gyI G, 4, .inl f2_35)), (q_12, .inl (gyI G, 4, .inl f2_41)), (dr, .inr (7, [.long (lN zn2_46)])), (q_23, .inl (gyI G, 4, .inl f2_47))]) rfl rfl (by decide) (by decide) (va_runVN (As := [.int (nI (i * 4 + j)), .int (nI n_56)]) (rest := []) ⟨hx, hb, hml, hown, hts⟩ (c_X3_putGiven l G pz gr mr cg so sh s7 s8 gv4 (i * 4 + j) (nI n_56) (by omega) H.size) ⟨(va_cnB 2 hts (gI q609) rfl rfl rfl (hE.1.1 _ nq606) (hts _ q57) (by decide +kernel) ⟨Nat.le_of_ble_eq_true rfl, Nat.le_of_ble_eq_true rfl⟩), hts _ q608, hts _ q24⟩ (preV (q0 := 0) (ci := 8) hK hE hP hD hS hA [0, 1] rfl (by decide) rfl rfl) rfl rfl hl.1 rfl (lv_room (Nat.le_of_ble_eq_true rfl)) dX6_giveAllCells_125 ⟨Nat.le_of_ble_eq_true rfl, Nat.le_of_ble_eq_true rfl⟩) (fun u9 hw_58 H locs hP hD hS => ?_)
              obtain ⟨gv2_57, rfl⟩ : ∃ z, z = u9 := ⟨_, rfl⟩
              have hP : va_P (gD G) vwCl [(q_1, .inl (gyI G, 4, .inl f2_35)), (q_12, .inl (gyI G, 4, .inl f2_41)), (dr, .inr (7, [.long (lN zn2_46)])), (q_23, .inl (gyI G, 4, .inl f2_47)), (pz, .inr (8, [.ref gr, .ref mr, .ref cg, .ref so, .ref sh, .int (nI 0), .int (nI 0)])), (gr, .inl (gyI G, 16, .inl gv2_57))] H := hP
              have hD : va_D A [(q_1, .inl (gyI G, 4, .inl f2_35)), (q_12, .inl (gyI G, 4, .inl f2_41)), (dr, .inr (7, [.long (lN zn2_46)])), (q_23, .inl (gyI G, 4, .inl f2_47)), (pz, .inr (8, [.ref gr, .ref mr, .ref cg, .ref so, .ref sh, .int (nI 0), .int (nI 0)])), (gr, .inl (gyI G, 16, .inl gv2_57))] := hD
              refine lv_iinc (v := nI (j + 1)) (lv' := [(6, .int (nI (j + 1))), (7, .int (nI (1 + ((n_54 + n_55) % 4)))), (4, .ref q_23), (3, .ref q_12), (2, .ref q_1), (0, .ref pz), (1, .ref dr), (5, .int (nI i))]) hx hb dX6_giveAllCells_128 hl (k := 7) rfl (nI_add j 1) (by decide) rfl (fun ls hl => ?_)
              refine lv_goto (tgt := 89) hx hb dX6_giveAllCells_131 (by decide) ?_
              exact ih_89_2 (j + 1) gv2_57 (nI 0) (nI 0) (by omega) (by omega) _ _ (hP.sub [4, 5, 0, 1, 2, 3] rfl) (hD.sub [4, 5, 0, 1, 2, 3] (by decide) rfl) hS ls (lv_sub hl [2, 3, 4, 5, 6, 7, 0] rfl)
        exact cut_89_2 (4 - 0 + 1) 0 gv3 s5 s6 (by omega) (Nat.lt_succ_self _) _ _ (hP.sub [0, 1, 2, 3, 4, 5] rfl) (hD.sub [0, 1, 2, 3, 4, 5] (by decide) rfl) hS ls (lv_sub hl [1, 2, 3, 4, 5, 6, 0] rfl)
  exact cut_80_1 (4 - 0 + 1) 0 gv s1 s2 (by omega) (Nat.lt_succ_self _) _ _ (hP.sub [0, 1, 2, 3, 4, 5] rfl) (hD.sub [0, 1, 2, 3, 4, 5] (by decide) rfl) hS ls (lv_sub hl [1, 2, 3, 4, 5, 0] rfl)
set_option maxHeartbeats 4000000 in
set_option maxRecDepth 100000 in
theorem c_X6_takeGivensAway (l : Launch) (G : GG) (ho : Nat) (al : Nat) (ts : Nat) (pb : Nat) (lr : Int32) (sv : Nat) (b : Nat) (mm : Nat) (sr : Nat) (se : Nat) (f : Nat → Int32) (g : Nat → Int32) (hh : Nat → Int32) (sc : Nat) (tc : Nat) (oc : Int32) (pz : Nat) (gr : Nat) (mr : Nat) (cg : Nat) (so : Nat) (sh : Nat) (s1 : Int32) (s2 : Int32) (gv : Nat → Int32) (dr : Nat) (zn : Nat) (hi : Nat) (hsc : sc ≤ 64) (htc : tc ≤ 16) (hz : zn < 2147483648) (hhi : hi < 4) : Mv l G yX6_takeGivensAway cX6_takeGivensAway 7 ({ frames := 5, cells := 0, slots := 0, locals := 124 } : Room) [.ref ho, .ref pz, .ref dr, .int (nI hi)] [(ho, .inr (11, [.ref al, .ref sv, .ref ts, .ref pb, .null, .int lr])), (sv, .inr (10, [.ref b, .ref sr, .ref se, .int (nI sc), .int (nI tc), .int oc])), (b, .inr (5, [.ref mm])), (mm, .inl (gyI G, 16, .inl f)), (sr, .inl (gyI G, 64, .inl g)), (se, .inl (gyI G, 16, .inl hh)), (pz, .inr (8, [.ref gr, .ref mr, .ref cg, .ref so, .ref sh, .int s1, .int s2])), (gr, .inl (gyI G, 16, .inl gv)), (dr, .inr (7, [.long (lN zn)]))] (fun (u : Int32 × Int32) => True) (fun (u : Int32 × Int32) => [(ho, .inr (11, [.ref al, .ref sv, .ref ts, .ref pb, .null, .int lr])), (pz, .inr (8, [.ref gr, .ref mr, .ref cg, .ref so, .ref sh, .int u.1, .int u.2]))]) := by
  intro sz
  refine Met.ofW (cc := cX6_takeGivensAway) (maxL := 7) (ret := none) (by decide) rfl ?_
  intro p e s m args below meth c s₁ B9 hml hv
  obtain ⟨rfl, hsz, hP, hK, hD0, hE⟩ := hv
  have hx := B9.exec
  have hb := B9.bytes
  have hr := B9.returns
  have hts : ∀ w ∈ WW, w.before ([.ref ho, .ref pz, .ref dr, .int (nI hi)] : List Value).toArray s = true := fun w h => atoms_spec (ws := .code yX6_takeGivensAway cX6_takeGivensAway 7 none :: WW) B9.pre w (List.mem_cons_of_mem _ h)
  have hown : s.vm.findClass RX6 = some m.cls := findClass_of_methodNamed B9.named
  subst hsz
  have hD := hD0.self (sz := s.heap.size)
  generalize hAe : va_A [(ho, .inr (11, [.ref al, .ref sv, .ref ts, .ref pb, .null, .int lr])), (sv, .inr (10, [.ref b, .ref sr, .ref se, .int (nI sc), .int (nI tc), .int oc])), (b, .inr (5, [.ref mm])), (mm, .inl (gyI G, 16, .inl f)), (sr, .inl (gyI G, 64, .inl g)), (se, .inl (gyI G, 16, .inl hh)), (pz, .inr (8, [.ref gr, .ref mr, .ref cg, .ref so, .ref sh, .int s1, .int s2])), (gr, .inl (gyI G, 16, .inl gv)), (dr, .inr (7, [.long (lN zn)]))] s.heap.size = A at hD hE ⊢
  have hA : ∀ q : Nat, s.heap.size ≤ q → A q := fun q h => by rw [← hAe]; exact Or.inr h
  have hl := lv_entry ([.ref ho, .ref pz, .ref dr, .int (nI hi)]) (n := 7) (Nat.le_of_ble_eq_true rfl)
  rw [lg_entry_eq]
  generalize (lg_sl ([.ref ho, .ref pz, .ref dr, .int (nI hi)]) ++ List.replicate (7 - (lg_sl ([.ref ho, .ref pz, .ref dr, .int (nI hi)])).length) Slot.unset).toArray = ls at hl ⊢
  have hl : lv_has ls 7 [(0, .ref ho), (1, .ref pz), (2, .ref dr), (3, .int (nI hi))] := hl
  refine qgen (fun Q hQ => ?_)
  refine hgen (fun H locs hP hD hS => ?_) hP hD
  refine lv_iconst (v := nI 0) hx hb dX6_takeGivensAway_0 (by decide) ?_
  refine lv_istore (lv' := [(4, .int (nI 0)), (0, .ref ho), (1, .ref pz), (2, .ref dr), (3, .int (nI hi))]) hx hb dX6_takeGivensAway_1 hl (by decide) rfl (fun ls hl => ?_)
  have cut_3_1 : ∀ (n9 : Nat) (f3 : Nat → Int32) (g3 : Nat → Int32) (h3 : Nat → Int32) (sc3 : Nat) (tc3 : Nat) (oc3 : Int32) (gv3 : Nat → Int32) (s3 : Int32) (s4 : Int32) (z3 : Nat) (t9 : Nat) (hsc3 : sc3 ≤ 64) (htc3 : tc3 ≤ 16) (hz3 : z3 < 2147483648) (ht9 : t9 ≤ 16) (hm9 : 16 - t9 < n9) (H : Heap) (locs : List Loc), va_P (gD G) vwCl [(ho, .inr (11, [.ref al, .ref sv, .ref ts, .ref pb, .null, .int lr])), (sv, .inr (10, [.ref b, .ref sr, .ref se, .int (nI sc3), .int (nI tc3), .int oc3])), (b, .inr (5, [.ref mm])), (mm, .inl (gyI G, 16, .inl f3)), (sr, .inl (gyI G, 64, .inl g3)), (se, .inl (gyI G, 16, .inl h3)), (pz, .inr (8, [.ref gr, .ref mr, .ref cg, .ref so, .ref sh, .int s3, .int s4])), (gr, .inl (gyI G, 16, .inl gv3)), (dr, .inr (7, [.long (lN z3)]))] H → va_D A [(ho, .inr (11, [.ref al, .ref sv, .ref ts, .ref pb, .null, .int lr])), (sv, .inr (10, [.ref b, .ref sr, .ref se, .int (nI sc3), .int (nI tc3), .int oc3])), (b, .inr (5, [.ref mm])), (mm, .inl (gyI G, 16, .inl f3)), (sr, .inl (gyI G, 64, .inl g3)), (se, .inl (gyI G, 16, .inl h3)), (pz, .inr (8, [.ref gr, .ref mr, .ref cg, .ref so, .ref sh, .int s3, .int s4])), (gr, .inl (gyI G, 16, .inl gv3)), (dr, .inr (7, [.long (lN z3)]))] → va_S A s.heap H locs → ∀ (ls : Array Slot), lv_has ls 7 [(0, .ref ho), (1, .ref pz), (2, .ref dr), (3, .int (nI hi)), (4, .int (nI t9))] → W p l e ({ frames := 5, cells := 0, slots := 0, locals := 124 } : Room) s m ([.ref ho, .ref pz, .ref dr, .int (nI hi)] : List Value).toArray below meth c H locs 0 0 Q (F0 m 3 ls []) := by
    intro n9
    induction n9 with
    | zero =>
      intro f3 g3 h3 sc3 tc3 oc3 gv3 s3 s4 z3 t9 hsc3 htc3 hz3 ht9 hm9
      exact absurd hm9 (Nat.not_lt_zero _)
    | succ n9 ih_3_1 =>
      intro f3 g3 h3 sc3 tc3 oc3 gv3 s3 s4 z3 t9 hsc3 htc3 hz3 ht9 hm9 H locs hP hD hS ls hl
      refine lv_iload hx hb dX6_takeGivensAway_3 (lv_at hl 4 rfl) ?_
      refine lv_bipush (v := nI 16) hx hb dX6_takeGivensAway_5 (by decide) ?_
      refine lv_icmp_ge (tgt := 74) hx hb dX6_takeGivensAway_7 (by decide) (fun c_1 => ?_) (fun c_1 => ?_)
      · skip
        have c_1 : 16 ≤ t9 := (nI_leI (a := 16) (b := t9) (by omega) (by omega)).mp c_1
        have hP9 := hP.sub (ws' := [(ho, .inr (11, [.ref al, .ref sv, .ref ts, .ref pb, .null, .int lr])), (pz, .inr (8, [.ref gr, .ref mr, .ref cg, .ref so, .ref sh, .int s3, .int s4]))]) [0, 6] rfl
        have hD9 := hD.sub (ws' := [(ho, .inr (11, [.ref al, .ref sv, .ref ts, .ref pb, .null, .int lr])), (pz, .inr (8, [.ref gr, .ref mr, .ref cg, .ref so, .ref sh, .int s3, .int s4]))]) [0, 6] (by decide) rfl
        subst hQ
        exact W.vret hx hb hr (fun t ht hW => ⟨⟨(s3, s4), rfl, trivial, by rw [ht]; exact hP9, hD9⟩, hS.F ht⟩) hS.2.2 dX6_takeGivensAway_74
      · skip
        have c_1 : ¬ 16 ≤ t9 := fun z => c_1 ((nI_leI (a := 16) (b := t9) (by omega) (by omega)).mpr z)
        refine lv_aload_n hx hb dX6_takeGivensAway_10 rfl (lv_at hl 2 rfl) ?_
        refine lv_bipush (v := nI 16) hx hb dX6_takeGivensAway_11 (by decide) ?_
        refine fin_i hP hD hS hA [8] [0, 1, 2, 3, 4, 5, 6, 7] (wr := [(ho, .inr (11, [.ref al, .ref sv, .ref ts, .ref pb, .null, .int lr])), (sv, .inr (10, [.ref b, .ref sr, .ref se, .int (nI sc3), .int (nI tc3), .int oc3])), (b, .inr (5, [.ref mm])), (mm, .inl (gyI G, 16, .inl f3)), (sr, .inl (gyI G, 64, .inl g3)), (se, .inl (gyI G, 16, .inl h3)), (pz, .inr (8, [.ref gr, .ref mr, .ref cg, .ref so, .ref sh, .int s3, .int s4])), (gr, .inl (gyI G, 16, .inl gv3))]) rfl rfl (by decide) (by decide) (va_runVN (As := [.int (nI 16)]) (rest := []) ⟨hx, hb, hml, hown, hts⟩ (c_X2_below l G dr z3 16 (by omega) (by omega) (by omega) H.size) ⟨(va_cnB 1 hts (gI q685) rfl rfl rfl (hE.1.1 _ nq694) (hts _ q74) (by decide +kernel) ⟨Nat.le_of_ble_eq_true rfl, Nat.le_of_ble_eq_true rfl⟩), hts _ q684, hts _ q27⟩ (preV (q0 := 8) (ci := 7) hK hE hP hD hS hA [8] rfl (by decide) rfl rfl) rfl rfl hl.1 rfl (lv_room (Nat.le_of_ble_eq_true rfl)) dX6_takeGivensAway_13 ⟨Nat.le_of_ble_eq_true rfl, Nat.le_of_ble_eq_true rfl⟩) (fun r_5 u9 hw_4 H locs hP hD hS => ?_)
        obtain ⟨zn2_2, rn_3⟩ := u9
        obtain ⟨rfl, hz2_6, hrn_7⟩ := hw_4
        have hz2_6 : zn2_2 < 2147483648 := hz2_6
        have hrn_7 : rn_3 < 16 := hrn_7
        have hP : va_P (gD G) vwCl [(ho, .inr (11, [.ref al, .ref sv, .ref ts, .ref pb, .null, .int lr])), (sv, .inr (10, [.ref b, .ref sr, .ref se, .int (nI sc3), .int (nI tc3), .int oc3])), (b, .inr (5, [.ref mm])), (mm, .inl (gyI G, 16, .inl f3)), (sr, .inl (gyI G, 64, .inl g3)), (se, .inl (gyI G, 16, .inl h3)), (pz, .inr (8, [.ref gr, .ref mr, .ref cg, .ref so, .ref sh, .int s3, .int s4])), (gr, .inl (gyI G, 16, .inl gv3)), (dr, .inr (7, [.long (lN zn2_2)]))] H := hP
        have hD : va_D A [(ho, .inr (11, [.ref al, .ref sv, .ref ts, .ref pb, .null, .int lr])), (sv, .inr (10, [.ref b, .ref sr, .ref se, .int (nI sc3), .int (nI tc3), .int oc3])), (b, .inr (5, [.ref mm])), (mm, .inl (gyI G, 16, .inl f3)), (sr, .inl (gyI G, 64, .inl g3)), (se, .inl (gyI G, 16, .inl h3)), (pz, .inr (8, [.ref gr, .ref mr, .ref cg, .ref so, .ref sh, .int s3, .int s4])), (gr, .inl (gyI G, 16, .inl gv3)), (dr, .inr (7, [.long (lN zn2_2)]))] := hD
        refine lv_istore (lv' := [(5, .int (nI rn_3)), (0, .ref ho), (1, .ref pz), (2, .ref dr), (3, .int (nI hi)), (4, .int (nI t9))]) hx hb dX6_takeGivensAway_16 hl (by decide) rfl (fun ls hl => ?_)
        refine lv_aload_n hx hb dX6_takeGivensAway_18 rfl (lv_at hl 2 rfl) ?_
        refine va_getN (D := gD G) (ci := 8) (v := .ref gr) (C := RX3) (T := TX3) (N := 7) hx hb hts fwX3 hown hK hP 6 rfl rfl 0 (by decide) (va_Nw.use rfl (hE.1.1 _ nq440)) (fun _ h9 => h9) rfl dX6_takeGivensAway_19 ?_
        refine lv_iload hx hb dX6_takeGivensAway_22 (lv_at hl 0 rfl) ?_
        refine va_iald (D := gD G) (cA := gyI G) (n := 16) (f := gv3) hx hb hK hP 7 0 rfl rfl (vp_in_nI (n := rn_3) (N := 16) (by omega) (by omega)) dX6_takeGivensAway_24 ?_
        refine lv_topi (fun w_8 ew_8 => ?_)
        refine lv_istore (lv' := [(6, .int w_8), (5, .int (nI rn_3)), (0, .ref ho), (1, .ref pz), (2, .ref dr), (3, .int (nI hi)), (4, .int (nI t9))]) hx hb dX6_takeGivensAway_25 hl (by decide) rfl (fun ls hl => ?_)
        refine lv_iload hx hb dX6_takeGivensAway_27 (lv_at hl 0 rfl) ?_
        refine lv_if_eq (tgt := 68) hx hb dX6_takeGivensAway_29 (by decide) (fun c_9 => ?_) (fun c_9 => ?_)
        · skip
          refine lv_iinc (v := nI (t9 + 1)) (lv' := [(4, .int (nI (t9 + 1))), (6, .int w_8), (5, .int (nI rn_3)), (0, .ref ho), (1, .ref pz), (2, .ref dr), (3, .int (nI hi))]) hx hb dX6_takeGivensAway_68 hl (k := 6) rfl (nI_add t9 1) (by decide) rfl (fun ls hl => ?_)
          refine lv_goto (tgt := 3) hx hb dX6_takeGivensAway_71 (by decide) ?_
          exact ih_3_1 f3 g3 h3 sc3 tc3 oc3 gv3 s3 s4 zn2_2 (t9 + 1) (by omega) (by omega) (by omega) (by omega) (by omega) _ _ (hP.sub [0, 1, 2, 3, 4, 5, 6, 7, 8] rfl) (hD.sub [0, 1, 2, 3, 4, 5, 6, 7, 8] (by decide) rfl) hS ls (lv_sub hl [3, 4, 5, 6, 0] rfl)
        · skip
          refine lv_aload_n hx hb dX6_takeGivensAway_32 rfl (lv_at hl 3 rfl) ?_
          refine lv_iload hx hb dX6_takeGivensAway_33 (lv_at hl 1 rfl) ?_
          refine lv_iconst (v := nI 0) hx hb dX6_takeGivensAway_35 (by decide) ?_
          refine fin_v hP hD hS hA [6, 7] [0, 1, 2, 3, 4, 5, 8] (wr := [(ho, .inr (11, [.ref al, .ref sv, .ref ts, .ref pb, .null, .int lr])), (sv, .inr (10, [.ref b, .ref sr, .ref se, .int (nI sc3), .int (nI tc3), .int oc3])), (b, .inr (5, [.ref mm])), (mm, .inl (gyI G, 16, .inl f3)), (sr, .inl (gyI G, 64, .inl g3)), (se, .inl (gyI G, 16, .inl h3)), (dr, .inr (7, [.long (lN zn2_2)]))]) rfl rfl (by decide) (by decide) (va_runVN (As := [.int (nI rn_3), .int (nI 0)]) (rest := []) ⟨hx, hb, hml, hown, hts⟩ (c_X3_putGiven l G pz gr mr cg so sh s3 s4 gv3 rn_3 (nI 0) (by omega) H.size) ⟨(va_cnB 2 hts (gI q609) rfl rfl rfl (hE.1.1 _ nq606) (hts _ q57) (by decide +kernel) ⟨Nat.le_of_ble_eq_true rfl, Nat.le_of_ble_eq_true rfl⟩), hts _ q608, hts _ q24⟩ (preV (q0 := 6) (ci := 8) hK hE hP hD hS hA [6, 7] rfl (by decide) rfl rfl) rfl rfl hl.1 rfl (lv_room (Nat.le_of_ble_eq_true rfl)) dX6_takeGivensAway_36 ⟨Nat.le_of_ble_eq_true rfl, Nat.le_of_ble_eq_true rfl⟩) (fun u9 hw_11 H locs hP hD hS => ?_)
          obtain ⟨gv2_10, rfl⟩ : ∃ z, z = u9 := ⟨_, rfl⟩
          have hP : va_P (gD G) vwCl [(ho, .inr (11, [.ref al, .ref sv, .ref ts, .ref pb, .null, .int lr])), (sv, .inr (10, [.ref b, .ref sr, .ref se, .int (nI sc3), .int (nI tc3), .int oc3])), (b, .inr (5, [.ref mm])), (mm, .inl (gyI G, 16, .inl f3)), (sr, .inl (gyI G, 64, .inl g3)), (se, .inl (gyI G, 16, .inl h3)), (dr, .inr (7, [.long (lN zn2_2)])), (pz, .inr (8, [.ref gr, .ref mr, .ref cg, .ref so, .ref sh, .int (nI 0), .int (nI 0)])), (gr, .inl (gyI G, 16, .inl gv2_10))] H := hP
          have hD : va_D A [(ho, .inr (11, [.ref al, .ref sv, .ref ts, .ref pb, .null, .int lr])), (sv, .inr (10, [.ref b, .ref sr, .ref se, .int (nI sc3), .int (nI tc3), .int oc3])), (b, .inr (5, [.ref mm])), (mm, .inl (gyI G, 16, .inl f3)), (sr, .inl (gyI G, 64, .inl g3)), (se, .inl (gyI G, 16, .inl h3)), (dr, .inr (7, [.long (lN zn2_2)])), (pz, .inr (8, [.ref gr, .ref mr, .ref cg, .ref so, .ref sh, .int (nI 0), .int (nI 0)])), (gr, .inl (gyI G, 16, .inl gv2_10))] := hD
          refine lv_aload_n hx hb dX6_takeGivensAway_39 rfl (lv_at hl 2 rfl) ?_
          refine va_get (D := gD G) (ci := 11) (v := .ref sv) (C := RX6) (T := TX6) (N := 6) hx hb hts fwX6 hown hK hP 0 rfl rfl 1 (by decide) (hts _ q182) (fun _ h9 => h9) rfl dX6_takeGivensAway_40 ?_
          refine lv_aload_n hx hb dX6_takeGivensAway_43 rfl (lv_at hl 3 rfl) ?_
          refine lv_iload_n hx hb dX6_takeGivensAway_44 rfl (lv_at hl 5 rfl) ?_
          refine fin_v hP hD hS hA [1, 2, 3, 4, 5, 7, 8] [0, 6] (wr := [(ho, .inr (11, [.ref al, .ref sv, .ref ts, .ref pb, .null, .int lr])), (dr, .inr (7, [.long (lN zn2_2)]))]) rfl rfl (by decide) (by decide) (va_runVN (As := [.ref pz, .int (nI hi)]) (rest := []) ⟨hx, hb, hml, hown, hts⟩ (c_X5_run l G sv b mm sr se f3 g3 h3 sc3 tc3 oc3 pz gr mr cg so sh (nI 0) (nI 0) gv2_10 hi (by omega) (by omega) (by omega) H.size) ⟨(va_cnB 2 hts (gI q240) rfl rfl rfl (hE.1.1 _ nq695) (hts _ q49) (by decide +kernel) ⟨Nat.le_of_ble_eq_true rfl, Nat.le_of_ble_eq_true rfl⟩), hts _ q239, hts _ q1⟩ (preV (q0 := 1) (ci := 10) hK hE hP hD hS hA [1, 2, 3, 4, 5, 7, 8] rfl (by decide) rfl rfl) rfl rfl hl.1 rfl (lv_room (Nat.le_of_ble_eq_true rfl)) dX6_takeGivensAway_45 ⟨Nat.le_of_ble_eq_true rfl, Nat.le_of_ble_eq_true rfl⟩) (fun u9 hw_19 H locs hP hD hS => ?_)
          obtain ⟨f2_13, g2_14, h2_15, sc2_16, tc2_17, oc2_18⟩ := u9
          obtain ⟨hsc2_21, htc2_22⟩ := hw_19
          have hsc2_21 : sc2_16 ≤ 64 := hsc2_21
          have htc2_22 : tc2_17 ≤ 16 := htc2_22
          have hP : va_P (gD G) vwCl [(ho, .inr (11, [.ref al, .ref sv, .ref ts, .ref pb, .null, .int lr])), (dr, .inr (7, [.long (lN zn2_2)])), (sv, .inr (10, [.ref b, .ref sr, .ref se, .int (nI sc2_16), .int (nI tc2_17), .int oc2_18])), (b, .inr (5, [.ref mm])), (mm, .inl (gyI G, 16, .inl f2_13)), (sr, .inl (gyI G, 64, .inl g2_14)), (se, .inl (gyI G, 16, .inl h2_15)), (pz, .inr (8, [.ref gr, .ref mr, .ref cg, .ref so, .ref sh, .int (nI 0), .int (nI 0)])), (gr, .inl (gyI G, 16, .inl gv2_10))] H := hP
          have hD : va_D A [(ho, .inr (11, [.ref al, .ref sv, .ref ts, .ref pb, .null, .int lr])), (dr, .inr (7, [.long (lN zn2_2)])), (sv, .inr (10, [.ref b, .ref sr, .ref se, .int (nI sc2_16), .int (nI tc2_17), .int oc2_18])), (b, .inr (5, [.ref mm])), (mm, .inl (gyI G, 16, .inl f2_13)), (sr, .inl (gyI G, 64, .inl g2_14)), (se, .inl (gyI G, 16, .inl h2_15)), (pz, .inr (8, [.ref gr, .ref mr, .ref cg, .ref so, .ref sh, .int (nI 0), .int (nI 0)])), (gr, .inl (gyI G, 16, .inl gv2_10))] := hD
          refine lv_aload_n hx hb dX6_takeGivensAway_48 rfl (lv_at hl 2 rfl) ?_
          refine va_get (D := gD G) (ci := 11) (v := .ref sv) (C := RX6) (T := TX6) (N := 6) hx hb hts fwX6 hown hK hP 0 rfl rfl 1 (by decide) (hts _ q182) (fun _ h9 => h9) rfl dX6_takeGivensAway_49 ?_
          refine va_getN (D := gD G) (ci := 10) (v := .int oc2_18) (C := RX5) (T := TX5) (N := 6) hx hb hts fwX5 hown hK hP 2 rfl rfl 5 (by decide) (va_Nw.use rfl (hE.1.1 _ nq147)) (fun _ h9 => h9) rfl dX6_takeGivensAway_52 ?_
          refine lv_bipush (v := nI 115) hx hb dX6_takeGivensAway_55 (by decide) ?_
          refine lv_icmp_eq (tgt := 68) hx hb dX6_takeGivensAway_57 (by decide) (fun c_23 => ?_) (fun c_23 => ?_)
          · skip
            refine lv_iinc (v := nI (t9 + 1)) (lv' := [(4, .int (nI (t9 + 1))), (6, .int w_8), (5, .int (nI rn_3)), (0, .ref ho), (1, .ref pz), (2, .ref dr), (3, .int (nI hi))]) hx hb dX6_takeGivensAway_68 hl (k := 6) rfl (nI_add t9 1) (by decide) rfl (fun ls hl => ?_)
            refine lv_goto (tgt := 3) hx hb dX6_takeGivensAway_71 (by decide) ?_
            exact ih_3_1 f2_13 g2_14 h2_15 sc2_16 tc2_17 oc2_18 gv2_10 (nI 0) (nI 0) zn2_2 (t9 + 1) (by omega) (by omega) (by omega) (by omega) (by omega) _ _ (hP.sub [0, 2, 3, 4, 5, 6, 7, 8, 1] rfl) (hD.sub [0, 2, 3, 4, 5, 6, 7, 8, 1] (by decide) rfl) hS ls (lv_sub hl [3, 4, 5, 6, 0] rfl)
          · skip
            refine lv_aload_n hx hb dX6_takeGivensAway_60 rfl (lv_at hl 3 rfl) ?_
            refine lv_iload hx hb dX6_takeGivensAway_61 (lv_at hl 1 rfl) ?_
            refine lv_iload hx hb dX6_takeGivensAway_63 (lv_at hl 0 rfl) ?_
            refine fin_v hP hD hS hA [7, 8] [0, 1, 2, 3, 4, 5, 6] (wr := [(ho, .inr (11, [.ref al, .ref sv, .ref ts, .ref pb, .null, .int lr])), (dr, .inr (7, [.long (lN zn2_2)])), (sv, .inr (10, [.ref b, .ref sr, .ref se, .int (nI sc2_16), .int (nI tc2_17), .int oc2_18])), (b, .inr (5, [.ref mm])), (mm, .inl (gyI G, 16, .inl f2_13)), (sr, .inl (gyI G, 64, .inl g2_14)), (se, .inl (gyI G, 16, .inl h2_15))]) rfl rfl (by decide) (by decide) (va_runVN (As := [.int (nI rn_3), .int w_8]) (rest := []) ⟨hx, hb, hml, hown, hts⟩ (c_X3_putGiven l G pz gr mr cg so sh (nI 0) (nI 0) gv2_10 rn_3 w_8 (by omega) H.size) ⟨(va_cnB 2 hts (gI q609) rfl rfl rfl (hE.1.1 _ nq606) (hts _ q57) (by decide +kernel) ⟨Nat.le_of_ble_eq_true rfl, Nat.le_of_ble_eq_true rfl⟩), hts _ q608, hts _ q24⟩ (preV (q0 := 7) (ci := 8) hK hE hP hD hS hA [7, 8] rfl (by decide) rfl rfl) rfl rfl hl.1 rfl (lv_room (Nat.le_of_ble_eq_true rfl)) dX6_takeGivensAway_65 ⟨Nat.le_of_ble_eq_true rfl, Nat.le_of_ble_eq_true rfl⟩) (fun u9 hw_25 H locs hP hD hS => ?_)
            obtain ⟨gv2_24, rfl⟩ : ∃ z, z = u9 := ⟨_, rfl⟩
            have hP : va_P (gD G) vwCl [(ho, .inr (11, [.ref al, .ref sv, .ref ts, .ref pb, .null, .int lr])), (dr, .inr (7, [.long (lN zn2_2)])), (sv, .inr (10, [.ref b, .ref sr, .ref se, .int (nI sc2_16), .int (nI tc2_17), .int oc2_18])), (b, .inr (5, [.ref mm])), (mm, .inl (gyI G, 16, .inl f2_13)), (sr, .inl (gyI G, 64, .inl g2_14)), (se, .inl (gyI G, 16, .inl h2_15)), (pz, .inr (8, [.ref gr, .ref mr, .ref cg, .ref so, .ref sh, .int (nI 0), .int (nI 0)])), (gr, .inl (gyI G, 16, .inl gv2_24))] H := hP
            have hD : va_D A [(ho, .inr (11, [.ref al, .ref sv, .ref ts, .ref pb, .null, .int lr])), (dr, .inr (7, [.long (lN zn2_2)])), (sv, .inr (10, [.ref b, .ref sr, .ref se, .int (nI sc2_16), .int (nI tc2_17), .int oc2_18])), (b, .inr (5, [.ref mm])), (mm, .inl (gyI G, 16, .inl f2_13)), (sr, .inl (gyI G, 64, .inl g2_14)), (se, .inl (gyI G, 16, .inl h2_15)), (pz, .inr (8, [.ref gr, .ref mr, .ref cg, .ref so, .ref sh, .int (nI 0), .int (nI 0)])), (gr, .inl (gyI G, 16, .inl gv2_24))] := hD
            refine lv_iinc (v := nI (t9 + 1)) (lv' := [(4, .int (nI (t9 + 1))), (6, .int w_8), (5, .int (nI rn_3)), (0, .ref ho), (1, .ref pz), (2, .ref dr), (3, .int (nI hi))]) hx hb dX6_takeGivensAway_68 hl (k := 6) rfl (nI_add t9 1) (by decide) rfl (fun ls hl => ?_)
            refine lv_goto (tgt := 3) hx hb dX6_takeGivensAway_71 (by decide) ?_
            exact ih_3_1 f2_13 g2_14 h2_15 sc2_16 tc2_17 oc2_18 gv2_24 (nI 0) (nI 0) zn2_2 (t9 + 1) (by omega) (by omega) (by omega) (by omega) (by omega) _ _ (hP.sub [0, 2, 3, 4, 5, 6, 7, 8, 1] rfl) (hD.sub [0, 2, 3, 4, 5, 6, 7, 8, 1] (by decide) rfl) hS ls (lv_sub hl [3, 4, 5, 6, 0] rfl)
  exact cut_3_1 (16 - 0 + 1) f g hh sc tc oc gv s1 s2 zn 0 (by omega) (by omega) (by omega) (by omega) (Nat.lt_succ_self _) _ _ (hP.sub [0, 1, 2, 3, 4, 5, 6, 7, 8] rfl) (hD.sub [0, 1, 2, 3, 4, 5, 6, 7, 8] (by decide) rfl) hS ls (lv_sub hl [1, 2, 3, 4, 0] rfl)
set_option maxHeartbeats 4000000 in
set_option maxRecDepth 100000 in
theorem c_make_ok (l : Launch) (G : GG) (ho : Nat) (al : Nat) (ts : Nat) (pb : Nat) (lr : Int32) (md : Int32) (sv : Nat) (b : Nat) (mm : Nat) (sr : Nat) (se : Nat) (f : Nat → Int32) (g : Nat → Int32) (hh : Nat → Int32) (sc : Nat) (tc : Nat) (oc : Int32) (sd : Nat) (hi : Nat) (hsc : sc ≤ 64) (htc : tc ≤ 16) (hsd : sd ≤ 9999) (hh1 : 1 ≤ hi) (hh2 : hi ≤ 3) : Mi l G yX6_make cX6_make 5 (some .int) ({ frames := 6, cells := 20, slots := 300, locals := 150 } : Room) [.ref ho, .int (nI sd), .int (nI hi)] [(ho, .inr (11, [.ref al, .ref sv, .ref ts, .ref pb, .null, .int lr])), (al, .inr (4, [.int md, .ref (gE G), .int (nI 0)])), (sv, .inr (10, [.ref b, .ref sr, .ref se, .int (nI sc), .int (nI tc), .int oc])), (b, .inr (5, [.ref mm])), (mm, .inl (gyI G, 16, .inl f)), (sr, .inl (gyI G, 64, .inl g)), (se, .inl (gyI G, 16, .inl hh))] (fun (r : Int32) (u : Unit) => r = nI 0) (fun (u : Unit) => []) := by
  intro sz
  refine Met.ofW (cc := cX6_make) (maxL := 5) (ret := (some .int)) (by decide) rfl ?_
  intro p e s m args below meth c s₁ B9 hml hv
  obtain ⟨rfl, hsz, hP, hK, hD0, hE⟩ := hv
  have hx := B9.exec
  have hb := B9.bytes
  have hr := B9.returns
  have hts : ∀ w ∈ WW, w.before ([.ref ho, .int (nI sd), .int (nI hi)] : List Value).toArray s = true := fun w h => atoms_spec (ws := .code yX6_make cX6_make 5 (some .int) :: WW) B9.pre w (List.mem_cons_of_mem _ h)
  have hown : s.vm.findClass RX6 = some m.cls := findClass_of_methodNamed B9.named
  subst hsz
  have hD := hD0.self (sz := s.heap.size)
  generalize hAe : va_A [(ho, .inr (11, [.ref al, .ref sv, .ref ts, .ref pb, .null, .int lr])), (al, .inr (4, [.int md, .ref (gE G), .int (nI 0)])), (sv, .inr (10, [.ref b, .ref sr, .ref se, .int (nI sc), .int (nI tc), .int oc])), (b, .inr (5, [.ref mm])), (mm, .inl (gyI G, 16, .inl f)), (sr, .inl (gyI G, 64, .inl g)), (se, .inl (gyI G, 16, .inl hh))] s.heap.size = A at hD hE ⊢
  have hA : ∀ q : Nat, s.heap.size ≤ q → A q := fun q h => by rw [← hAe]; exact Or.inr h
  have hl := lv_entry ([.ref ho, .int (nI sd), .int (nI hi)]) (n := 5) (Nat.le_of_ble_eq_true rfl)
  rw [lg_entry_eq]
  generalize (lg_sl ([.ref ho, .int (nI sd), .int (nI hi)]) ++ List.replicate (5 - (lg_sl ([.ref ho, .int (nI sd), .int (nI hi)])).length) Slot.unset).toArray = ls at hl ⊢
  have hl : lv_has ls 5 [(0, .ref ho), (1, .int (nI sd)), (2, .int (nI hi))] := hl
  refine qgen (fun Q hQ => ?_)
  refine hgen (fun H locs hP hD hS => ?_) hP hD
  refine lv_iload_n hx hb dX6_make_0 rfl (lv_at hl 1 rfl) ?_
  refine lv_if_lt (tgt := 21) hx hb dX6_make_1 (by decide) (fun c_1 => ?_) (fun c_1 => ?_)
  · skip
    have c_1 : sd < 0 := (nI_ltI (a := sd) (b := 0) (by omega) (by omega)).mp c_1
    exfalso; omega
  · skip
    have c_1 : ¬ sd < 0 := fun z => c_1 ((nI_ltI (a := sd) (b := 0) (by omega) (by omega)).mpr z)
    refine lv_iload_n hx hb dX6_make_4 rfl (lv_at hl 1 rfl) ?_
    refine lv_sipush (v := nI 9999) hx hb dX6_make_5 (by decide) ?_
    refine lv_icmp_gt (tgt := 21) hx hb dX6_make_8 (by decide) (fun c_2 => ?_) (fun c_2 => ?_)
    · skip
      have c_2 : 9999 < sd := (nI_ltI (a := 9999) (b := sd) (by omega) (by omega)).mp c_2
      exfalso; omega
    · skip
      have c_2 : ¬ 9999 < sd := fun z => c_2 ((nI_ltI (a := 9999) (b := sd) (by omega) (by omega)).mpr z)
      refine lv_iload_n hx hb dX6_make_11 rfl (lv_at hl 2 rfl) ?_
      refine lv_iconst (v := nI 1) hx hb dX6_make_12 (by decide) ?_
      refine lv_icmp_lt (tgt := 21) hx hb dX6_make_13 (by decide) (fun c_3 => ?_) (fun c_3 => ?_)
      · skip
        have c_3 : hi < 1 := (nI_ltI (a := hi) (b := 1) (by omega) (by omega)).mp c_3
        exfalso; omega
      · skip
        have c_3 : ¬ hi < 1 := fun z => c_3 ((nI_ltI (a := hi) (b := 1) (by omega) (by omega)).mpr z)
        refine lv_iload_n hx hb dX6_make_16 rfl (lv_at hl 2 rfl) ?_
        refine lv_iconst (v := nI 3) hx hb dX6_make_17 (by decide) ?_
        refine lv_icmp_le (tgt := 31) hx hb dX6_make_18 (by decide) (fun c_4 => ?_) (fun c_4 => ?_)
        · skip
          have c_4 : hi ≤ 3 := (nI_leI (a := hi) (b := 3) (by omega) (by omega)).mp c_4
          refine lv_aload_n hx hb dX6_make_31 rfl (lv_at hl 0 rfl) ?_
          refine va_get (D := gD G) (ci := 11) (v := .ref al) (C := RX6) (T := TX6) (N := 6) hx hb hts fwX6 hown hK hP 0 rfl rfl 0 (by decide) (hts _ q181) (fun _ h9 => h9) rfl dX6_make_32 ?_
          refine fin_i hP hD hS hA [1] [0, 2, 3, 4, 5, 6] (wr := [(ho, .inr (11, [.ref al, .ref sv, .ref ts, .ref pb, .null, .int lr])), (sv, .inr (10, [.ref b, .ref sr, .ref se, .int (nI sc), .int (nI tc), .int oc])), (b, .inr (5, [.ref mm])), (mm, .inl (gyI G, 16, .inl f)), (sr, .inl (gyI G, 64, .inl g)), (se, .inl (gyI G, 16, .inl hh))]) rfl rfl (by decide) (by decide) (va_runV (As := []) (rest := []) ⟨hx, hb, hml, hown, hts⟩ (c_Jx4a65c_size_8abf5 l G al md (gE G) 0 H.size) (cwV 0 hts (gV q208 q209 q210 q48 q211) rfl rfl rfl (by decide +kernel) ⟨Nat.le_of_ble_eq_true rfl, Nat.le_of_ble_eq_true rfl⟩) (preV (q0 := 1) (ci := 4) hK hE hP hD hS hA [1] rfl (by decide) rfl rfl) rfl rfl hl.1 rfl (lv_room (Nat.le_of_ble_eq_true rfl)) dX6_make_35 ⟨Nat.le_of_ble_eq_true rfl, Nat.le_of_ble_eq_true rfl⟩) (fun r_6 u9 hw_5 H locs hP hD hS => ?_)
          subst hw_5
          have hP : va_P (gD G) vwCl [(ho, .inr (11, [.ref al, .ref sv, .ref ts, .ref pb, .null, .int lr])), (sv, .inr (10, [.ref b, .ref sr, .ref se, .int (nI sc), .int (nI tc), .int oc])), (b, .inr (5, [.ref mm])), (mm, .inl (gyI G, 16, .inl f)), (sr, .inl (gyI G, 64, .inl g)), (se, .inl (gyI G, 16, .inl hh)), (al, .inr (4, [.int md, .ref (gE G), .int (nI 0)]))] H := hP
          have hD : va_D A [(ho, .inr (11, [.ref al, .ref sv, .ref ts, .ref pb, .null, .int lr])), (sv, .inr (10, [.ref b, .ref sr, .ref se, .int (nI sc), .int (nI tc), .int oc])), (b, .inr (5, [.ref mm])), (mm, .inl (gyI G, 16, .inl f)), (sr, .inl (gyI G, 64, .inl g)), (se, .inl (gyI G, 16, .inl hh)), (al, .inr (4, [.int md, .ref (gE G), .int (nI 0)]))] := hD
          refine lv_bipush (v := nI 8) hx hb dX6_make_38 (by decide) ?_
          refine lv_icmp_lt (tgt := 53) hx hb dX6_make_40 (by decide) (fun c_7 => ?_) (fun c_7 => ?_)
          · skip
            have c_7 : 0 < 8 := (nI_ltI (a := 0) (b := 8) (by omega) (by omega)).mp c_7
            refine va_new (D := gD G) (ci := 8) (fs := [.null, .null, .null, .null, .null, .int 0, .int 0]) (C := RX3) (T := TX3) (N := 7) hx hb hts fwX3 tyX3 tyX3_ok hown (hts _ q226) (hts _ q235) (hts _ q57) hK hP hD hS hA rfl (fun j hj => by rcases (show j = 0 ∨ j = 1 ∨ j = 2 ∨ j = 3 ∨ j = 4 ∨ j = 5 ∨ j = 6 by omega) with rfl | rfl | rfl | rfl | rfl | rfl | rfl <;> rfl) (Nat.le_of_ble_eq_true rfl) (Nat.le_of_ble_eq_true rfl) dX6_make_53 (fun q_8 H hP hD hS => ?_)
            have hP : va_P (gD G) vwCl [(ho, .inr (11, [.ref al, .ref sv, .ref ts, .ref pb, .null, .int lr])), (sv, .inr (10, [.ref b, .ref sr, .ref se, .int (nI sc), .int (nI tc), .int oc])), (b, .inr (5, [.ref mm])), (mm, .inl (gyI G, 16, .inl f)), (sr, .inl (gyI G, 64, .inl g)), (se, .inl (gyI G, 16, .inl hh)), (al, .inr (4, [.int md, .ref (gE G), .int (nI 0)])), (q_8, .inr (8, [.null, .null, .null, .null, .null, .int (nI 0), .int (nI 0)]))] H := hP
            have hD : va_D A [(ho, .inr (11, [.ref al, .ref sv, .ref ts, .ref pb, .null, .int lr])), (sv, .inr (10, [.ref b, .ref sr, .ref se, .int (nI sc), .int (nI tc), .int oc])), (b, .inr (5, [.ref mm])), (mm, .inl (gyI G, 16, .inl f)), (sr, .inl (gyI G, 64, .inl g)), (se, .inl (gyI G, 16, .inl hh)), (al, .inr (4, [.int md, .ref (gE G), .int (nI 0)])), (q_8, .inr (8, [.null, .null, .null, .null, .null, .int (nI 0), .int (nI 0)]))] := hD
            refine lv_dup hx hb dX6_make_56 rfl ?_
            refine fin_v hP hD hS hA [7] [0, 1, 2, 3, 4, 5, 6] (wr := [(ho, .inr (11, [.ref al, .ref sv, .ref ts, .ref pb, .null, .int lr])), (sv, .inr (10, [.ref b, .ref sr, .ref se, .int (nI sc), .int (nI tc), .int oc])), (b, .inr (5, [.ref mm])), (mm, .inl (gyI G, 16, .inl f)), (sr, .inl (gyI G, 64, .inl g)), (se, .inl (gyI G, 16, .inl hh)), (al, .inr (4, [.int md, .ref (gE G), .int (nI 0)]))]) rfl rfl (by decide) (by decide) (va_runIN (As := []) (rest := [.ref q_8]) ⟨hx, hb, hml, hown, hts⟩ (c_X3_init l G q_8 H.size) ⟨(va_cnB 0 hts (gI q431) rfl rfl rfl (hE.1.1 _ nq429) (hts _ q57) (by decide +kernel) ⟨Nat.le_of_ble_eq_true rfl, Nat.le_of_ble_eq_true rfl⟩), rfl, hts _ q430⟩ (preS hK hE hP hD hS hA [7] rfl (by decide)) rfl rfl hl.1 rfl (lv_room (Nat.le_of_ble_eq_true rfl)) dX6_make_57 ⟨Nat.le_of_ble_eq_true rfl, Nat.le_of_ble_eq_true rfl⟩) (fun u9 hw_15 H locs hP hD hS => ?_)
            obtain ⟨gr_9, mr_10, cg_11, so_12, sh_13, gv_14⟩ := u9
            have hP : va_P (gD G) vwCl [(ho, .inr (11, [.ref al, .ref sv, .ref ts, .ref pb, .null, .int lr])), (sv, .inr (10, [.ref b, .ref sr, .ref se, .int (nI sc), .int (nI tc), .int oc])), (b, .inr (5, [.ref mm])), (mm, .inl (gyI G, 16, .inl f)), (sr, .inl (gyI G, 64, .inl g)), (se, .inl (gyI G, 16, .inl hh)), (al, .inr (4, [.int md, .ref (gE G), .int (nI 0)])), (q_8, .inr (8, [.ref gr_9, .ref mr_10, .ref cg_11, .ref so_12, .ref sh_13, .int (nI 0), .int (nI 0)])), (gr_9, .inl (gyI G, 16, .inl gv_14))] H := hP
            have hD : va_D A [(ho, .inr (11, [.ref al, .ref sv, .ref ts, .ref pb, .null, .int lr])), (sv, .inr (10, [.ref b, .ref sr, .ref se, .int (nI sc), .int (nI tc), .int oc])), (b, .inr (5, [.ref mm])), (mm, .inl (gyI G, 16, .inl f)), (sr, .inl (gyI G, 64, .inl g)), (se, .inl (gyI G, 16, .inl hh)), (al, .inr (4, [.int md, .ref (gE G), .int (nI 0)])), (q_8, .inr (8, [.ref gr_9, .ref mr_10, .ref cg_11, .ref so_12, .ref sh_13, .int (nI 0), .int (nI 0)])), (gr_9, .inl (gyI G, 16, .inl gv_14))] := hD
            refine lv_astore_n (lv' := [(3, .ref q_8), (0, .ref ho), (1, .int (nI sd)), (2, .int (nI hi))]) hx hb dX6_make_60 rfl hl (by decide) rfl (fun ls hl => ?_)
            refine va_new (D := gD G) (ci := 7) (fs := [.long 0]) (C := RX2) (T := TX2) (N := 1) hx hb hts fwX2 tyX2 tyX2_ok hown (hts _ q665) (hts _ q666) (hts _ q74) hK hP hD hS hA rfl (fun j hj => by rcases (show j = 0 by omega) with rfl <;> rfl) (Nat.le_of_ble_eq_true rfl) (Nat.le_of_ble_eq_true rfl) dX6_make_61 (fun q_17 H hP hD hS => ?_)
            have hP : va_P (gD G) vwCl [(ho, .inr (11, [.ref al, .ref sv, .ref ts, .ref pb, .null, .int lr])), (sv, .inr (10, [.ref b, .ref sr, .ref se, .int (nI sc), .int (nI tc), .int oc])), (b, .inr (5, [.ref mm])), (mm, .inl (gyI G, 16, .inl f)), (sr, .inl (gyI G, 64, .inl g)), (se, .inl (gyI G, 16, .inl hh)), (al, .inr (4, [.int md, .ref (gE G), .int (nI 0)])), (q_8, .inr (8, [.ref gr_9, .ref mr_10, .ref cg_11, .ref so_12, .ref sh_13, .int (nI 0), .int (nI 0)])), (gr_9, .inl (gyI G, 16, .inl gv_14)), (q_17, .inr (7, [.long (lN 0)]))] H := hP
            have hD : va_D A [(ho, .inr (11, [.ref al, .ref sv, .ref ts, .ref pb, .null, .int lr])), (sv, .inr (10, [.ref b, .ref sr, .ref se, .int (nI sc), .int (nI tc), .int oc])), (b, .inr (5, [.ref mm])), (mm, .inl (gyI G, 16, .inl f)), (sr, .inl (gyI G, 64, .inl g)), (se, .inl (gyI G, 16, .inl hh)), (al, .inr (4, [.int md, .ref (gE G), .int (nI 0)])), (q_8, .inr (8, [.ref gr_9, .ref mr_10, .ref cg_11, .ref so_12, .ref sh_13, .int (nI 0), .int (nI 0)])), (gr_9, .inl (gyI G, 16, .inl gv_14)), (q_17, .inr (7, [.long (lN 0)]))] := hD
            refine lv_dup hx hb dX6_make_64 rfl ?_
            refine lv_iload_n hx hb dX6_make_65 rfl (lv_at hl 2 rfl) ?_
            refine fin_v hP hD hS hA [9] [0, 1, 2, 3, 4, 5, 6, 7, 8] (wr := [(ho, .inr (11, [.ref al, .ref sv, .ref ts, .ref pb, .null, .int lr])), (sv, .inr (10, [.ref b, .ref sr, .ref se, .int (nI sc), .int (nI tc), .int oc])), (b, .inr (5, [.ref mm])), (mm, .inl (gyI G, 16, .inl f)), (sr, .inl (gyI G, 64, .inl g)), (se, .inl (gyI G, 16, .inl hh)), (al, .inr (4, [.int md, .ref (gE G), .int (nI 0)])), (q_8, .inr (8, [.ref gr_9, .ref mr_10, .ref cg_11, .ref so_12, .ref sh_13, .int (nI 0), .int (nI 0)])), (gr_9, .inl (gyI G, 16, .inl gv_14))]) rfl rfl (by decide) (by decide) (va_runIN (As := [.int (nI sd)]) (rest := [.ref q_17]) ⟨hx, hb, hml, hown, hts⟩ (c_X2_init l G q_17 sd (by omega) H.size) ⟨(va_cnB 1 hts (gI q669) rfl rfl rfl (hE.1.1 _ nq667) (hts _ q74) (by decide +kernel) ⟨Nat.le_of_ble_eq_true rfl, Nat.le_of_ble_eq_true rfl⟩), rfl, hts _ q668⟩ (preS hK hE hP hD hS hA [9] rfl (by decide)) rfl rfl hl.1 rfl (lv_room (Nat.le_of_ble_eq_true rfl)) dX6_make_66 ⟨Nat.le_of_ble_eq_true rfl, Nat.le_of_ble_eq_true rfl⟩) (fun u9 hw_18 H locs hP hD hS => ?_)
            have hP : va_P (gD G) vwCl [(ho, .inr (11, [.ref al, .ref sv, .ref ts, .ref pb, .null, .int lr])), (sv, .inr (10, [.ref b, .ref sr, .ref se, .int (nI sc), .int (nI tc), .int oc])), (b, .inr (5, [.ref mm])), (mm, .inl (gyI G, 16, .inl f)), (sr, .inl (gyI G, 64, .inl g)), (se, .inl (gyI G, 16, .inl hh)), (al, .inr (4, [.int md, .ref (gE G), .int (nI 0)])), (q_8, .inr (8, [.ref gr_9, .ref mr_10, .ref cg_11, .ref so_12, .ref sh_13, .int (nI 0), .int (nI 0)])), (gr_9, .inl (gyI G, 16, .inl gv_14)), (q_17, .inr (7, [.long (lN sd)]))] H := hP
            have hD : va_D A [(ho, .inr (11, [.ref al, .ref sv, .ref ts, .ref pb, .null, .int lr])), (sv, .inr (10, [.ref b, .ref sr, .ref se, .int (nI sc), .int (nI tc), .int oc])), (b, .inr (5, [.ref mm])), (mm, .inl (gyI G, 16, .inl f)), (sr, .inl (gyI G, 64, .inl g)), (se, .inl (gyI G, 16, .inl hh)), (al, .inr (4, [.int md, .ref (gE G), .int (nI 0)])), (q_8, .inr (8, [.ref gr_9, .ref mr_10, .ref cg_11, .ref so_12, .ref sh_13, .int (nI 0), .int (nI 0)])), (gr_9, .inl (gyI G, 16, .inl gv_14)), (q_17, .inr (7, [.long (lN sd)]))] := hD
            refine lv_astore (lv' := [(4, .ref q_17), (3, .ref q_8), (0, .ref ho), (1, .int (nI sd)), (2, .int (nI hi))]) hx hb dX6_make_69 hl (by decide) rfl (fun ls hl => ?_)
            refine lv_aload_n hx hb dX6_make_71 rfl (lv_at hl 1 rfl) ?_
            refine lv_aload hx hb dX6_make_72 (lv_at hl 0 rfl) ?_
            refine fin_v hP hD hS hA [7, 8, 9] [0, 1, 2, 3, 4, 5, 6] (wr := [(ho, .inr (11, [.ref al, .ref sv, .ref ts, .ref pb, .null, .int lr])), (sv, .inr (10, [.ref b, .ref sr, .ref se, .int (nI sc), .int (nI tc), .int oc])), (b, .inr (5, [.ref mm])), (mm, .inl (gyI G, 16, .inl f)), (sr, .inl (gyI G, 64, .inl g)), (se, .inl (gyI G, 16, .inl hh)), (al, .inr (4, [.int md, .ref (gE G), .int (nI 0)]))]) rfl rfl (by decide) (by decide) (va_runS (As := [.ref q_8, .ref q_17]) (rest := []) ⟨hx, hb, hml, hown, hts⟩ (c_X6_giveAllCells l G q_8 gr_9 mr_10 cg_11 so_12 sh_13 (nI 0) (nI 0) gv_14 q_17 sd (by omega) H.size) (va_cwS 2 hts (gSt q675 q676 q45 q677) rfl rfl rfl (by decide +kernel) ⟨Nat.le_of_ble_eq_true rfl, Nat.le_of_ble_eq_true rfl⟩) (preS hK hE hP hD hS hA [7, 8, 9] rfl (by decide)) rfl rfl hl.1 rfl (lv_room (Nat.le_of_ble_eq_true rfl)) dX6_make_74 ⟨Nat.le_of_ble_eq_true rfl, Nat.le_of_ble_eq_true rfl⟩) (fun u9 hw_24 H locs hP hD hS => ?_)
            obtain ⟨gv2_20, s3_21, s4_22, zn2_23⟩ := u9
            have hz2_26 := hw_24
            have hz2_26 : zn2_23 < 2147483648 := hz2_26
            have hP : va_P (gD G) vwCl [(ho, .inr (11, [.ref al, .ref sv, .ref ts, .ref pb, .null, .int lr])), (sv, .inr (10, [.ref b, .ref sr, .ref se, .int (nI sc), .int (nI tc), .int oc])), (b, .inr (5, [.ref mm])), (mm, .inl (gyI G, 16, .inl f)), (sr, .inl (gyI G, 64, .inl g)), (se, .inl (gyI G, 16, .inl hh)), (al, .inr (4, [.int md, .ref (gE G), .int (nI 0)])), (q_8, .inr (8, [.ref gr_9, .ref mr_10, .ref cg_11, .ref so_12, .ref sh_13, .int s3_21, .int s4_22])), (gr_9, .inl (gyI G, 16, .inl gv2_20)), (q_17, .inr (7, [.long (lN zn2_23)]))] H := hP
            have hD : va_D A [(ho, .inr (11, [.ref al, .ref sv, .ref ts, .ref pb, .null, .int lr])), (sv, .inr (10, [.ref b, .ref sr, .ref se, .int (nI sc), .int (nI tc), .int oc])), (b, .inr (5, [.ref mm])), (mm, .inl (gyI G, 16, .inl f)), (sr, .inl (gyI G, 64, .inl g)), (se, .inl (gyI G, 16, .inl hh)), (al, .inr (4, [.int md, .ref (gE G), .int (nI 0)])), (q_8, .inr (8, [.ref gr_9, .ref mr_10, .ref cg_11, .ref so_12, .ref sh_13, .int s3_21, .int s4_22])), (gr_9, .inl (gyI G, 16, .inl gv2_20)), (q_17, .inr (7, [.long (lN zn2_23)]))] := hD
            refine lv_aload_n hx hb dX6_make_77 rfl (lv_at hl 2 rfl) ?_
            refine lv_aload_n hx hb dX6_make_78 rfl (lv_at hl 1 rfl) ?_
            refine lv_aload hx hb dX6_make_79 (lv_at hl 0 rfl) ?_
            refine lv_iload_n hx hb dX6_make_81 rfl (lv_at hl 4 rfl) ?_
            refine fin_v hP hD hS hA [0, 1, 2, 3, 4, 5, 7, 8, 9] [6] (wr := [(al, .inr (4, [.int md, .ref (gE G), .int (nI 0)]))]) rfl rfl (by decide) (by decide) (va_runV (As := [.ref q_8, .ref q_17, .int (nI hi)]) (rest := []) ⟨hx, hb, hml, hown, hts⟩ (c_X6_takeGivensAway l G ho al ts pb lr sv b mm sr se f g hh sc tc oc q_8 gr_9 mr_10 cg_11 so_12 sh_13 s3_21 s4_22 gv2_20 q_17 zn2_23 hi (by omega) (by omega) (by omega) (by omega) H.size) (cwV 3 hts (gV q690 q692 q28 q45 q693) rfl rfl rfl (by decide +kernel) ⟨Nat.le_of_ble_eq_true rfl, Nat.le_of_ble_eq_true rfl⟩) (preV (q0 := 0) (ci := 11) hK hE hP hD hS hA [0, 1, 2, 3, 4, 5, 7, 8, 9] rfl (by decide) rfl rfl) rfl rfl hl.1 rfl (lv_room (Nat.le_of_ble_eq_true rfl)) dX6_make_82 ⟨Nat.le_of_ble_eq_true rfl, Nat.le_of_ble_eq_true rfl⟩) (fun u9 hw_29 H locs hP hD hS => ?_)
            obtain ⟨s8_27, s9_28⟩ := u9
            have hP : va_P (gD G) vwCl [(al, .inr (4, [.int md, .ref (gE G), .int (nI 0)])), (ho, .inr (11, [.ref al, .ref sv, .ref ts, .ref pb, .null, .int lr])), (q_8, .inr (8, [.ref gr_9, .ref mr_10, .ref cg_11, .ref so_12, .ref sh_13, .int s8_27, .int s9_28]))] H := hP
            have hD : va_D A [(al, .inr (4, [.int md, .ref (gE G), .int (nI 0)])), (ho, .inr (11, [.ref al, .ref sv, .ref ts, .ref pb, .null, .int lr])), (q_8, .inr (8, [.ref gr_9, .ref mr_10, .ref cg_11, .ref so_12, .ref sh_13, .int s8_27, .int s9_28]))] := hD
            refine lv_aload_n hx hb dX6_make_85 rfl (lv_at hl 2 rfl) ?_
            refine va_get (D := gD G) (ci := 11) (v := .ref al) (C := RX6) (T := TX6) (N := 6) hx hb hts fwX6 hown hK hP 1 rfl rfl 0 (by decide) (hts _ q181) (fun _ h9 => h9) rfl dX6_make_86 ?_
            refine lv_aload_n hx hb dX6_make_89 rfl (lv_at hl 1 rfl) ?_
            refine fin_i hP hD hS hA [0] [1, 2] (wr := [(ho, .inr (11, [.ref al, .ref sv, .ref ts, .ref pb, .null, .int lr])), (q_8, .inr (8, [.ref gr_9, .ref mr_10, .ref cg_11, .ref so_12, .ref sh_13, .int s8_27, .int s9_28]))]) rfl rfl (by decide) (by decide) (va_runV (As := [.ref q_8]) (rest := []) ⟨hx, hb, hml, hown, hts⟩ (c_add_first l (gSet G (fun y => y = q_8)) al md q_8 (by omega) H.size) (cwV 1 hts (gV q468 q469 q470 q48 q471) rfl rfl rfl (by decide +kernel) ⟨Nat.le_of_ble_eq_true rfl, Nat.le_of_ble_eq_true rfl⟩) (preVG (ob_cell (q0 := 2) (ci := 8) hK hP hD rfl rfl (vb_asgC (hE.1.1 _ nq1386)) [0] rfl (by decide)) (q0 := 0) (ci := 4) hK hE hP hD hS hA [0] rfl (by decide) rfl rfl) rfl rfl hl.1 rfl (lv_room (Nat.le_of_ble_eq_true rfl)) dX6_make_90 ⟨Nat.le_of_ble_eq_true rfl, Nat.le_of_ble_eq_true rfl⟩) (fun r_35 u9 hw_34 H locs hP hD hS => ?_)
            obtain ⟨md2_31, ed2_32, f2_33⟩ := u9
            have hf2_36 := hw_34
            have hf2_36 : obR (gOB (gSet G (fun y => y = q_8))) f2_33 := hf2_36
            have hP : va_P (gD G) vwCl [(ho, .inr (11, [.ref al, .ref sv, .ref ts, .ref pb, .null, .int lr])), (q_8, .inr (8, [.ref gr_9, .ref mr_10, .ref cg_11, .ref so_12, .ref sh_13, .int s8_27, .int s9_28])), (al, .inr (4, [.int md2_31, .ref ed2_32, .int (nI 1)])), (ed2_32, .inl (gyO G, 10, .inr (.inr (.inr (.inr f2_33)))))] H := hP
            have hD : va_D A [(ho, .inr (11, [.ref al, .ref sv, .ref ts, .ref pb, .null, .int lr])), (q_8, .inr (8, [.ref gr_9, .ref mr_10, .ref cg_11, .ref so_12, .ref sh_13, .int s8_27, .int s9_28])), (al, .inr (4, [.int md2_31, .ref ed2_32, .int (nI 1)])), (ed2_32, .inl (gyO G, 10, .inr (.inr (.inr (.inr f2_33)))))] := hD
            refine lv_pop hx hb dX6_make_93 rfl ?_
            refine lv_aload_n hx hb dX6_make_94 rfl (lv_at hl 2 rfl) ?_
            refine va_get (D := gD G) (ci := 11) (v := .ref al) (C := RX6) (T := TX6) (N := 6) hx hb hts fwX6 hown hK hP 0 rfl rfl 0 (by decide) (hts _ q181) (fun _ h9 => h9) rfl dX6_make_95 ?_
            refine fin_i hP hD hS hA [2] [0, 1, 3] (wr := [(ho, .inr (11, [.ref al, .ref sv, .ref ts, .ref pb, .null, .int lr])), (q_8, .inr (8, [.ref gr_9, .ref mr_10, .ref cg_11, .ref so_12, .ref sh_13, .int s8_27, .int s9_28])), (ed2_32, .inl (gyO G, 10, .inr (.inr (.inr (.inr f2_33)))))]) rfl rfl (by decide) (by decide) (va_runV (As := []) (rest := []) ⟨hx, hb, hml, hown, hts⟩ (c_Jx4a65c_size_8abf5 l G al md2_31 ed2_32 1 H.size) (cwV 0 hts (gV q208 q209 q210 q48 q211) rfl rfl rfl (by decide +kernel) ⟨Nat.le_of_ble_eq_true rfl, Nat.le_of_ble_eq_true rfl⟩) (preV (q0 := 2) (ci := 4) hK hE hP hD hS hA [2] rfl (by decide) rfl rfl) rfl rfl hl.1 rfl (lv_room (Nat.le_of_ble_eq_true rfl)) dX6_make_98 ⟨Nat.le_of_ble_eq_true rfl, Nat.le_of_ble_eq_true rfl⟩) (fun r_38 u9 hw_37 H locs hP hD hS => ?_)
            subst hw_37
            have hP : va_P (gD G) vwCl [(ho, .inr (11, [.ref al, .ref sv, .ref ts, .ref pb, .null, .int lr])), (q_8, .inr (8, [.ref gr_9, .ref mr_10, .ref cg_11, .ref so_12, .ref sh_13, .int s8_27, .int s9_28])), (ed2_32, .inl (gyO G, 10, .inr (.inr (.inr (.inr f2_33))))), (al, .inr (4, [.int md2_31, .ref ed2_32, .int (nI 1)]))] H := hP
            have hD : va_D A [(ho, .inr (11, [.ref al, .ref sv, .ref ts, .ref pb, .null, .int lr])), (q_8, .inr (8, [.ref gr_9, .ref mr_10, .ref cg_11, .ref so_12, .ref sh_13, .int s8_27, .int s9_28])), (ed2_32, .inl (gyO G, 10, .inr (.inr (.inr (.inr f2_33))))), (al, .inr (4, [.int md2_31, .ref ed2_32, .int (nI 1)]))] := hD
            refine lv_iconst (v := nI 1) hx hb dX6_make_101 (by decide) ?_
            refine lv_isub hx hb dX6_make_102 ?_
            refine lv_toe (pk_sub (a := 1) (b := 1) (by omega)) ?_
            have hP9 := hP.sub (ws' := []) [] rfl
            have hD9 := hD.sub (ws' := []) [] (by decide) rfl
            refine W.widen (k := 20) (n := 300) (Nat.le_of_ble_eq_true rfl) (Nat.le_of_ble_eq_true rfl) ?_
            subst hQ
            exact W.iret (v := nI 0) hx hb hr (fun t ht hW => ⟨⟨nI 0, (), rfl, rfl, by rw [ht]; exact hP9, hD9⟩, hS.F ht⟩) hS.2.2 dX6_make_103
          · skip
            have c_7 : ¬ 0 < 8 := fun z => c_7 ((nI_ltI (a := 0) (b := 8) (by omega) (by omega)).mpr z)
            exact absurd c_7 (by decide)
        · skip
          have c_4 : ¬ hi ≤ 3 := fun z => c_4 ((nI_leI (a := hi) (b := 3) (by omega) (by omega)).mpr z)
          exfalso; omega
set_option maxHeartbeats 4000000 in
set_option maxRecDepth 100000 in
theorem c_puzzle_ok (l : Launch) (G : GG) (ho : Nat) (al : Nat) (ts : Nat) (pb : Nat) (lr : Int32) (sv : Nat) (md : Int32) : Mi l G yX6_puzzle cX6_puzzle 1 (some .int) ({ frames := 5, cells := 20, slots := 300, locals := 127 } : Room) [.ref ho] [(ho, .inr (11, [.ref al, .ref sv, .ref ts, .ref pb, .null, .int lr])), (al, .inr (4, [.int md, .ref (gE G), .int (nI 0)]))] (fun (r : Int32) (u : Unit) => r = nI 0) (fun (u : Unit) => []) := by
  intro sz
  refine Met.ofW (cc := cX6_puzzle) (maxL := 1) (ret := (some .int)) (by decide) rfl ?_
  intro p e s m args below meth c s₁ B9 hml hv
  obtain ⟨rfl, hsz, hP, hK, hD0, hE⟩ := hv
  have hx := B9.exec
  have hb := B9.bytes
  have hr := B9.returns
  have hts : ∀ w ∈ WW, w.before ([.ref ho] : List Value).toArray s = true := fun w h => atoms_spec (ws := .code yX6_puzzle cX6_puzzle 1 (some .int) :: WW) B9.pre w (List.mem_cons_of_mem _ h)
  have hown : s.vm.findClass RX6 = some m.cls := findClass_of_methodNamed B9.named
  subst hsz
  have hD := hD0.self (sz := s.heap.size)
  generalize hAe : va_A [(ho, .inr (11, [.ref al, .ref sv, .ref ts, .ref pb, .null, .int lr])), (al, .inr (4, [.int md, .ref (gE G), .int (nI 0)]))] s.heap.size = A at hD hE ⊢
  have hA : ∀ q : Nat, s.heap.size ≤ q → A q := fun q h => by rw [← hAe]; exact Or.inr h
  have hl := lv_entry ([.ref ho]) (n := 1) (Nat.le_of_ble_eq_true rfl)
  rw [lg_entry_eq]
  generalize (lg_sl ([.ref ho]) ++ List.replicate (1 - (lg_sl ([.ref ho])).length) Slot.unset).toArray = ls at hl ⊢
  have hl : lv_has ls 1 [(0, .ref ho)] := hl
  refine qgen (fun Q hQ => ?_)
  refine hgen (fun H locs hP hD hS => ?_) hP hD
  refine lv_aload_n hx hb dX6_puzzle_0 rfl (lv_at hl 0 rfl) ?_
  refine va_get (D := gD G) (ci := 11) (v := .ref al) (C := RX6) (T := TX6) (N := 6) hx hb hts fwX6 hown hK hP 0 rfl rfl 0 (by decide) (hts _ q181) (fun _ h9 => h9) rfl dX6_puzzle_1 ?_
  refine fin_i hP hD hS hA [1] [0] (wr := [(ho, .inr (11, [.ref al, .ref sv, .ref ts, .ref pb, .null, .int lr]))]) rfl rfl (by decide) (by decide) (va_runV (As := []) (rest := []) ⟨hx, hb, hml, hown, hts⟩ (c_Jx4a65c_size_8abf5 l G al md (gE G) 0 H.size) (cwV 0 hts (gV q208 q209 q210 q48 q211) rfl rfl rfl (by decide +kernel) ⟨Nat.le_of_ble_eq_true rfl, Nat.le_of_ble_eq_true rfl⟩) (preV (q0 := 1) (ci := 4) hK hE hP hD hS hA [1] rfl (by decide) rfl rfl) rfl rfl hl.1 rfl (lv_room (Nat.le_of_ble_eq_true rfl)) dX6_puzzle_4 ⟨Nat.le_of_ble_eq_true rfl, Nat.le_of_ble_eq_true rfl⟩) (fun r_2 u9 hw_1 H locs hP hD hS => ?_)
  subst hw_1
  have hP : va_P (gD G) vwCl [(ho, .inr (11, [.ref al, .ref sv, .ref ts, .ref pb, .null, .int lr])), (al, .inr (4, [.int md, .ref (gE G), .int (nI 0)]))] H := hP
  have hD : va_D A [(ho, .inr (11, [.ref al, .ref sv, .ref ts, .ref pb, .null, .int lr])), (al, .inr (4, [.int md, .ref (gE G), .int (nI 0)]))] := hD
  refine lv_bipush (v := nI 8) hx hb dX6_puzzle_7 (by decide) ?_
  refine lv_icmp_lt (tgt := 22) hx hb dX6_puzzle_9 (by decide) (fun c_3 => ?_) (fun c_3 => ?_)
  · skip
    have c_3 : 0 < 8 := (nI_ltI (a := 0) (b := 8) (by omega) (by omega)).mp c_3
    refine lv_aload_n hx hb dX6_puzzle_22 rfl (lv_at hl 0 rfl) ?_
    refine va_get (D := gD G) (ci := 11) (v := .ref al) (C := RX6) (T := TX6) (N := 6) hx hb hts fwX6 hown hK hP 0 rfl rfl 0 (by decide) (hts _ q181) (fun _ h9 => h9) rfl dX6_puzzle_23 ?_
    refine va_new (D := gD G) (ci := 8) (fs := [.null, .null, .null, .null, .null, .int 0, .int 0]) (C := RX3) (T := TX3) (N := 7) hx hb hts fwX3 tyX3 tyX3_ok hown (hts _ q226) (hts _ q235) (hts _ q57) hK hP hD hS hA rfl (fun j hj => by rcases (show j = 0 ∨ j = 1 ∨ j = 2 ∨ j = 3 ∨ j = 4 ∨ j = 5 ∨ j = 6 by omega) with rfl | rfl | rfl | rfl | rfl | rfl | rfl <;> rfl) (Nat.le_of_ble_eq_true rfl) (Nat.le_of_ble_eq_true rfl) dX6_puzzle_26 (fun q_4 H hP hD hS => ?_)
    have hP : va_P (gD G) vwCl [(ho, .inr (11, [.ref al, .ref sv, .ref ts, .ref pb, .null, .int lr])), (al, .inr (4, [.int md, .ref (gE G), .int (nI 0)])), (q_4, .inr (8, [.null, .null, .null, .null, .null, .int (nI 0), .int (nI 0)]))] H := hP
    have hD : va_D A [(ho, .inr (11, [.ref al, .ref sv, .ref ts, .ref pb, .null, .int lr])), (al, .inr (4, [.int md, .ref (gE G), .int (nI 0)])), (q_4, .inr (8, [.null, .null, .null, .null, .null, .int (nI 0), .int (nI 0)]))] := hD
    refine lv_dup hx hb dX6_puzzle_29 rfl ?_
    refine fin_v hP hD hS hA [2] [0, 1] (wr := [(ho, .inr (11, [.ref al, .ref sv, .ref ts, .ref pb, .null, .int lr])), (al, .inr (4, [.int md, .ref (gE G), .int (nI 0)]))]) rfl rfl (by decide) (by decide) (va_runIN (As := []) (rest := [.ref q_4, .ref al]) ⟨hx, hb, hml, hown, hts⟩ (c_X3_init l G q_4 H.size) ⟨(va_cnB 0 hts (gI q431) rfl rfl rfl (hE.1.1 _ nq429) (hts _ q57) (by decide +kernel) ⟨Nat.le_of_ble_eq_true rfl, Nat.le_of_ble_eq_true rfl⟩), rfl, hts _ q430⟩ (preS hK hE hP hD hS hA [2] rfl (by decide)) rfl rfl hl.1 rfl (lv_room (Nat.le_of_ble_eq_true rfl)) dX6_puzzle_30 ⟨Nat.le_of_ble_eq_true rfl, Nat.le_of_ble_eq_true rfl⟩) (fun u9 hw_11 H locs hP hD hS => ?_)
    obtain ⟨gr_5, mr_6, cg_7, so_8, sh_9, gv_10⟩ := u9
    have hP : va_P (gD G) vwCl [(ho, .inr (11, [.ref al, .ref sv, .ref ts, .ref pb, .null, .int lr])), (al, .inr (4, [.int md, .ref (gE G), .int (nI 0)])), (q_4, .inr (8, [.ref gr_5, .ref mr_6, .ref cg_7, .ref so_8, .ref sh_9, .int (nI 0), .int (nI 0)])), (gr_5, .inl (gyI G, 16, .inl gv_10))] H := hP
    have hD : va_D A [(ho, .inr (11, [.ref al, .ref sv, .ref ts, .ref pb, .null, .int lr])), (al, .inr (4, [.int md, .ref (gE G), .int (nI 0)])), (q_4, .inr (8, [.ref gr_5, .ref mr_6, .ref cg_7, .ref so_8, .ref sh_9, .int (nI 0), .int (nI 0)])), (gr_5, .inl (gyI G, 16, .inl gv_10))] := hD
    refine fin_i hP hD hS hA [1] [0, 2, 3] (wr := [(ho, .inr (11, [.ref al, .ref sv, .ref ts, .ref pb, .null, .int lr])), (q_4, .inr (8, [.ref gr_5, .ref mr_6, .ref cg_7, .ref so_8, .ref sh_9, .int (nI 0), .int (nI 0)])), (gr_5, .inl (gyI G, 16, .inl gv_10))]) rfl rfl (by decide) (by decide) (va_runV (As := [.ref q_4]) (rest := []) ⟨hx, hb, hml, hown, hts⟩ (c_add_first l (gSet G (fun y => y = q_4)) al md q_4 (by omega) H.size) (cwV 1 hts (gV q468 q469 q470 q48 q471) rfl rfl rfl (by decide +kernel) ⟨Nat.le_of_ble_eq_true rfl, Nat.le_of_ble_eq_true rfl⟩) (preVG (ob_cell (q0 := 2) (ci := 8) hK hP hD rfl rfl (vb_asgC (hE.1.1 _ nq1386)) [1] rfl (by decide)) (q0 := 1) (ci := 4) hK hE hP hD hS hA [1] rfl (by decide) rfl rfl) rfl rfl hl.1 rfl (lv_room (Nat.le_of_ble_eq_true rfl)) dX6_puzzle_33 ⟨Nat.le_of_ble_eq_true rfl, Nat.le_of_ble_eq_true rfl⟩) (fun r_17 u9 hw_16 H locs hP hD hS => ?_)
    obtain ⟨md2_13, ed2_14, f2_15⟩ := u9
    have hf2_18 := hw_16
    have hf2_18 : obR (gOB (gSet G (fun y => y = q_4))) f2_15 := hf2_18
    have hP : va_P (gD G) vwCl [(ho, .inr (11, [.ref al, .ref sv, .ref ts, .ref pb, .null, .int lr])), (q_4, .inr (8, [.ref gr_5, .ref mr_6, .ref cg_7, .ref so_8, .ref sh_9, .int (nI 0), .int (nI 0)])), (gr_5, .inl (gyI G, 16, .inl gv_10)), (al, .inr (4, [.int md2_13, .ref ed2_14, .int (nI 1)])), (ed2_14, .inl (gyO G, 10, .inr (.inr (.inr (.inr f2_15)))))] H := hP
    have hD : va_D A [(ho, .inr (11, [.ref al, .ref sv, .ref ts, .ref pb, .null, .int lr])), (q_4, .inr (8, [.ref gr_5, .ref mr_6, .ref cg_7, .ref so_8, .ref sh_9, .int (nI 0), .int (nI 0)])), (gr_5, .inl (gyI G, 16, .inl gv_10)), (al, .inr (4, [.int md2_13, .ref ed2_14, .int (nI 1)])), (ed2_14, .inl (gyO G, 10, .inr (.inr (.inr (.inr f2_15)))))] := hD
    refine lv_pop hx hb dX6_puzzle_36 rfl ?_
    refine lv_aload_n hx hb dX6_puzzle_37 rfl (lv_at hl 0 rfl) ?_
    refine va_get (D := gD G) (ci := 11) (v := .ref al) (C := RX6) (T := TX6) (N := 6) hx hb hts fwX6 hown hK hP 0 rfl rfl 0 (by decide) (hts _ q181) (fun _ h9 => h9) rfl dX6_puzzle_38 ?_
    refine fin_i hP hD hS hA [3] [0, 1, 2, 4] (wr := [(ho, .inr (11, [.ref al, .ref sv, .ref ts, .ref pb, .null, .int lr])), (q_4, .inr (8, [.ref gr_5, .ref mr_6, .ref cg_7, .ref so_8, .ref sh_9, .int (nI 0), .int (nI 0)])), (gr_5, .inl (gyI G, 16, .inl gv_10)), (ed2_14, .inl (gyO G, 10, .inr (.inr (.inr (.inr f2_15)))))]) rfl rfl (by decide) (by decide) (va_runV (As := []) (rest := []) ⟨hx, hb, hml, hown, hts⟩ (c_Jx4a65c_size_8abf5 l G al md2_13 ed2_14 1 H.size) (cwV 0 hts (gV q208 q209 q210 q48 q211) rfl rfl rfl (by decide +kernel) ⟨Nat.le_of_ble_eq_true rfl, Nat.le_of_ble_eq_true rfl⟩) (preV (q0 := 3) (ci := 4) hK hE hP hD hS hA [3] rfl (by decide) rfl rfl) rfl rfl hl.1 rfl (lv_room (Nat.le_of_ble_eq_true rfl)) dX6_puzzle_41 ⟨Nat.le_of_ble_eq_true rfl, Nat.le_of_ble_eq_true rfl⟩) (fun r_20 u9 hw_19 H locs hP hD hS => ?_)
    subst hw_19
    have hP : va_P (gD G) vwCl [(ho, .inr (11, [.ref al, .ref sv, .ref ts, .ref pb, .null, .int lr])), (q_4, .inr (8, [.ref gr_5, .ref mr_6, .ref cg_7, .ref so_8, .ref sh_9, .int (nI 0), .int (nI 0)])), (gr_5, .inl (gyI G, 16, .inl gv_10)), (ed2_14, .inl (gyO G, 10, .inr (.inr (.inr (.inr f2_15))))), (al, .inr (4, [.int md2_13, .ref ed2_14, .int (nI 1)]))] H := hP
    have hD : va_D A [(ho, .inr (11, [.ref al, .ref sv, .ref ts, .ref pb, .null, .int lr])), (q_4, .inr (8, [.ref gr_5, .ref mr_6, .ref cg_7, .ref so_8, .ref sh_9, .int (nI 0), .int (nI 0)])), (gr_5, .inl (gyI G, 16, .inl gv_10)), (ed2_14, .inl (gyO G, 10, .inr (.inr (.inr (.inr f2_15))))), (al, .inr (4, [.int md2_13, .ref ed2_14, .int (nI 1)]))] := hD
    refine lv_iconst (v := nI 1) hx hb dX6_puzzle_44 (by decide) ?_
    refine lv_isub hx hb dX6_puzzle_45 ?_
    refine lv_toe (pk_sub (a := 1) (b := 1) (by omega)) ?_
    have hP9 := hP.sub (ws' := []) [] rfl
    have hD9 := hD.sub (ws' := []) [] (by decide) rfl
    refine W.widen (k := 20) (n := 300) (Nat.le_of_ble_eq_true rfl) (Nat.le_of_ble_eq_true rfl) ?_
    subst hQ
    exact W.iret (v := nI 0) hx hb hr (fun t ht hW => ⟨⟨nI 0, (), rfl, rfl, by rw [ht]; exact hP9, hD9⟩, hS.F ht⟩) hS.2.2 dX6_puzzle_46
  · skip
    have c_3 : ¬ 0 < 8 := fun z => c_3 ((nI_ltI (a := 0) (b := 8) (by omega) (by omega)).mpr z)
    exact absurd c_3 (by decide)
