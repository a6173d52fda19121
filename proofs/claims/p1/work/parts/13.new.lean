theorem q46 : (Jvm.Cond.initialized "java/util/AbstractCollection") ∈ WW := inW 46 (by decide +kernel) rfl
theorem q47 : (Jvm.Cond.initialized "java/util/AbstractList") ∈ WW := inW 47 (by decide +kernel) rfl
theorem q51 : (Jvm.Cond.initialized "Pegboardry$Search") ∈ WW := inW 51 (by decide +kernel) rfl
theorem q85 : (Jvm.Cond.methodLink "Pegboardry" (1 : Nat) ({ cls := "java/lang/Object", name := "<init>", desc := "()V" } : Jvm.MethodName)) ∈ WW := inW 85 (by decide +kernel) rfl
theorem q86 : (Jvm.Cond.instanceMethod ({ cls := "java/lang/Object", name := "<init>", desc := "()V" } : Jvm.MethodName)) ∈ WW := inW 86 (by decide +kernel) rfl
theorem q87 : (Jvm.Cond.code ({ cls := "java/lang/Object", name := "<init>", desc := "()V" } : Jvm.MethodName) object_method_1_code (1 : Nat) (Option.none : Option Jvm.ClassFile.FieldType)) ∈ WW := inW 87 (by decide +kernel) rfl
theorem q88 : (Jvm.Cond.classLink "Pegboardry" (7 : Nat) "java/util/ArrayList") ∈ WW := inW 88 (by decide +kernel) rfl
theorem q89 : (Jvm.Cond.instantiable "java/util/ArrayList" (3 : Nat)) ∈ WW := inW 89 (by decide +kernel) rfl
theorem q90 : (Jvm.Cond.methodLink "Pegboardry" (9 : Nat) ({ cls := "java/util/ArrayList", name := "<init>", desc := "()V" } : Jvm.MethodName)) ∈ WW := inW 90 (by decide +kernel) rfl
theorem q91 : (Jvm.Cond.instanceMethod ({ cls := "java/util/ArrayList", name := "<init>", desc := "()V" } : Jvm.MethodName)) ∈ WW := inW 91 (by decide +kernel) rfl
theorem q92 : (Jvm.Cond.code ({ cls := "java/util/ArrayList", name := "<init>", desc := "()V" } : Jvm.MethodName) prog_36_method_2_code (1 : Nat) (Option.none : Option Jvm.ClassFile.FieldType)) ∈ WW := inW 92 (by decide +kernel) rfl
theorem q93 : (Jvm.Cond.methodLink "java/util/ArrayList" (1 : Nat) ({ cls := "java/util/AbstractList", name := "<init>", desc := "()V" } : Jvm.MethodName)) ∈ WW := inW 93 (by decide +kernel) rfl
theorem q94 : (Jvm.Cond.instanceMethod ({ cls := "java/util/AbstractList", name := "<init>", desc := "()V" } : Jvm.MethodName)) ∈ WW := inW 94 (by decide +kernel) rfl
theorem q95 : (Jvm.Cond.code ({ cls := "java/util/AbstractList", name := "<init>", desc := "()V" } : Jvm.MethodName) prog_35_method_1_code (1 : Nat) (Option.none : Option Jvm.ClassFile.FieldType)) ∈ WW := inW 95 (by decide +kernel) rfl
theorem q96 : (Jvm.Cond.methodLink "java/util/AbstractList" (1 : Nat) ({ cls := "java/util/AbstractCollection", name := "<init>", desc := "()V" } : Jvm.MethodName)) ∈ WW := inW 96 (by decide +kernel) rfl
theorem q97 : (Jvm.Cond.instanceMethod ({ cls := "java/util/AbstractCollection", name := "<init>", desc := "()V" } : Jvm.MethodName)) ∈ WW := inW 97 (by decide +kernel) rfl
theorem q98 : (Jvm.Cond.code ({ cls := "java/util/AbstractCollection", name := "<init>", desc := "()V" } : Jvm.MethodName) prog_34_method_1_code (1 : Nat) (Option.none : Option Jvm.ClassFile.FieldType)) ∈ WW := inW 98 (by decide +kernel) rfl
theorem q99 : (Jvm.Cond.methodLink "java/util/AbstractCollection" (1 : Nat) ({ cls := "java/lang/Object", name := "<init>", desc := "()V" } : Jvm.MethodName)) ∈ WW := inW 99 (by decide +kernel) rfl
theorem q106 : (Jvm.Cond.fieldLink "java/util/AbstractList" (7 : Nat) "java/util/AbstractList" "modCount" "I") ∈ WW := inW 106 (by decide +kernel) rfl
theorem q117 : (Jvm.Cond.classLink "Pegboardry" (16 : Nat) "Pegboardry$Solver") ∈ WW := inW 117 (by decide +kernel) rfl
theorem q118 : (Jvm.Cond.instantiable "Pegboardry$Solver" (6 : Nat)) ∈ WW := inW 118 (by decide +kernel) rfl
theorem nq119 : (Jvm.Cond.methodLinkNest "Pegboardry" (18 : Nat) ({ cls := "Pegboardry$Solver", name := "<init>", desc := "()V" } : Jvm.MethodName) "Pegboardry") ∈ NWs := inN 119 (by decide +kernel) rfl
theorem q120 : (Jvm.Cond.instanceMethod ({ cls := "Pegboardry$Solver", name := "<init>", desc := "()V" } : Jvm.MethodName)) ∈ WW := inW 120 (by decide +kernel) rfl
theorem q121 : (Jvm.Cond.code ({ cls := "Pegboardry$Solver", name := "<init>", desc := "()V" } : Jvm.MethodName) prog_7_method_1_code (1 : Nat) (Option.none : Option Jvm.ClassFile.FieldType)) ∈ WW := inW 121 (by decide +kernel) rfl
theorem q122 : (Jvm.Cond.methodLink "Pegboardry$Solver" (3 : Nat) ({ cls := "java/lang/Object", name := "<init>", desc := "()V" } : Jvm.MethodName)) ∈ WW := inW 122 (by decide +kernel) rfl
theorem q123 : (Jvm.Cond.classLink "Pegboardry$Solver" (9 : Nat) "Pegboardry$Board") ∈ WW := inW 123 (by decide +kernel) rfl
theorem q124 : (Jvm.Cond.instantiable "Pegboardry$Board" (1 : Nat)) ∈ WW := inW 124 (by decide +kernel) rfl
theorem nq125 : (Jvm.Cond.methodLinkNest "Pegboardry$Solver" (11 : Nat) ({ cls := "Pegboardry$Board", name := "<init>", desc := "()V" } : Jvm.MethodName) "Pegboardry") ∈ NWs := inN 125 (by decide +kernel) rfl
theorem q126 : (Jvm.Cond.instanceMethod ({ cls := "Pegboardry$Board", name := "<init>", desc := "()V" } : Jvm.MethodName)) ∈ WW := inW 126 (by decide +kernel) rfl
theorem q127 : (Jvm.Cond.code ({ cls := "Pegboardry$Board", name := "<init>", desc := "()V" } : Jvm.MethodName) prog_2_method_1_code (1 : Nat) (Option.none : Option Jvm.ClassFile.FieldType)) ∈ WW := inW 127 (by decide +kernel) rfl
theorem q128 : (Jvm.Cond.methodLink "Pegboardry$Board" (3 : Nat) ({ cls := "java/lang/Object", name := "<init>", desc := "()V" } : Jvm.MethodName)) ∈ WW := inW 128 (by decide +kernel) rfl
theorem q135 : (Jvm.Cond.arrayClass Jvm.ClassFile.FieldType.int) ∈ WW := inW 135 (by decide +kernel) rfl
theorem q161 : (Jvm.Cond.classLink "Pegboardry" (23 : Nat) "Pegboardry$Search") ∈ WW := inW 161 (by decide +kernel) rfl
theorem q162 : (Jvm.Cond.instantiable "Pegboardry$Search" (3 : Nat)) ∈ WW := inW 162 (by decide +kernel) rfl
theorem nq163 : (Jvm.Cond.methodLinkNest "Pegboardry" (25 : Nat) ({ cls := "Pegboardry$Search", name := "<init>", desc := "()V" } : Jvm.MethodName) "Pegboardry") ∈ NWs := inN 163 (by decide +kernel) rfl
theorem q164 : (Jvm.Cond.instanceMethod ({ cls := "Pegboardry$Search", name := "<init>", desc := "()V" } : Jvm.MethodName)) ∈ WW := inW 164 (by decide +kernel) rfl
theorem q165 : (Jvm.Cond.code ({ cls := "Pegboardry$Search", name := "<init>", desc := "()V" } : Jvm.MethodName) prog_6_method_1_code (1 : Nat) (Option.none : Option Jvm.ClassFile.FieldType)) ∈ WW := inW 165 (by decide +kernel) rfl
theorem q166 : (Jvm.Cond.methodLink "Pegboardry$Search" (3 : Nat) ({ cls := "java/lang/Object", name := "<init>", desc := "()V" } : Jvm.MethodName)) ∈ WW := inW 166 (by decide +kernel) rfl
theorem q167 : (Jvm.Cond.fieldLink "Pegboardry$Search" (9 : Nat) "Pegboardry$Search" "tried" "[I") ∈ WW := inW 167 (by decide +kernel) rfl
theorem q168 : (Jvm.Cond.fieldLink "Pegboardry$Search" (15 : Nat) "Pegboardry$Search" "firstFound" "[I") ∈ WW := inW 168 (by decide +kernel) rfl
theorem q170 : (Jvm.Cond.fieldLink "Pegboardry$Search" (18 : Nat) "Pegboardry$Search" "found" "I") ∈ WW := inW 170 (by decide +kernel) rfl
theorem q179 : (Jvm.Cond.classLink "Pegboardry" (30 : Nat) "Pegboardry$Board") ∈ WW := inW 179 (by decide +kernel) rfl
theorem nq180 : (Jvm.Cond.methodLinkNest "Pegboardry" (32 : Nat) ({ cls := "Pegboardry$Board", name := "<init>", desc := "()V" } : Jvm.MethodName) "Pegboardry") ∈ NWs := inN 180 (by decide +kernel) rfl
theorem q181 : (Jvm.Cond.fieldLink "Pegboardry" (10 : Nat) "Pegboardry" "puzzles" "Ljava/util/ArrayList;") ∈ WW := inW 181 (by decide +kernel) rfl
theorem q182 : (Jvm.Cond.fieldLink "Pegboardry" (19 : Nat) "Pegboardry" "makersSolver" "LPegboardry$Solver;") ∈ WW := inW 182 (by decide +kernel) rfl
theorem q183 : (Jvm.Cond.fieldLink "Pegboardry" (26 : Nat) "Pegboardry" "trialSearch" "LPegboardry$Search;") ∈ WW := inW 183 (by decide +kernel) rfl
theorem q184 : (Jvm.Cond.fieldLink "Pegboardry" (33 : Nat) "Pegboardry" "proofBoard" "LPegboardry$Board;") ∈ WW := inW 184 (by decide +kernel) rfl
theorem q185 : (Jvm.Cond.fieldLink "Pegboardry" (37 : Nat) "Pegboardry" "proofPuzzle" "LPegboardry$Puzzle;") ∈ WW := inW 185 (by decide +kernel) rfl
theorem q186 : (Jvm.Cond.fieldLink "Pegboardry" (41 : Nat) "Pegboardry" "lastRefusal" "I") ∈ WW := inW 186 (by decide +kernel) rfl
theorem q432 : (Jvm.Cond.methodLink "Pegboardry$Puzzle" (3 : Nat) ({ cls := "java/lang/Object", name := "<init>", desc := "()V" } : Jvm.MethodName)) ∈ WW := inW 432 (by decide +kernel) rfl
theorem q433 : (Jvm.Cond.classLink "Pegboardry$Puzzle" (18 : Nat) "java/util/ArrayList") ∈ WW := inW 433 (by decide +kernel) rfl
theorem q434 : (Jvm.Cond.methodLink "Pegboardry$Puzzle" (20 : Nat) ({ cls := "java/util/ArrayList", name := "<init>", desc := "()V" } : Jvm.MethodName)) ∈ WW := inW 434 (by decide +kernel) rfl
theorem q435 : (Jvm.Cond.classLink "Pegboardry$Puzzle" (25 : Nat) "Pegboardry$Solver") ∈ WW := inW 435 (by decide +kernel) rfl
theorem nq436 : (Jvm.Cond.methodLinkNest "Pegboardry$Puzzle" (27 : Nat) ({ cls := "Pegboardry$Solver", name := "<init>", desc := "()V" } : Jvm.MethodName) "Pegboardry") ∈ NWs := inN 436 (by decide +kernel) rfl
theorem q437 : (Jvm.Cond.classLink "Pegboardry$Puzzle" (32 : Nat) "Pegboardry$Search") ∈ WW := inW 437 (by decide +kernel) rfl
theorem nq438 : (Jvm.Cond.methodLinkNest "Pegboardry$Puzzle" (34 : Nat) ({ cls := "Pegboardry$Search", name := "<init>", desc := "()V" } : Jvm.MethodName) "Pegboardry") ∈ NWs := inN 438 (by decide +kernel) rfl
theorem q443 : (Jvm.Cond.fieldLink "Pegboardry$Puzzle" (15 : Nat) "Pegboardry$Puzzle" "markRow" "[I") ∈ WW := inW 443 (by decide +kernel) rfl
theorem q445 : (Jvm.Cond.fieldLink "Pegboardry$Puzzle" (21 : Nat) "Pegboardry$Puzzle" "cages" "Ljava/util/ArrayList;") ∈ WW := inW 445 (by decide +kernel) rfl
theorem q449 : (Jvm.Cond.fieldLink "Pegboardry$Puzzle" (28 : Nat) "Pegboardry$Puzzle" "solver" "LPegboardry$Solver;") ∈ WW := inW 449 (by decide +kernel) rfl
theorem q450 : (Jvm.Cond.fieldLink "Pegboardry$Puzzle" (35 : Nat) "Pegboardry$Puzzle" "search" "LPegboardry$Search;") ∈ WW := inW 450 (by decide +kernel) rfl
theorem q670 : (Jvm.Cond.methodLink "Pegboardry$Draws" (1 : Nat) ({ cls := "java/lang/Object", name := "<init>", desc := "()V" } : Jvm.MethodName)) ∈ WW := inW 670 (by decide +kernel) rfl
theorem dJxa1e45_init_da8c8_0 : decode cJxa1e45_init_da8c8 0 = .ok (.aload_n 0, 1) := by decide +kernel
theorem dJxa1e45_init_da8c8_1 : decode cJxa1e45_init_da8c8 1 = .ok (.invokespecial 1, 3) := by decide +kernel
theorem dJxa1e45_init_da8c8_4 : decode cJxa1e45_init_da8c8 4 = .ok (.return_, 1) := by decide +kernel
theorem dJxc12de_init_da8c8_0 : decode cJxc12de_init_da8c8 0 = .ok (.aload_n 0, 1) := by decide +kernel
theorem dJxc12de_init_da8c8_1 : decode cJxc12de_init_da8c8 1 = .ok (.invokespecial 1, 3) := by decide +kernel
theorem dJxc12de_init_da8c8_4 : decode cJxc12de_init_da8c8 4 = .ok (.aload_n 0, 1) := by decide +kernel
theorem dJxc12de_init_da8c8_5 : decode cJxc12de_init_da8c8 5 = .ok (.iconst 0, 1) := by decide +kernel
theorem dJxc12de_init_da8c8_6 : decode cJxc12de_init_da8c8 6 = .ok (.putfield 7, 3) := by decide +kernel
theorem dJxc12de_init_da8c8_9 : decode cJxc12de_init_da8c8 9 = .ok (.return_, 1) := by decide +kernel
theorem dJx4a65c_init_da8c8_0 : decode cJx4a65c_init_da8c8 0 = .ok (.aload_n 0, 1) := by decide +kernel
theorem dJx4a65c_init_da8c8_1 : decode cJx4a65c_init_da8c8 1 = .ok (.invokespecial 1, 3) := by decide +kernel
theorem dJx4a65c_init_da8c8_4 : decode cJx4a65c_init_da8c8 4 = .ok (.aload_n 0, 1) := by decide +kernel
theorem dJx4a65c_init_da8c8_5 : decode cJx4a65c_init_da8c8 5 = .ok (.getstatic 39, 3) := by decide +kernel
theorem dJx4a65c_init_da8c8_8 : decode cJx4a65c_init_da8c8 8 = .ok (.putfield 9, 3) := by decide +kernel
theorem dJx4a65c_init_da8c8_11 : decode cJx4a65c_init_da8c8 11 = .ok (.return_, 1) := by decide +kernel
theorem dX0_init_0 : decode cX0_init 0 = .ok (.aload_n 0, 1) := by decide +kernel
theorem dX0_init_1 : decode cX0_init 1 = .ok (.invokespecial 3, 3) := by decide +kernel
theorem dX0_init_4 : decode cX0_init 4 = .ok (.aload_n 0, 1) := by decide +kernel
theorem dX0_init_5 : decode cX0_init 5 = .ok (.bipush 16, 2) := by decide +kernel
theorem dX0_init_7 : decode cX0_init 7 = .ok (.newarray .int, 2) := by decide +kernel
theorem dX0_init_9 : decode cX0_init 9 = .ok (.putfield 9, 3) := by decide +kernel
theorem dX0_init_12 : decode cX0_init 12 = .ok (.return_, 1) := by decide +kernel
theorem dX4_init_0 : decode cX4_init 0 = .ok (.aload_n 0, 1) := by decide +kernel
theorem dX4_init_1 : decode cX4_init 1 = .ok (.invokespecial 3, 3) := by decide +kernel
theorem dX4_init_4 : decode cX4_init 4 = .ok (.aload_n 0, 1) := by decide +kernel
theorem dX4_init_5 : decode cX4_init 5 = .ok (.bipush 16, 2) := by decide +kernel
theorem dX4_init_7 : decode cX4_init 7 = .ok (.newarray .int, 2) := by decide +kernel
theorem dX4_init_9 : decode cX4_init 9 = .ok (.putfield 9, 3) := by decide +kernel
theorem dX4_init_12 : decode cX4_init 12 = .ok (.aload_n 0, 1) := by decide +kernel
theorem dX4_init_13 : decode cX4_init 13 = .ok (.bipush 16, 2) := by decide +kernel
theorem dX4_init_15 : decode cX4_init 15 = .ok (.newarray .int, 2) := by decide +kernel
theorem dX4_init_17 : decode cX4_init 17 = .ok (.putfield 15, 3) := by decide +kernel
theorem dX4_init_20 : decode cX4_init 20 = .ok (.aload_n 0, 1) := by decide +kernel
theorem dX4_init_21 : decode cX4_init 21 = .ok (.iconst 0, 1) := by decide +kernel
theorem dX4_init_22 : decode cX4_init 22 = .ok (.putfield 18, 3) := by decide +kernel
theorem dX4_init_25 : decode cX4_init 25 = .ok (.return_, 1) := by decide +kernel
theorem dX5_init_0 : decode cX5_init 0 = .ok (.aload_n 0, 1) := by decide +kernel
theorem dX5_init_1 : decode cX5_init 1 = .ok (.invokespecial 3, 3) := by decide +kernel
theorem dX5_init_4 : decode cX5_init 4 = .ok (.aload_n 0, 1) := by decide +kernel
theorem dX5_init_5 : decode cX5_init 5 = .ok (.new 9, 3) := by decide +kernel
theorem dX5_init_8 : decode cX5_init 8 = .ok (.dup, 1) := by decide +kernel
theorem dX5_init_9 : decode cX5_init 9 = .ok (.invokespecial 11, 3) := by decide +kernel
theorem dX5_init_12 : decode cX5_init 12 = .ok (.putfield 12, 3) := by decide +kernel
theorem dX5_init_15 : decode cX5_init 15 = .ok (.aload_n 0, 1) := by decide +kernel
theorem dX5_init_16 : decode cX5_init 16 = .ok (.bipush 64, 2) := by decide +kernel
theorem dX5_init_18 : decode cX5_init 18 = .ok (.newarray .int, 2) := by decide +kernel
theorem dX5_init_20 : decode cX5_init 20 = .ok (.putfield 18, 3) := by decide +kernel
theorem dX5_init_23 : decode cX5_init 23 = .ok (.aload_n 0, 1) := by decide +kernel
theorem dX5_init_24 : decode cX5_init 24 = .ok (.bipush 16, 2) := by decide +kernel
theorem dX5_init_26 : decode cX5_init 26 = .ok (.newarray .int, 2) := by decide +kernel
theorem dX5_init_28 : decode cX5_init 28 = .ok (.putfield 22, 3) := by decide +kernel
theorem dX5_init_31 : decode cX5_init 31 = .ok (.aload_n 0, 1) := by decide +kernel
theorem dX5_init_32 : decode cX5_init 32 = .ok (.iconst 0, 1) := by decide +kernel
theorem dX5_init_33 : decode cX5_init 33 = .ok (.putfield 25, 3) := by decide +kernel
theorem dX5_init_36 : decode cX5_init 36 = .ok (.aload_n 0, 1) := by decide +kernel
theorem dX5_init_37 : decode cX5_init 37 = .ok (.iconst 0, 1) := by decide +kernel
theorem dX5_init_38 : decode cX5_init 38 = .ok (.putfield 29, 3) := by decide +kernel
theorem dX5_init_41 : decode cX5_init 41 = .ok (.aload_n 0, 1) := by decide +kernel
theorem dX5_init_42 : decode cX5_init 42 = .ok (.bipush 110, 2) := by decide +kernel
theorem dX5_init_44 : decode cX5_init 44 = .ok (.putfield 32, 3) := by decide +kernel
theorem dX5_init_47 : decode cX5_init 47 = .ok (.return_, 1) := by decide +kernel
theorem dX2_init_0 : decode cX2_init 0 = .ok (.aload_n 0, 1) := by decide +kernel
theorem dX2_init_1 : decode cX2_init 1 = .ok (.invokespecial 1, 3) := by decide +kernel
theorem dX2_init_4 : decode cX2_init 4 = .ok (.aload_n 0, 1) := by decide +kernel
theorem dX2_init_5 : decode cX2_init 5 = .ok (.iload_n 1, 1) := by decide +kernel
theorem dX2_init_6 : decode cX2_init 6 = .ok (.i2l, 1) := by decide +kernel
theorem dX2_init_7 : decode cX2_init 7 = .ok (.putfield 7, 3) := by decide +kernel
theorem dX2_init_10 : decode cX2_init 10 = .ok (.return_, 1) := by decide +kernel
theorem dX3_init_0 : decode cX3_init 0 = .ok (.aload_n 0, 1) := by decide +kernel
theorem dX3_init_1 : decode cX3_init 1 = .ok (.invokespecial 3, 3) := by decide +kernel
theorem dX3_init_4 : decode cX3_init 4 = .ok (.aload_n 0, 1) := by decide +kernel
theorem dX3_init_5 : decode cX3_init 5 = .ok (.bipush 16, 2) := by decide +kernel
theorem dX3_init_7 : decode cX3_init 7 = .ok (.newarray .int, 2) := by decide +kernel
theorem dX3_init_9 : decode cX3_init 9 = .ok (.putfield 9, 3) := by decide +kernel
theorem dX3_init_12 : decode cX3_init 12 = .ok (.aload_n 0, 1) := by decide +kernel
theorem dX3_init_13 : decode cX3_init 13 = .ok (.bipush 16, 2) := by decide +kernel
theorem dX3_init_15 : decode cX3_init 15 = .ok (.newarray .int, 2) := by decide +kernel
theorem dX3_init_17 : decode cX3_init 17 = .ok (.putfield 15, 3) := by decide +kernel
theorem dX3_init_20 : decode cX3_init 20 = .ok (.aload_n 0, 1) := by decide +kernel
theorem dX3_init_21 : decode cX3_init 21 = .ok (.new 18, 3) := by decide +kernel
theorem dX3_init_24 : decode cX3_init 24 = .ok (.dup, 1) := by decide +kernel
theorem dX3_init_25 : decode cX3_init 25 = .ok (.invokespecial 20, 3) := by decide +kernel
theorem dX3_init_28 : decode cX3_init 28 = .ok (.putfield 21, 3) := by decide +kernel
theorem dX3_init_31 : decode cX3_init 31 = .ok (.aload_n 0, 1) := by decide +kernel
theorem dX3_init_32 : decode cX3_init 32 = .ok (.new 25, 3) := by decide +kernel
theorem dX3_init_35 : decode cX3_init 35 = .ok (.dup, 1) := by decide +kernel
theorem dX3_init_36 : decode cX3_init 36 = .ok (.invokespecial 27, 3) := by decide +kernel
theorem dX3_init_39 : decode cX3_init 39 = .ok (.putfield 28, 3) := by decide +kernel
theorem dX3_init_42 : decode cX3_init 42 = .ok (.aload_n 0, 1) := by decide +kernel
theorem dX3_init_43 : decode cX3_init 43 = .ok (.new 32, 3) := by decide +kernel
theorem dX3_init_46 : decode cX3_init 46 = .ok (.dup, 1) := by decide +kernel
theorem dX3_init_47 : decode cX3_init 47 = .ok (.invokespecial 34, 3) := by decide +kernel
theorem dX3_init_50 : decode cX3_init 50 = .ok (.putfield 35, 3) := by decide +kernel
theorem dX3_init_53 : decode cX3_init 53 = .ok (.aload_n 0, 1) := by decide +kernel
theorem dX3_init_54 : decode cX3_init 54 = .ok (.iconst 0, 1) := by decide +kernel
theorem dX3_init_55 : decode cX3_init 55 = .ok (.putfield 39, 3) := by decide +kernel
theorem dX3_init_58 : decode cX3_init 58 = .ok (.aload_n 0, 1) := by decide +kernel
theorem dX3_init_59 : decode cX3_init 59 = .ok (.iconst 0, 1) := by decide +kernel
theorem dX3_init_60 : decode cX3_init 60 = .ok (.putfield 43, 3) := by decide +kernel
theorem dX3_init_63 : decode cX3_init 63 = .ok (.return_, 1) := by decide +kernel
theorem dX6_init_0 : decode cX6_init 0 = .ok (.aload_n 0, 1) := by decide +kernel
theorem dX6_init_1 : decode cX6_init 1 = .ok (.invokespecial 1, 3) := by decide +kernel
theorem dX6_init_4 : decode cX6_init 4 = .ok (.aload_n 0, 1) := by decide +kernel
theorem dX6_init_5 : decode cX6_init 5 = .ok (.new 7, 3) := by decide +kernel
theorem dX6_init_8 : decode cX6_init 8 = .ok (.dup, 1) := by decide +kernel
theorem dX6_init_9 : decode cX6_init 9 = .ok (.invokespecial 9, 3) := by decide +kernel
theorem dX6_init_12 : decode cX6_init 12 = .ok (.putfield 10, 3) := by decide +kernel
theorem dX6_init_15 : decode cX6_init 15 = .ok (.aload_n 0, 1) := by decide +kernel
theorem dX6_init_16 : decode cX6_init 16 = .ok (.new 16, 3) := by decide +kernel
theorem dX6_init_19 : decode cX6_init 19 = .ok (.dup, 1) := by decide +kernel
theorem dX6_init_20 : decode cX6_init 20 = .ok (.invokespecial 18, 3) := by decide +kernel
theorem dX6_init_23 : decode cX6_init 23 = .ok (.putfield 19, 3) := by decide +kernel
theorem dX6_init_26 : decode cX6_init 26 = .ok (.aload_n 0, 1) := by decide +kernel
theorem dX6_init_27 : decode cX6_init 27 = .ok (.new 23, 3) := by decide +kernel
theorem dX6_init_30 : decode cX6_init 30 = .ok (.dup, 1) := by decide +kernel
theorem dX6_init_31 : decode cX6_init 31 = .ok (.invokespecial 25, 3) := by decide +kernel
theorem dX6_init_34 : decode cX6_init 34 = .ok (.putfield 26, 3) := by decide +kernel
theorem dX6_init_37 : decode cX6_init 37 = .ok (.aload_n 0, 1) := by decide +kernel
theorem dX6_init_38 : decode cX6_init 38 = .ok (.new 30, 3) := by decide +kernel
theorem dX6_init_41 : decode cX6_init 41 = .ok (.dup, 1) := by decide +kernel
theorem dX6_init_42 : decode cX6_init 42 = .ok (.invokespecial 32, 3) := by decide +kernel
theorem dX6_init_45 : decode cX6_init 45 = .ok (.putfield 33, 3) := by decide +kernel
theorem dX6_init_48 : decode cX6_init 48 = .ok (.aload_n 0, 1) := by decide +kernel
theorem dX6_init_49 : decode cX6_init 49 = .ok (.aconst_null, 1) := by decide +kernel
theorem dX6_init_50 : decode cX6_init 50 = .ok (.putfield 37, 3) := by decide +kernel
theorem dX6_init_53 : decode cX6_init 53 = .ok (.aload_n 0, 1) := by decide +kernel
theorem dX6_init_54 : decode cX6_init 54 = .ok (.iconst 0, 1) := by decide +kernel
theorem dX6_init_55 : decode cX6_init 55 = .ok (.putfield 41, 3) := by decide +kernel
theorem dX6_init_58 : decode cX6_init 58 = .ok (.return_, 1) := by decide +kernel
set_option maxHeartbeats 4000000 in
set_option maxRecDepth 100000 in
theorem c_Jxa1e45_init_da8c8 (l : Launch) (G : GG) (al : Nat) : Mv l G yJxa1e45_init_da8c8 cJxa1e45_init_da8c8 1 ({ frames := 1, cells := 0, slots := 0, locals := 20 } : Room) [.ref al] [(al, .inr (4, [.int (nI 0), .null, .int (nI 0)]))] (fun (u : Unit) => True) (fun (u : Unit) => [(al, .inr (4, [.int (nI 0), .null, .int (nI 0)]))]) := by
  intro sz
  refine Met.ofW (cc := cJxa1e45_init_da8c8) (maxL := 1) (ret := none) (by decide) rfl ?_
  intro p e s m args below meth c s₁ B9 hml hv
  obtain ⟨rfl, hsz, hP, hK, hD0, hE⟩ := hv
  have hx := B9.exec
  have hb := B9.bytes
  have hr := B9.returns
  have hts : ∀ w ∈ WW, w.before ([.ref al] : List Value).toArray s = true := fun w h => atoms_spec (ws := .code yJxa1e45_init_da8c8 cJxa1e45_init_da8c8 1 none :: WW) B9.pre w (List.mem_cons_of_mem _ h)
  have hown : s.vm.findClass RJxa1e45 = some m.cls := findClass_of_methodNamed B9.named
  have hin : meth.name = "<init>" := (name_of_methodNamed B9.named B9.method).1
  subst hsz
  have hD := hD0.self (sz := s.heap.size)
  generalize hAe : va_A [(al, .inr (4, [.int (nI 0), .null, .int (nI 0)]))] s.heap.size = A at hD hE ⊢
  have hA : ∀ q : Nat, s.heap.size ≤ q → A q := fun q h => by rw [← hAe]; exact Or.inr h
  have hl := lv_entry ([.ref al]) (n := 1) (Nat.le_of_ble_eq_true rfl)
  rw [lg_entry_eq]
  generalize (lg_sl ([.ref al]) ++ List.replicate (1 - (lg_sl ([.ref al])).length) Slot.unset).toArray = ls at hl ⊢
  have hl : lv_has ls 1 [(0, .ref al)] := hl
  refine qgen (fun Q hQ => ?_)
  refine hgen (fun H locs hP hD hS => ?_) hP hD
  refine lv_aload_n hx hb dJxa1e45_init_da8c8_0 rfl (lv_at hl 0 rfl) ?_
  refine W.objInit hx hb hown (hts _ q99) (hts _ q86) (hts _ q87) rfl (by rw [hml]; exact hl.1) rfl dJxa1e45_init_da8c8_1 (Nat.le_of_ble_eq_true rfl) (Nat.le_of_ble_eq_true rfl) ?_
  refine W.eq (g2 := F0 m 4 ls []) rfl ?_
  have hP9 := hP.sub (ws' := [(al, .inr (4, [.int (nI 0), .null, .int (nI 0)]))]) [0] rfl
  have hD9 := hD.sub (ws' := [(al, .inr (4, [.int (nI 0), .null, .int (nI 0)]))]) [0] (by decide) rfl
  subst hQ
  exact W.vret hx hb hr (fun t ht hW => ⟨⟨(), rfl, trivial, by rw [ht]; exact hP9, hD9⟩, hS.F ht⟩) hS.2.2 dJxa1e45_init_da8c8_4
set_option maxHeartbeats 4000000 in
set_option maxRecDepth 100000 in
theorem c_Jxc12de_init_da8c8 (l : Launch) (G : GG) (al : Nat) : Mv l G yJxc12de_init_da8c8 cJxc12de_init_da8c8 1 ({ frames := 2, cells := 0, slots := 0, locals := 40 } : Room) [.ref al] [(al, .inr (4, [.int (nI 0), .null, .int (nI 0)]))] (fun (u : Unit) => True) (fun (u : Unit) => [(al, .inr (4, [.int (nI 0), .null, .int (nI 0)]))]) := by
  intro sz
  refine Met.ofW (cc := cJxc12de_init_da8c8) (maxL := 1) (ret := none) (by decide) rfl ?_
  intro p e s m args below meth c s₁ B9 hml hv
  obtain ⟨rfl, hsz, hP, hK, hD0, hE⟩ := hv
  have hx := B9.exec
  have hb := B9.bytes
  have hr := B9.returns
  have hts : ∀ w ∈ WW, w.before ([.ref al] : List Value).toArray s = true := fun w h => atoms_spec (ws := .code yJxc12de_init_da8c8 cJxc12de_init_da8c8 1 none :: WW) B9.pre w (List.mem_cons_of_mem _ h)
  have hown : s.vm.findClass RJxc12de = some m.cls := findClass_of_methodNamed B9.named
  have hin : meth.name = "<init>" := (name_of_methodNamed B9.named B9.method).1
  subst hsz
  have hD := hD0.self (sz := s.heap.size)
  generalize hAe : va_A [(al, .inr (4, [.int (nI 0), .null, .int (nI 0)]))] s.heap.size = A at hD hE ⊢
  have hA : ∀ q : Nat, s.heap.size ≤ q → A q := fun q h => by rw [← hAe]; exact Or.inr h
  have hl := lv_entry ([.ref al]) (n := 1) (Nat.le_of_ble_eq_true rfl)
  rw [lg_entry_eq]
  generalize (lg_sl ([.ref al]) ++ List.replicate (1 - (lg_sl ([.ref al])).length) Slot.unset).toArray = ls at hl ⊢
  have hl : lv_has ls 1 [(0, .ref al)] := hl
  refine qgen (fun Q hQ => ?_)
  refine hgen (fun H locs hP hD hS => ?_) hP hD
  refine lv_aload_n hx hb dJxc12de_init_da8c8_0 rfl (lv_at hl 0 rfl) ?_
  refine fin_v hP hD hS hA [0] [] (wr := []) rfl rfl (by decide) (by decide) (va_runI (As := []) (rest := []) ⟨hx, hb, hml, hown, hts⟩ (c_Jxa1e45_init_da8c8 l G al H.size) (cwI 0 hts (gI q98) rfl rfl rfl (hts _ q46) (hts _ q96) (hts _ q97) rfl (by decide +kernel) ⟨Nat.le_of_ble_eq_true rfl, Nat.le_of_ble_eq_true rfl⟩) (preS hK hE hP hD hS hA [0] rfl (by decide)) rfl rfl hl.1 rfl (lv_room (Nat.le_of_ble_eq_true rfl)) dJxc12de_init_da8c8_1 ⟨Nat.le_of_ble_eq_true rfl, Nat.le_of_ble_eq_true rfl⟩) (fun u9 hw_1 H locs hP hD hS => ?_)
  have hP : va_P (gD G) vwCl [(al, .inr (4, [.int (nI 0), .null, .int (nI 0)]))] H := hP
  have hD : va_D A [(al, .inr (4, [.int (nI 0), .null, .int (nI 0)]))] := hD
  refine lv_aload_n hx hb dJxc12de_init_da8c8_4 rfl (lv_at hl 0 rfl) ?_
  refine lv_iconst (v := nI 0) hx hb dJxc12de_init_da8c8_5 (by decide) ?_
  refine va_put (D := gD G) (ci := 4) (v := .int (nI 0)) (ty := .int) (C := RJx4a65c) (T := TJx4a65c) (N := 3) hx hb hts fwJx4a65c tyJx4a65c tyJx4a65c_ok nmJx4a65c hown hK hP hD hS 0 rfl rfl 0 (by decide) (hts _ q106) (fun _ h9 => h9) rfl (by decide +kernel) rfl rfl (Nat.le_of_ble_eq_true rfl) dJxc12de_init_da8c8_6 (fun H locs hP hD hS => ?_)
  have hP : va_P (gD G) vwCl [(al, .inr (4, [.int (nI 0), .null, .int (nI 0)]))] H := hP
  have hD : va_D A [(al, .inr (4, [.int (nI 0), .null, .int (nI 0)]))] := hD
  have hP9 := hP.sub (ws' := [(al, .inr (4, [.int (nI 0), .null, .int (nI 0)]))]) [0] rfl
  have hD9 := hD.sub (ws' := [(al, .inr (4, [.int (nI 0), .null, .int (nI 0)]))]) [0] (by decide) rfl
  subst hQ
  exact W.vret hx hb hr (fun t ht hW => ⟨⟨(), rfl, trivial, by rw [ht]; exact hP9, hD9⟩, hS.F ht⟩) hS.2.2 dJxc12de_init_da8c8_9
set_option maxHeartbeats 4000000 in
set_option maxRecDepth 100000 in
theorem c_Jx4a65c_init_da8c8 (l : Launch) (G : GG) (al : Nat) : Mv l G yJx4a65c_init_da8c8 cJx4a65c_init_da8c8 1 ({ frames := 3, cells := 0, slots := 0, locals := 60 } : Room) [.ref al] [(al, .inr (4, [.int (nI 0), .null, .int (nI 0)]))] (fun (u : Unit) => True) (fun (u : Unit) => [(al, .inr (4, [.int (nI 0), .ref (gE G), .int (nI 0)]))]) := by
  intro sz
  refine Met.ofW (cc := cJx4a65c_init_da8c8) (maxL := 1) (ret := none) (by decide) rfl ?_
  intro p e s m args below meth c s₁ B9 hml hv
  obtain ⟨rfl, hsz, hP, hK, hD0, hE⟩ := hv
  have hx := B9.exec
  have hb := B9.bytes
  have hr := B9.returns
  have hts : ∀ w ∈ WW, w.before ([.ref al] : List Value).toArray s = true := fun w h => atoms_spec (ws := .code yJx4a65c_init_da8c8 cJx4a65c_init_da8c8 1 none :: WW) B9.pre w (List.mem_cons_of_mem _ h)
  have hown : s.vm.findClass RJx4a65c = some m.cls := findClass_of_methodNamed B9.named
  have hin : meth.name = "<init>" := (name_of_methodNamed B9.named B9.method).1
  subst hsz
  have hD := hD0.self (sz := s.heap.size)
  generalize hAe : va_A [(al, .inr (4, [.int (nI 0), .null, .int (nI 0)]))] s.heap.size = A at hD hE ⊢
  have hA : ∀ q : Nat, s.heap.size ≤ q → A q := fun q h => by rw [← hAe]; exact Or.inr h
  have hl := lv_entry ([.ref al]) (n := 1) (Nat.le_of_ble_eq_true rfl)
  rw [lg_entry_eq]
  generalize (lg_sl ([.ref al]) ++ List.replicate (1 - (lg_sl ([.ref al])).length) Slot.unset).toArray = ls at hl ⊢
  have hl : lv_has ls 1 [(0, .ref al)] := hl
  refine qgen (fun Q hQ => ?_)
  refine hgen (fun H locs hP hD hS => ?_) hP hD
  refine lv_aload_n hx hb dJx4a65c_init_da8c8_0 rfl (lv_at hl 0 rfl) ?_
  refine fin_v hP hD hS hA [0] [] (wr := []) rfl rfl (by decide) (by decide) (va_runI (As := []) (rest := []) ⟨hx, hb, hml, hown, hts⟩ (c_Jxc12de_init_da8c8 l G al H.size) (cwI 0 hts (gI q95) rfl rfl rfl (hts _ q47) (hts _ q93) (hts _ q94) rfl (by decide +kernel) ⟨Nat.le_of_ble_eq_true rfl, Nat.le_of_ble_eq_true rfl⟩) (preS hK hE hP hD hS hA [0] rfl (by decide)) rfl rfl hl.1 rfl (lv_room (Nat.le_of_ble_eq_true rfl)) dJx4a65c_init_da8c8_1 ⟨Nat.le_of_ble_eq_true rfl, Nat.le_of_ble_eq_true rfl⟩) (fun u9 hw_1 H locs hP hD hS => ?_)
  have hP : va_P (gD G) vwCl [(al, .inr (4, [.int (nI 0), .null, .int (nI 0)]))] H := hP
  have hD : va_D A [(al, .inr (4, [.int (nI 0), .null, .int (nI 0)]))] := hD
  refine lv_aload_n hx hb dJx4a65c_init_da8c8_4 rfl (lv_at hl 0 rfl) ?_
  refine va_gets (v := .ref (gE G)) hx hb hE.2.1 hS hown (hts _ q100) (fun _ h9 => h9) dJx4a65c_init_da8c8_5 ?_
  refine va_put (D := gD G) (ci := 4) (v := .ref (gE G)) (ty := .array (.object "java/lang/Object")) (C := RJx4a65c) (T := TJx4a65c) (N := 3) hx hb hts fwJx4a65c tyJx4a65c tyJx4a65c_ok nmJx4a65c hown hK hP hD hS 0 rfl rfl 1 (by decide) (hts _ q102) (fun _ h9 => h9) rfl (by decide +kernel) rfl rfl (Nat.le_of_ble_eq_true rfl) dJx4a65c_init_da8c8_8 (fun H locs hP hD hS => ?_)
  have hP : va_P (gD G) vwCl [(al, .inr (4, [.int (nI 0), .ref (gE G), .int (nI 0)]))] H := hP
  have hD : va_D A [(al, .inr (4, [.int (nI 0), .ref (gE G), .int (nI 0)]))] := hD
  have hP9 := hP.sub (ws' := [(al, .inr (4, [.int (nI 0), .ref (gE G), .int (nI 0)]))]) [0] rfl
  have hD9 := hD.sub (ws' := [(al, .inr (4, [.int (nI 0), .ref (gE G), .int (nI 0)]))]) [0] (by decide) rfl
  subst hQ
  exact W.vret hx hb hr (fun t ht hW => ⟨⟨(), rfl, trivial, by rw [ht]; exact hP9, hD9⟩, hS.F ht⟩) hS.2.2 dJx4a65c_init_da8c8_11
set_option maxHeartbeats 4000000 in
set_option maxRecDepth 100000 in
theorem c_X0_init (l : Launch) (G : GG) (b : Nat) : Mv l G yX0_init cX0_init 1 ({ frames := 1, cells := 1, slots := 16, locals := 20 } : Room) [.ref b] [(b, .inr (5, [.null]))] (fun (u : Nat × (Nat → Int32)) => True) (fun (u : Nat × (Nat → Int32)) => [(b, .inr (5, [.ref u.1])), (u.1, .inl (gyI G, 16, .inl u.2))]) := by
  intro sz
  refine Met.ofW (cc := cX0_init) (maxL := 1) (ret := none) (by decide) rfl ?_
  intro p e s m args below meth c s₁ B9 hml hv
  obtain ⟨rfl, hsz, hP, hK, hD0, hE⟩ := hv
  have hx := B9.exec
  have hb := B9.bytes
  have hr := B9.returns
  have hts : ∀ w ∈ WW, w.before ([.ref b] : List Value).toArray s = true := fun w h => atoms_spec (ws := .code yX0_init cX0_init 1 none :: WW) B9.pre w (List.mem_cons_of_mem _ h)
  have hown : s.vm.findClass RX0 = some m.cls := findClass_of_methodNamed B9.named
  have hin : meth.name = "<init>" := (name_of_methodNamed B9.named B9.method).1
  subst hsz
  have hD := hD0.self (sz := s.heap.size)
  generalize hAe : va_A [(b, .inr (5, [.null]))] s.heap.size = A at hD hE ⊢
  have hA : ∀ q : Nat, s.heap.size ≤ q → A q := fun q h => by rw [← hAe]; exact Or.inr h
  have hl := lv_entry ([.ref b]) (n := 1) (Nat.le_of_ble_eq_true rfl)
  rw [lg_entry_eq]
  generalize (lg_sl ([.ref b]) ++ List.replicate (1 - (lg_sl ([.ref b])).length) Slot.unset).toArray = ls at hl ⊢
  have hl : lv_has ls 1 [(0, .ref b)] := hl
  refine qgen (fun Q hQ => ?_)
  refine hgen (fun H locs hP hD hS => ?_) hP hD
  refine lv_aload_n hx hb dX0_init_0 rfl (lv_at hl 0 rfl) ?_
  refine W.objInit hx hb hown (hts _ q128) (hts _ q86) (hts _ q87) rfl (by rw [hml]; exact hl.1) rfl dX0_init_1 (Nat.le_of_ble_eq_true rfl) (Nat.le_of_ble_eq_true rfl) ?_
  refine W.eq (g2 := F0 m 4 ls []) rfl ?_
  refine lv_aload_n hx hb dX0_init_4 rfl (lv_at hl 0 rfl) ?_
  refine lv_bipush (v := nI 16) hx hb dX0_init_5 (by decide) ?_
  refine va_newa (D := gD G) (atype := .int) (ty := .int) (a0 := (16, .inl (fun _ => 0))) hx hb (hts _ q135) rfl hK hP hD hS hA (fun _ => rfl) (nI_pos (by omega)) (nI_clamp (by omega)) (Nat.le_of_ble_eq_true rfl) (Nat.le_of_ble_eq_true rfl) (Nat.le_of_ble_eq_true rfl) dX0_init_7 (fun q_1 cA_2 H hKn hP hD hS => ?_)
  obtain rfl := ty_one_I hK hKn
  have hP : va_P (gD G) vwCl [(b, .inr (5, [.null])), (q_1, .inl (gyI G, 16, .inl (fun _ => 0)))] H := hP
  have hD : va_D A [(b, .inr (5, [.null])), (q_1, .inl (gyI G, 16, .inl (fun _ => 0)))] := hD
  refine va_putF (D := gD G) (ci := 5) (v := .ref q_1) (ty := .array .int) (C := RX0) (T := TX0) (N := 1) hx hb hts fwX0 tyX0 tyX0_ok nmX0 hown hK hP hD hS 0 rfl rfl 0 (by decide) (hts _ q129) (fun _ h9 => h9) rfl hin rfl (by decide +kernel) rfl rfl (Nat.le_of_ble_eq_true rfl) dX0_init_9 (fun H locs hP hD hS => ?_)
  have hP : va_P (gD G) vwCl [(b, .inr (5, [.ref q_1])), (q_1, .inl (gyI G, 16, .inl (fun _ => 0)))] H := hP
  have hD : va_D A [(b, .inr (5, [.ref q_1])), (q_1, .inl (gyI G, 16, .inl (fun _ => 0)))] := hD
  have hP9 := hP.sub (ws' := [(b, .inr (5, [.ref q_1])), (q_1, .inl (gyI G, 16, .inl (fun _ => 0)))]) [0, 1] rfl
  have hD9 := hD.sub (ws' := [(b, .inr (5, [.ref q_1])), (q_1, .inl (gyI G, 16, .inl (fun _ => 0)))]) [0, 1] (by decide) rfl
  subst hQ
  exact W.vret hx hb hr (fun t ht hW => ⟨⟨(q_1, (fun _ => 0)), rfl, trivial, by rw [ht]; exact hP9, hD9⟩, hS.F ht⟩) hS.2.2 dX0_init_12
set_option maxHeartbeats 4000000 in
set_option maxRecDepth 100000 in
theorem c_X4_init (l : Launch) (G : GG) (sh : Nat) : Mv l G yX4_init cX4_init 1 ({ frames := 1, cells := 2, slots := 32, locals := 20 } : Room) [.ref sh] [(sh, .inr (9, [.null, .null, .int (nI 0)]))] (fun (u : Nat × Nat × (Nat → Int32) × (Nat → Int32)) => True) (fun (u : Nat × Nat × (Nat → Int32) × (Nat → Int32)) => [(sh, .inr (9, [.ref u.1, .ref u.2.1, .int (nI 0)])), (u.1, .inl (gyI G, 16, .inl u.2.2.1)), (u.2.1, .inl (gyI G, 16, .inl u.2.2.2))]) := by
  intro sz
  refine Met.ofW (cc := cX4_init) (maxL := 1) (ret := none) (by decide) rfl ?_
  intro p e s m args below meth c s₁ B9 hml hv
  obtain ⟨rfl, hsz, hP, hK, hD0, hE⟩ := hv
  have hx := B9.exec
  have hb := B9.bytes
  have hr := B9.returns
  have hts : ∀ w ∈ WW, w.before ([.ref sh] : List Value).toArray s = true := fun w h => atoms_spec (ws := .code yX4_init cX4_init 1 none :: WW) B9.pre w (List.mem_cons_of_mem _ h)
  have hown : s.vm.findClass RX4 = some m.cls := findClass_of_methodNamed B9.named
  have hin : meth.name = "<init>" := (name_of_methodNamed B9.named B9.method).1
  subst hsz
  have hD := hD0.self (sz := s.heap.size)
  generalize hAe : va_A [(sh, .inr (9, [.null, .null, .int (nI 0)]))] s.heap.size = A at hD hE ⊢
  have hA : ∀ q : Nat, s.heap.size ≤ q → A q := fun q h => by rw [← hAe]; exact Or.inr h
  have hl := lv_entry ([.ref sh]) (n := 1) (Nat.le_of_ble_eq_true rfl)
  rw [lg_entry_eq]
  generalize (lg_sl ([.ref sh]) ++ List.replicate (1 - (lg_sl ([.ref sh])).length) Slot.unset).toArray = ls at hl ⊢
  have hl : lv_has ls 1 [(0, .ref sh)] := hl
  refine qgen (fun Q hQ => ?_)
  refine hgen (fun H locs hP hD hS => ?_) hP hD
  refine lv_aload_n hx hb dX4_init_0 rfl (lv_at hl 0 rfl) ?_
  refine W.objInit hx hb hown (hts _ q166) (hts _ q86) (hts _ q87) rfl (by rw [hml]; exact hl.1) rfl dX4_init_1 (Nat.le_of_ble_eq_true rfl) (Nat.le_of_ble_eq_true rfl) ?_
  refine W.eq (g2 := F0 m 4 ls []) rfl ?_
  refine lv_aload_n hx hb dX4_init_4 rfl (lv_at hl 0 rfl) ?_
  refine lv_bipush (v := nI 16) hx hb dX4_init_5 (by decide) ?_
  refine va_newa (D := gD G) (atype := .int) (ty := .int) (a0 := (16, .inl (fun _ => 0))) hx hb (hts _ q135) rfl hK hP hD hS hA (fun _ => rfl) (nI_pos (by omega)) (nI_clamp (by omega)) (Nat.le_of_ble_eq_true rfl) (Nat.le_of_ble_eq_true rfl) (Nat.le_of_ble_eq_true rfl) dX4_init_7 (fun q_1 cA_2 H hKn hP hD hS => ?_)
  obtain rfl := ty_one_I hK hKn
  have hP : va_P (gD G) vwCl [(sh, .inr (9, [.null, .null, .int (nI 0)])), (q_1, .inl (gyI G, 16, .inl (fun _ => 0)))] H := hP
  have hD : va_D A [(sh, .inr (9, [.null, .null, .int (nI 0)])), (q_1, .inl (gyI G, 16, .inl (fun _ => 0)))] := hD
  refine va_putF (D := gD G) (ci := 9) (v := .ref q_1) (ty := .array .int) (C := RX4) (T := TX4) (N := 3) hx hb hts fwX4 tyX4 tyX4_ok nmX4 hown hK hP hD hS 0 rfl rfl 0 (by decide) (hts _ q167) (fun _ h9 => h9) rfl hin rfl (by decide +kernel) rfl rfl (Nat.le_of_ble_eq_true rfl) dX4_init_9 (fun H locs hP hD hS => ?_)
  have hP : va_P (gD G) vwCl [(sh, .inr (9, [.ref q_1, .null, .int (nI 0)])), (q_1, .inl (gyI G, 16, .inl (fun _ => 0)))] H := hP
  have hD : va_D A [(sh, .inr (9, [.ref q_1, .null, .int (nI 0)])), (q_1, .inl (gyI G, 16, .inl (fun _ => 0)))] := hD
  refine lv_aload_n hx hb dX4_init_12 rfl (lv_at hl 0 rfl) ?_
  refine lv_bipush (v := nI 16) hx hb dX4_init_13 (by decide) ?_
  refine va_newa (D := gD G) (atype := .int) (ty := .int) (a0 := (16, .inl (fun _ => 0))) hx hb (hts _ q135) rfl hK hP hD hS hA (fun _ => rfl) (nI_pos (by omega)) (nI_clamp (by omega)) (Nat.le_of_ble_eq_true rfl) (Nat.le_of_ble_eq_true rfl) (Nat.le_of_ble_eq_true rfl) dX4_init_15 (fun q_3 cA_4 H hKn hP hD hS => ?_)
  obtain rfl := ty_one_I hK hKn
  have hP : va_P (gD G) vwCl [(sh, .inr (9, [.ref q_1, .null, .int (nI 0)])), (q_1, .inl (gyI G, 16, .inl (fun _ => 0))), (q_3, .inl (gyI G, 16, .inl (fun _ => 0)))] H := hP
  have hD : va_D A [(sh, .inr (9, [.ref q_1, .null, .int (nI 0)])), (q_1, .inl (gyI G, 16, .inl (fun _ => 0))), (q_3, .inl (gyI G, 16, .inl (fun _ => 0)))] := hD
  refine va_putF (D := gD G) (ci := 9) (v := .ref q_3) (ty := .array .int) (C := RX4) (T := TX4) (N := 3) hx hb hts fwX4 tyX4 tyX4_ok nmX4 hown hK hP hD hS 0 rfl rfl 1 (by decide) (hts _ q168) (fun _ h9 => h9) rfl hin rfl (by decide +kernel) rfl rfl (Nat.le_of_ble_eq_true rfl) dX4_init_17 (fun H locs hP hD hS => ?_)
  have hP : va_P (gD G) vwCl [(sh, .inr (9, [.ref q_1, .ref q_3, .int (nI 0)])), (q_1, .inl (gyI G, 16, .inl (fun _ => 0))), (q_3, .inl (gyI G, 16, .inl (fun _ => 0)))] H := hP
  have hD : va_D A [(sh, .inr (9, [.ref q_1, .ref q_3, .int (nI 0)])), (q_1, .inl (gyI G, 16, .inl (fun _ => 0))), (q_3, .inl (gyI G, 16, .inl (fun _ => 0)))] := hD
  refine lv_aload_n hx hb dX4_init_20 rfl (lv_at hl 0 rfl) ?_
  refine lv_iconst (v := nI 0) hx hb dX4_init_21 (by decide) ?_
  refine va_put (D := gD G) (ci := 9) (v := .int (nI 0)) (ty := .int) (C := RX4) (T := TX4) (N := 3) hx hb hts fwX4 tyX4 tyX4_ok nmX4 hown hK hP hD hS 0 rfl rfl 2 (by decide) (hts _ q170) (fun _ h9 => h9) rfl (by decide +kernel) rfl rfl (Nat.le_of_ble_eq_true rfl) dX4_init_22 (fun H locs hP hD hS => ?_)
  have hP : va_P (gD G) vwCl [(sh, .inr (9, [.ref q_1, .ref q_3, .int (nI 0)])), (q_1, .inl (gyI G, 16, .inl (fun _ => 0))), (q_3, .inl (gyI G, 16, .inl (fun _ => 0)))] H := hP
  have hD : va_D A [(sh, .inr (9, [.ref q_1, .ref q_3, .int (nI 0)])), (q_1, .inl (gyI G, 16, .inl (fun _ => 0))), (q_3, .inl (gyI G, 16, .inl (fun _ => 0)))] := hD
  have hP9 := hP.sub (ws' := [(sh, .inr (9, [.ref q_1, .ref q_3, .int (nI 0)])), (q_1, .inl (gyI G, 16, .inl (fun _ => 0))), (q_3, .inl (gyI G, 16, .inl (fun _ => 0)))]) [0, 1, 2] rfl
  have hD9 := hD.sub (ws' := [(sh, .inr (9, [.ref q_1, .ref q_3, .int (nI 0)])), (q_1, .inl (gyI G, 16, .inl (fun _ => 0))), (q_3, .inl (gyI G, 16, .inl (fun _ => 0)))]) [0, 1, 2] (by decide) rfl
  subst hQ
  exact W.vret hx hb hr (fun t ht hW => ⟨⟨(q_1, q_3, (fun _ => 0), (fun _ => 0)), rfl, trivial, by rw [ht]; exact hP9, hD9⟩, hS.F ht⟩) hS.2.2 dX4_init_25
set_option maxHeartbeats 4000000 in
set_option maxRecDepth 100000 in
theorem c_X5_init (l : Launch) (G : GG) (sv : Nat) : Mv l G yX5_init cX5_init 1 ({ frames := 2, cells := 4, slots := 97, locals := 40 } : Room) [.ref sv] [(sv, .inr (10, [.null, .null, .null, .int (nI 0), .int (nI 0), .int (nI 0)]))] (fun (u : Nat × Nat × Nat × Nat × (Nat → Int32) × (Nat → Int32) × (Nat → Int32)) => True) (fun (u : Nat × Nat × Nat × Nat × (Nat → Int32) × (Nat → Int32) × (Nat → Int32)) => [(sv, .inr (10, [.ref u.1, .ref u.2.2.1, .ref u.2.2.2.1, .int (nI 0), .int (nI 0), .int (nI 110)])), (u.1, .inr (5, [.ref u.2.1])), (u.2.1, .inl (gyI G, 16, .inl u.2.2.2.2.1)), (u.2.2.1, .inl (gyI G, 64, .inl u.2.2.2.2.2.1)), (u.2.2.2.1, .inl (gyI G, 16, .inl u.2.2.2.2.2.2))]) := by
  intro sz
  refine Met.ofW (cc := cX5_init) (maxL := 1) (ret := none) (by decide) rfl ?_
  intro p e s m args below meth c s₁ B9 hml hv
  obtain ⟨rfl, hsz, hP, hK, hD0, hE⟩ := hv
  have hx := B9.exec
  have hb := B9.bytes
  have hr := B9.returns
  have hts : ∀ w ∈ WW, w.before ([.ref sv] : List Value).toArray s = true := fun w h => atoms_spec (ws := .code yX5_init cX5_init 1 none :: WW) B9.pre w (List.mem_cons_of_mem _ h)
  have hown : s.vm.findClass RX5 = some m.cls := findClass_of_methodNamed B9.named
  have hin : meth.name = "<init>" := (name_of_methodNamed B9.named B9.method).1
  subst hsz
  have hD := hD0.self (sz := s.heap.size)
  generalize hAe : va_A [(sv, .inr (10, [.null, .null, .null, .int (nI 0), .int (nI 0), .int (nI 0)]))] s.heap.size = A at hD hE ⊢
  have hA : ∀ q : Nat, s.heap.size ≤ q → A q := fun q h => by rw [← hAe]; exact Or.inr h
  have hl := lv_entry ([.ref sv]) (n := 1) (Nat.le_of_ble_eq_true rfl)
  rw [lg_entry_eq]
  generalize (lg_sl ([.ref sv]) ++ List.replicate (1 - (lg_sl ([.ref sv])).length) Slot.unset).toArray = ls at hl ⊢
  have hl : lv_has ls 1 [(0, .ref sv)] := hl
  refine qgen (fun Q hQ => ?_)
  refine hgen (fun H locs hP hD hS => ?_) hP hD
  refine lv_aload_n hx hb dX5_init_0 rfl (lv_at hl 0 rfl) ?_
  refine W.objInit hx hb hown (hts _ q122) (hts _ q86) (hts _ q87) rfl (by rw [hml]; exact hl.1) rfl dX5_init_1 (Nat.le_of_ble_eq_true rfl) (Nat.le_of_ble_eq_true rfl) ?_
  refine W.eq (g2 := F0 m 4 ls []) rfl ?_
  refine lv_aload_n hx hb dX5_init_4 rfl (lv_at hl 0 rfl) ?_
  refine va_new (D := gD G) (ci := 5) (fs := [.null]) (C := RX0) (T := TX0) (N := 1) hx hb hts fwX0 tyX0 tyX0_ok hown (hts _ q123) (hts _ q124) (hts _ q50) hK hP hD hS hA rfl (fun j hj => by rcases (show j = 0 by omega) with rfl <;> rfl) (Nat.le_of_ble_eq_true rfl) (Nat.le_of_ble_eq_true rfl) dX5_init_5 (fun q_1 H hP hD hS => ?_)
  have hP : va_P (gD G) vwCl [(sv, .inr (10, [.null, .null, .null, .int (nI 0), .int (nI 0), .int (nI 0)])), (q_1, .inr (5, [.null]))] H := hP
  have hD : va_D A [(sv, .inr (10, [.null, .null, .null, .int (nI 0), .int (nI 0), .int (nI 0)])), (q_1, .inr (5, [.null]))] := hD
  refine lv_dup hx hb dX5_init_8 rfl ?_
  refine fin_v hP hD hS hA [1] [0] (wr := [(sv, .inr (10, [.null, .null, .null, .int (nI 0), .int (nI 0), .int (nI 0)]))]) rfl rfl (by decide) (by decide) (va_runIN (As := []) (rest := [.ref q_1, .ref sv]) ⟨hx, hb, hml, hown, hts⟩ (c_X0_init l G q_1 H.size) ⟨(va_cnB 0 hts (gI q127) rfl rfl rfl (hE.1.1 _ nq125) (hts _ q50) (by decide +kernel) ⟨Nat.le_of_ble_eq_true rfl, Nat.le_of_ble_eq_true rfl⟩), rfl, hts _ q126⟩ (preS hK hE hP hD hS hA [1] rfl (by decide)) rfl rfl hl.1 rfl (lv_room (Nat.le_of_ble_eq_true rfl)) dX5_init_9 ⟨Nat.le_of_ble_eq_true rfl, Nat.le_of_ble_eq_true rfl⟩) (fun u9 hw_4 H locs hP hD hS => ?_)
  obtain ⟨mm_2, f_3⟩ := u9
  have hP : va_P (gD G) vwCl [(sv, .inr (10, [.null, .null, .null, .int (nI 0), .int (nI 0), .int (nI 0)])), (q_1, .inr (5, [.ref mm_2])), (mm_2, .inl (gyI G, 16, .inl f_3))] H := hP
  have hD : va_D A [(sv, .inr (10, [.null, .null, .null, .int (nI 0), .int (nI 0), .int (nI 0)])), (q_1, .inr (5, [.ref mm_2])), (mm_2, .inl (gyI G, 16, .inl f_3))] := hD
  refine va_putF (D := gD G) (ci := 10) (v := .ref q_1) (ty := .object "Pegboardry$Board") (C := RX5) (T := TX5) (N := 6) hx hb hts fwX5 tyX5 tyX5_ok nmX5 hown hK hP hD hS 0 rfl rfl 0 (by decide) (hts _ q136) (fun _ h9 => h9) rfl hin rfl (by decide +kernel) rfl rfl (Nat.le_of_ble_eq_true rfl) dX5_init_12 (fun H locs hP hD hS => ?_)
  have hP : va_P (gD G) vwCl [(sv, .inr (10, [.ref q_1, .null, .null, .int (nI 0), .int (nI 0), .int (nI 0)])), (q_1, .inr (5, [.ref mm_2])), (mm_2, .inl (gyI G, 16, .inl f_3))] H := hP
  have hD : va_D A [(sv, .inr (10, [.ref q_1, .null, .null, .int (nI 0), .int (nI 0), .int (nI 0)])), (q_1, .inr (5, [.ref mm_2])), (mm_2, .inl (gyI G, 16, .inl f_3))] := hD
  refine lv_aload_n hx hb dX5_init_15 rfl (lv_at hl 0 rfl) ?_
  refine lv_bipush (v := nI 64) hx hb dX5_init_16 (by decide) ?_
  refine va_newa (D := gD G) (atype := .int) (ty := .int) (a0 := (64, .inl (fun _ => 0))) hx hb (hts _ q135) rfl hK hP hD hS hA (fun _ => rfl) (nI_pos (by omega)) (nI_clamp (by omega)) (Nat.le_of_ble_eq_true rfl) (Nat.le_of_ble_eq_true rfl) (Nat.le_of_ble_eq_true rfl) dX5_init_18 (fun q_6 cA_7 H hKn hP hD hS => ?_)
  obtain rfl := ty_one_I hK hKn
  have hP : va_P (gD G) vwCl [(sv, .inr (10, [.ref q_1, .null, .null, .int (nI 0), .int (nI 0), .int (nI 0)])), (q_1, .inr (5, [.ref mm_2])), (mm_2, .inl (gyI G, 16, .inl f_3)), (q_6, .inl (gyI G, 64, .inl (fun _ => 0)))] H := hP
  have hD : va_D A [(sv, .inr (10, [.ref q_1, .null, .null, .int (nI 0), .int (nI 0), .int (nI 0)])), (q_1, .inr (5, [.ref mm_2])), (mm_2, .inl (gyI G, 16, .inl f_3)), (q_6, .inl (gyI G, 64, .inl (fun _ => 0)))] := hD
  refine va_putF (D := gD G) (ci := 10) (v := .ref q_6) (ty := .array .int) (C := RX5) (T := TX5) (N := 6) hx hb hts fwX5 tyX5 tyX5_ok nmX5 hown hK hP hD hS 0 rfl rfl 1 (by decide) (hts _ q138) (fun _ h9 => h9) rfl hin rfl (by decide +kernel) rfl rfl (Nat.le_of_ble_eq_true rfl) dX5_init_20 (fun H locs hP hD hS => ?_)
  have hP : va_P (gD G) vwCl [(sv, .inr (10, [.ref q_1, .ref q_6, .null, .int (nI 0), .int (nI 0), .int (nI 0)])), (q_1, .inr (5, [.ref mm_2])), (mm_2, .inl (gyI G, 16, .inl f_3)), (q_6, .inl (gyI G, 64, .inl (fun _ => 0)))] H := hP
  have hD : va_D A [(sv, .inr (10, [.ref q_1, .ref q_6, .null, .int (nI 0), .int (nI 0), .int (nI 0)])), (q_1, .inr (5, [.ref mm_2])), (mm_2, .inl (gyI G, 16, .inl f_3)), (q_6, .inl (gyI G, 64, .inl (fun _ => 0)))] := hD
  refine lv_aload_n hx hb dX5_init_23 rfl (lv_at hl 0 rfl) ?_
  refine lv_bipush (v := nI 16) hx hb dX5_init_24 (by decide) ?_
  refine va_newa (D := gD G) (atype := .int) (ty := .int) (a0 := (16, .inl (fun _ => 0))) hx hb (hts _ q135) rfl hK hP hD hS hA (fun _ => rfl) (nI_pos (by omega)) (nI_clamp (by omega)) (Nat.le_of_ble_eq_true rfl) (Nat.le_of_ble_eq_true rfl) (Nat.le_of_ble_eq_true rfl) dX5_init_26 (fun q_8 cA_9 H hKn hP hD hS => ?_)
  obtain rfl := ty_one_I hK hKn
  have hP : va_P (gD G) vwCl [(sv, .inr (10, [.ref q_1, .ref q_6, .null, .int (nI 0), .int (nI 0), .int (nI 0)])), (q_1, .inr (5, [.ref mm_2])), (mm_2, .inl (gyI G, 16, .inl f_3)), (q_6, .inl (gyI G, 64, .inl (fun _ => 0))), (q_8, .inl (gyI G, 16, .inl (fun _ => 0)))] H := hP
  have hD : va_D A [(sv, .inr (10, [.ref q_1, .ref q_6, .null, .int (nI 0), .int (nI 0), .int (nI 0)])), (q_1, .inr (5, [.ref mm_2])), (mm_2, .inl (gyI G, 16, .inl f_3)), (q_6, .inl (gyI G, 64, .inl (fun _ => 0))), (q_8, .inl (gyI G, 16, .inl (fun _ => 0)))] := hD
  refine va_putF (D := gD G) (ci := 10) (v := .ref q_8) (ty := .array .int) (C := RX5) (T := TX5) (N := 6) hx hb hts fwX5 tyX5 tyX5_ok nmX5 hown hK hP hD hS 0 rfl rfl 2 (by decide) (hts _ q140) (fun _ h9 => h9) rfl hin rfl (by decide +kernel) rfl rfl (Nat.le_of_ble_eq_true rfl) dX5_init_28 (fun H locs hP hD hS => ?_)
  have hP : va_P (gD G) vwCl [(sv, .inr (10, [.ref q_1, .ref q_6, .ref q_8, .int (nI 0), .int (nI 0), .int (nI 0)])), (q_1, .inr (5, [.ref mm_2])), (mm_2, .inl (gyI G, 16, .inl f_3)), (q_6, .inl (gyI G, 64, .inl (fun _ => 0))), (q_8, .inl (gyI G, 16, .inl (fun _ => 0)))] H := hP
  have hD : va_D A [(sv, .inr (10, [.ref q_1, .ref q_6, .ref q_8, .int (nI 0), .int (nI 0), .int (nI 0)])), (q_1, .inr (5, [.ref mm_2])), (mm_2, .inl (gyI G, 16, .inl f_3)), (q_6, .inl (gyI G, 64, .inl (fun _ => 0))), (q_8, .inl (gyI G, 16, .inl (fun _ => 0)))] := hD
  refine lv_aload_n hx hb dX5_init_31 rfl (lv_at hl 0 rfl) ?_
  refine lv_iconst (v := nI 0) hx hb dX5_init_32 (by decide) ?_
  refine va_put (D := gD G) (ci := 10) (v := .int (nI 0)) (ty := .int) (C := RX5) (T := TX5) (N := 6) hx hb hts fwX5 tyX5 tyX5_ok nmX5 hown hK hP hD hS 0 rfl rfl 3 (by decide) (hts _ q142) (fun _ h9 => h9) rfl (by decide +kernel) rfl rfl (Nat.le_of_ble_eq_true rfl) dX5_init_33 (fun H locs hP hD hS => ?_)
  have hP : va_P (gD G) vwCl [(sv, .inr (10, [.ref q_1, .ref q_6, .ref q_8, .int (nI 0), .int (nI 0), .int (nI 0)])), (q_1, .inr (5, [.ref mm_2])), (mm_2, .inl (gyI G, 16, .inl f_3)), (q_6, .inl (gyI G, 64, .inl (fun _ => 0))), (q_8, .inl (gyI G, 16, .inl (fun _ => 0)))] H := hP
  have hD : va_D A [(sv, .inr (10, [.ref q_1, .ref q_6, .ref q_8, .int (nI 0), .int (nI 0), .int (nI 0)])), (q_1, .inr (5, [.ref mm_2])), (mm_2, .inl (gyI G, 16, .inl f_3)), (q_6, .inl (gyI G, 64, .inl (fun _ => 0))), (q_8, .inl (gyI G, 16, .inl (fun _ => 0)))] := hD
  refine lv_aload_n hx hb dX5_init_36 rfl (lv_at hl 0 rfl) ?_
  refine lv_iconst (v := nI 0) hx hb dX5_init_37 (by decide) ?_
  refine va_put (D := gD G) (ci := 10) (v := .int (nI 0)) (ty := .int) (C := RX5) (T := TX5) (N := 6) hx hb hts fwX5 tyX5 tyX5_ok nmX5 hown hK hP hD hS 0 rfl rfl 4 (by decide) (hts _ q144) (fun _ h9 => h9) rfl (by decide +kernel) rfl rfl (Nat.le_of_ble_eq_true rfl) dX5_init_38 (fun H locs hP hD hS => ?_)
  have hP : va_P (gD G) vwCl [(sv, .inr (10, [.ref q_1, .ref q_6, .ref q_8, .int (nI 0), .int (nI 0), .int (nI 0)])), (q_1, .inr (5, [.ref mm_2])), (mm_2, .inl (gyI G, 16, .inl f_3)), (q_6, .inl (gyI G, 64, .inl (fun _ => 0))), (q_8, .inl (gyI G, 16, .inl (fun _ => 0)))] H := hP
  have hD : va_D A [(sv, .inr (10, [.ref q_1, .ref q_6, .ref q_8, .int (nI 0), .int (nI 0), .int (nI 0)])), (q_1, .inr (5, [.ref mm_2])), (mm_2, .inl (gyI G, 16, .inl f_3)), (q_6, .inl (gyI G, 64, .inl (fun _ => 0))), (q_8, .inl (gyI G, 16, .inl (fun _ => 0)))] := hD
  refine lv_aload_n hx hb dX5_init_41 rfl (lv_at hl 0 rfl) ?_
  refine lv_bipush (v := nI 110) hx hb dX5_init_42 (by decide) ?_
  refine va_put (D := gD G) (ci := 10) (v := .int (nI 110)) (ty := .char) (C := RX5) (T := TX5) (N := 6) hx hb hts fwX5 tyX5 tyX5_ok nmX5 hown hK hP hD hS 0 rfl rfl 5 (by decide) (hts _ q146) (fun _ h9 => h9) rfl (by decide +kernel) (by decide) (by decide) (Nat.le_of_ble_eq_true rfl) dX5_init_44 (fun H locs hP hD hS => ?_)
  have hP : va_P (gD G) vwCl [(sv, .inr (10, [.ref q_1, .ref q_6, .ref q_8, .int (nI 0), .int (nI 0), .int (nI 110)])), (q_1, .inr (5, [.ref mm_2])), (mm_2, .inl (gyI G, 16, .inl f_3)), (q_6, .inl (gyI G, 64, .inl (fun _ => 0))), (q_8, .inl (gyI G, 16, .inl (fun _ => 0)))] H := hP
  have hD : va_D A [(sv, .inr (10, [.ref q_1, .ref q_6, .ref q_8, .int (nI 0), .int (nI 0), .int (nI 110)])), (q_1, .inr (5, [.ref mm_2])), (mm_2, .inl (gyI G, 16, .inl f_3)), (q_6, .inl (gyI G, 64, .inl (fun _ => 0))), (q_8, .inl (gyI G, 16, .inl (fun _ => 0)))] := hD
  have hP9 := hP.sub (ws' := [(sv, .inr (10, [.ref q_1, .ref q_6, .ref q_8, .int (nI 0), .int (nI 0), .int (nI 110)])), (q_1, .inr (5, [.ref mm_2])), (mm_2, .inl (gyI G, 16, .inl f_3)), (q_6, .inl (gyI G, 64, .inl (fun _ => 0))), (q_8, .inl (gyI G, 16, .inl (fun _ => 0)))]) [0, 1, 2, 3, 4] rfl
  have hD9 := hD.sub (ws' := [(sv, .inr (10, [.ref q_1, .ref q_6, .ref q_8, .int (nI 0), .int (nI 0), .int (nI 110)])), (q_1, .inr (5, [.ref mm_2])), (mm_2, .inl (gyI G, 16, .inl f_3)), (q_6, .inl (gyI G, 64, .inl (fun _ => 0))), (q_8, .inl (gyI G, 16, .inl (fun _ => 0)))]) [0, 1, 2, 3, 4] (by decide) rfl
  subst hQ
  exact W.vret hx hb hr (fun t ht hW => ⟨⟨(q_1, mm_2, q_6, q_8, f_3, (fun _ => 0), (fun _ => 0)), rfl, trivial, by rw [ht]; exact hP9, hD9⟩, hS.F ht⟩) hS.2.2 dX5_init_47
set_option maxHeartbeats 4000000 in
set_option maxRecDepth 100000 in
theorem c_X2_init (l : Launch) (G : GG) (dr : Nat) (sd : Nat) (hsd : sd ≤ 9999) : Mv l G yX2_init cX2_init 2 ({ frames := 1, cells := 0, slots := 0, locals := 20 } : Room) [.ref dr, .int (nI sd)] [(dr, .inr (7, [.long (lN 0)]))] (fun (u : Unit) => True) (fun (u : Unit) => [(dr, .inr (7, [.long (lN sd)]))]) := by
  intro sz
  refine Met.ofW (cc := cX2_init) (maxL := 2) (ret := none) (by decide) rfl ?_
  intro p e s m args below meth c s₁ B9 hml hv
  obtain ⟨rfl, hsz, hP, hK, hD0, hE⟩ := hv
  have hx := B9.exec
  have hb := B9.bytes
  have hr := B9.returns
  have hts : ∀ w ∈ WW, w.before ([.ref dr, .int (nI sd)] : List Value).toArray s = true := fun w h => atoms_spec (ws := .code yX2_init cX2_init 2 none :: WW) B9.pre w (List.mem_cons_of_mem _ h)
  have hown : s.vm.findClass RX2 = some m.cls := findClass_of_methodNamed B9.named
  have hin : meth.name = "<init>" := (name_of_methodNamed B9.named B9.method).1
  subst hsz
  have hD := hD0.self (sz := s.heap.size)
  generalize hAe : va_A [(dr, .inr (7, [.long (lN 0)]))] s.heap.size = A at hD hE ⊢
  have hA : ∀ q : Nat, s.heap.size ≤ q → A q := fun q h => by rw [← hAe]; exact Or.inr h
  have hl := lv_entry ([.ref dr, .int (nI sd)]) (n := 2) (Nat.le_of_ble_eq_true rfl)
  rw [lg_entry_eq]
  generalize (lg_sl ([.ref dr, .int (nI sd)]) ++ List.replicate (2 - (lg_sl ([.ref dr, .int (nI sd)])).length) Slot.unset).toArray = ls at hl ⊢
  have hl : lv_has ls 2 [(0, .ref dr), (1, .int (nI sd))] := hl
  refine qgen (fun Q hQ => ?_)
  refine hgen (fun H locs hP hD hS => ?_) hP hD
  refine lv_aload_n hx hb dX2_init_0 rfl (lv_at hl 0 rfl) ?_
  refine W.objInit hx hb hown (hts _ q670) (hts _ q86) (hts _ q87) rfl (by rw [hml]; exact hl.1) rfl dX2_init_1 (Nat.le_of_ble_eq_true rfl) (Nat.le_of_ble_eq_true rfl) ?_
  refine W.eq (g2 := F0 m 4 ls []) rfl ?_
  refine lv_aload_n hx hb dX2_init_4 rfl (lv_at hl 0 rfl) ?_
  refine lv_iload_n hx hb dX2_init_5 rfl (lv_at hl 1 rfl) ?_
  refine lv_i2l (v := lN sd) hx hb dX2_init_6 (nI_l (by omega)) ?_
  refine va_put (D := gD G) (ci := 7) (v := .long (lN sd)) (ty := .long) (C := RX2) (T := TX2) (N := 1) hx hb hts fwX2 tyX2 tyX2_ok nmX2 hown hK hP hD hS 0 rfl rfl 0 (by decide) (hts _ q671) (fun _ h9 => h9) rfl (by decide +kernel) rfl rfl (Nat.le_of_ble_eq_true rfl) dX2_init_7 (fun H locs hP hD hS => ?_)
  have hP : va_P (gD G) vwCl [(dr, .inr (7, [.long (lN sd)]))] H := hP
  have hD : va_D A [(dr, .inr (7, [.long (lN sd)]))] := hD
  have hP9 := hP.sub (ws' := [(dr, .inr (7, [.long (lN sd)]))]) [0] rfl
  have hD9 := hD.sub (ws' := [(dr, .inr (7, [.long (lN sd)]))]) [0] (by decide) rfl
  subst hQ
  exact W.vret hx hb hr (fun t ht hW => ⟨⟨(), rfl, trivial, by rw [ht]; exact hP9, hD9⟩, hS.F ht⟩) hS.2.2 dX2_init_10
set_option maxHeartbeats 4000000 in
set_option maxRecDepth 100000 in
theorem c_X3_init (l : Launch) (G : GG) (pz : Nat) : Mv l G yX3_init cX3_init 1 ({ frames := 4, cells := 11, slots := 173, locals := 80 } : Room) [.ref pz] [(pz, .inr (8, [.null, .null, .null, .null, .null, .int (nI 0), .int (nI 0)]))] (fun (u : Nat × Nat × Nat × Nat × Nat × (Nat → Int32)) => True) (fun (u : Nat × Nat × Nat × Nat × Nat × (Nat → Int32)) => [(pz, .inr (8, [.ref u.1, .ref u.2.1, .ref u.2.2.1, .ref u.2.2.2.1, .ref u.2.2.2.2.1, .int (nI 0), .int (nI 0)])), (u.1, .inl (gyI G, 16, .inl u.2.2.2.2.2))]) := by
  intro sz
  refine Met.ofW (cc := cX3_init) (maxL := 1) (ret := none) (by decide) rfl ?_
  intro p e s m args below meth c s₁ B9 hml hv
  obtain ⟨rfl, hsz, hP, hK, hD0, hE⟩ := hv
  have hx := B9.exec
  have hb := B9.bytes
  have hr := B9.returns
  have hts : ∀ w ∈ WW, w.before ([.ref pz] : List Value).toArray s = true := fun w h => atoms_spec (ws := .code yX3_init cX3_init 1 none :: WW) B9.pre w (List.mem_cons_of_mem _ h)
  have hown : s.vm.findClass RX3 = some m.cls := findClass_of_methodNamed B9.named
  have hin : meth.name = "<init>" := (name_of_methodNamed B9.named B9.method).1
  subst hsz
  have hD := hD0.self (sz := s.heap.size)
  generalize hAe : va_A [(pz, .inr (8, [.null, .null, .null, .null, .null, .int (nI 0), .int (nI 0)]))] s.heap.size = A at hD hE ⊢
  have hA : ∀ q : Nat, s.heap.size ≤ q → A q := fun q h => by rw [← hAe]; exact Or.inr h
  have hl := lv_entry ([.ref pz]) (n := 1) (Nat.le_of_ble_eq_true rfl)
  rw [lg_entry_eq]
  generalize (lg_sl ([.ref pz]) ++ List.replicate (1 - (lg_sl ([.ref pz])).length) Slot.unset).toArray = ls at hl ⊢
  have hl : lv_has ls 1 [(0, .ref pz)] := hl
  refine qgen (fun Q hQ => ?_)
  refine hgen (fun H locs hP hD hS => ?_) hP hD
  refine lv_aload_n hx hb dX3_init_0 rfl (lv_at hl 0 rfl) ?_
  refine W.objInit hx hb hown (hts _ q432) (hts _ q86) (hts _ q87) rfl (by rw [hml]; exact hl.1) rfl dX3_init_1 (Nat.le_of_ble_eq_true rfl) (Nat.le_of_ble_eq_true rfl) ?_
  refine W.eq (g2 := F0 m 4 ls []) rfl ?_
  refine lv_aload_n hx hb dX3_init_4 rfl (lv_at hl 0 rfl) ?_
  refine lv_bipush (v := nI 16) hx hb dX3_init_5 (by decide) ?_
  refine va_newa (D := gD G) (atype := .int) (ty := .int) (a0 := (16, .inl (fun _ => 0))) hx hb (hts _ q135) rfl hK hP hD hS hA (fun _ => rfl) (nI_pos (by omega)) (nI_clamp (by omega)) (Nat.le_of_ble_eq_true rfl) (Nat.le_of_ble_eq_true rfl) (Nat.le_of_ble_eq_true rfl) dX3_init_7 (fun q_1 cA_2 H hKn hP hD hS => ?_)
  obtain rfl := ty_one_I hK hKn
  have hP : va_P (gD G) vwCl [(pz, .inr (8, [.null, .null, .null, .null, .null, .int (nI 0), .int (nI 0)])), (q_1, .inl (gyI G, 16, .inl (fun _ => 0)))] H := hP
  have hD : va_D A [(pz, .inr (8, [.null, .null, .null, .null, .null, .int (nI 0), .int (nI 0)])), (q_1, .inl (gyI G, 16, .inl (fun _ => 0)))] := hD
  refine va_putF (D := gD G) (ci := 8) (v := .ref q_1) (ty := .array .int) (C := RX3) (T := TX3) (N := 7) hx hb hts fwX3 tyX3 tyX3_ok nmX3 hown hK hP hD hS 0 rfl rfl 0 (by decide) (hts _ q439) (fun _ h9 => h9) rfl hin rfl (by decide +kernel) rfl rfl (Nat.le_of_ble_eq_true rfl) dX3_init_9 (fun H locs hP hD hS => ?_)
  have hP : va_P (gD G) vwCl [(pz, .inr (8, [.ref q_1, .null, .null, .null, .null, .int (nI 0), .int (nI 0)])), (q_1, .inl (gyI G, 16, .inl (fun _ => 0)))] H := hP
  have hD : va_D A [(pz, .inr (8, [.ref q_1, .null, .null, .null, .null, .int (nI 0), .int (nI 0)])), (q_1, .inl (gyI G, 16, .inl (fun _ => 0)))] := hD
  refine lv_aload_n hx hb dX3_init_12 rfl (lv_at hl 0 rfl) ?_
  refine lv_bipush (v := nI 16) hx hb dX3_init_13 (by decide) ?_
  refine va_newa (D := gD G) (atype := .int) (ty := .int) (a0 := (16, .inl (fun _ => 0))) hx hb (hts _ q135) rfl hK hP hD hS hA (fun _ => rfl) (nI_pos (by omega)) (nI_clamp (by omega)) (Nat.le_of_ble_eq_true rfl) (Nat.le_of_ble_eq_true rfl) (Nat.le_of_ble_eq_true rfl) dX3_init_15 (fun q_3 cA_4 H hKn hP hD hS => ?_)
  obtain rfl := ty_one_I hK hKn
  have hP : va_P (gD G) vwCl [(pz, .inr (8, [.ref q_1, .null, .null, .null, .null, .int (nI 0), .int (nI 0)])), (q_1, .inl (gyI G, 16, .inl (fun _ => 0))), (q_3, .inl (gyI G, 16, .inl (fun _ => 0)))] H := hP
  have hD : va_D A [(pz, .inr (8, [.ref q_1, .null, .null, .null, .null, .int (nI 0), .int (nI 0)])), (q_1, .inl (gyI G, 16, .inl (fun _ => 0))), (q_3, .inl (gyI G, 16, .inl (fun _ => 0)))] := hD
  refine va_putF (D := gD G) (ci := 8) (v := .ref q_3) (ty := .array .int) (C := RX3) (T := TX3) (N := 7) hx hb hts fwX3 tyX3 tyX3_ok nmX3 hown hK hP hD hS 0 rfl rfl 1 (by decide) (hts _ q443) (fun _ h9 => h9) rfl hin rfl (by decide +kernel) rfl rfl (Nat.le_of_ble_eq_true rfl) dX3_init_17 (fun H locs hP hD hS => ?_)
  have hP : va_P (gD G) vwCl [(pz, .inr (8, [.ref q_1, .ref q_3, .null, .null, .null, .int (nI 0), .int (nI 0)])), (q_1, .inl (gyI G, 16, .inl (fun _ => 0))), (q_3, .inl (gyI G, 16, .inl (fun _ => 0)))] H := hP
  have hD : va_D A [(pz, .inr (8, [.ref q_1, .ref q_3, .null, .null, .null, .int (nI 0), .int (nI 0)])), (q_1, .inl (gyI G, 16, .inl (fun _ => 0))), (q_3, .inl (gyI G, 16, .inl (fun _ => 0)))] := hD
  refine lv_aload_n hx hb dX3_init_20 rfl (lv_at hl 0 rfl) ?_
  refine va_new (D := gD G) (ci := 4) (fs := [.int 0, .null, .int 0]) (C := RJx4a65c) (T := TJx4a65c) (N := 3) hx hb hts fwJx4a65c tyJx4a65c tyJx4a65c_ok hown (hts _ q433) (hts _ q89) (hts _ q48) hK hP hD hS hA rfl (fun j hj => by rcases (show j = 0 ∨ j = 1 ∨ j = 2 by omega) with rfl | rfl | rfl <;> rfl) (Nat.le_of_ble_eq_true rfl) (Nat.le_of_ble_eq_true rfl) dX3_init_21 (fun q_5 H hP hD hS => ?_)
  have hP : va_P (gD G) vwCl [(pz, .inr (8, [.ref q_1, .ref q_3, .null, .null, .null, .int (nI 0), .int (nI 0)])), (q_1, .inl (gyI G, 16, .inl (fun _ => 0))), (q_3, .inl (gyI G, 16, .inl (fun _ => 0))), (q_5, .inr (4, [.int (nI 0), .null, .int (nI 0)]))] H := hP
  have hD : va_D A [(pz, .inr (8, [.ref q_1, .ref q_3, .null, .null, .null, .int (nI 0), .int (nI 0)])), (q_1, .inl (gyI G, 16, .inl (fun _ => 0))), (q_3, .inl (gyI G, 16, .inl (fun _ => 0))), (q_5, .inr (4, [.int (nI 0), .null, .int (nI 0)]))] := hD
  refine lv_dup hx hb dX3_init_24 rfl ?_
  refine fin_v hP hD hS hA [3] [0, 1, 2] (wr := [(pz, .inr (8, [.ref q_1, .ref q_3, .null, .null, .null, .int (nI 0), .int (nI 0)])), (q_1, .inl (gyI G, 16, .inl (fun _ => 0))), (q_3, .inl (gyI G, 16, .inl (fun _ => 0)))]) rfl rfl (by decide) (by decide) (va_runI (As := []) (rest := [.ref q_5, .ref pz]) ⟨hx, hb, hml, hown, hts⟩ (c_Jx4a65c_init_da8c8 l G q_5 H.size) (cwI 0 hts (gI q92) rfl rfl rfl (hts _ q48) (hts _ q434) (hts _ q91) rfl (by decide +kernel) ⟨Nat.le_of_ble_eq_true rfl, Nat.le_of_ble_eq_true rfl⟩) (preS hK hE hP hD hS hA [3] rfl (by decide)) rfl rfl hl.1 rfl (lv_room (Nat.le_of_ble_eq_true rfl)) dX3_init_25 ⟨Nat.le_of_ble_eq_true rfl, Nat.le_of_ble_eq_true rfl⟩) (fun u9 hw_6 H locs hP hD hS => ?_)
  have hP : va_P (gD G) vwCl [(pz, .inr (8, [.ref q_1, .ref q_3, .null, .null, .null, .int (nI 0), .int (nI 0)])), (q_1, .inl (gyI G, 16, .inl (fun _ => 0))), (q_3, .inl (gyI G, 16, .inl (fun _ => 0))), (q_5, .inr (4, [.int (nI 0), .ref (gE G), .int (nI 0)]))] H := hP
  have hD : va_D A [(pz, .inr (8, [.ref q_1, .ref q_3, .null, .null, .null, .int (nI 0), .int (nI 0)])), (q_1, .inl (gyI G, 16, .inl (fun _ => 0))), (q_3, .inl (gyI G, 16, .inl (fun _ => 0))), (q_5, .inr (4, [.int (nI 0), .ref (gE G), .int (nI 0)]))] := hD
  refine va_putF (D := gD G) (ci := 8) (v := .ref q_5) (ty := .object "java/util/ArrayList") (C := RX3) (T := TX3) (N := 7) hx hb hts fwX3 tyX3 tyX3_ok nmX3 hown hK hP hD hS 0 rfl rfl 2 (by decide) (hts _ q445) (fun _ h9 => h9) rfl hin rfl (by decide +kernel) rfl rfl (Nat.le_of_ble_eq_true rfl) dX3_init_28 (fun H locs hP hD hS => ?_)
  have hP : va_P (gD G) vwCl [(pz, .inr (8, [.ref q_1, .ref q_3, .ref q_5, .null, .null, .int (nI 0), .int (nI 0)])), (q_1, .inl (gyI G, 16, .inl (fun _ => 0))), (q_3, .inl (gyI G, 16, .inl (fun _ => 0))), (q_5, .inr (4, [.int (nI 0), .ref (gE G), .int (nI 0)]))] H := hP
  have hD : va_D A [(pz, .inr (8, [.ref q_1, .ref q_3, .ref q_5, .null, .null, .int (nI 0), .int (nI 0)])), (q_1, .inl (gyI G, 16, .inl (fun _ => 0))), (q_3, .inl (gyI G, 16, .inl (fun _ => 0))), (q_5, .inr (4, [.int (nI 0), .ref (gE G), .int (nI 0)]))] := hD
  refine lv_aload_n hx hb dX3_init_31 rfl (lv_at hl 0 rfl) ?_
  refine va_new (D := gD G) (ci := 10) (fs := [.null, .null, .null, .int 0, .int 0, .int 0]) (C := RX5) (T := TX5) (N := 6) hx hb hts fwX5 tyX5 tyX5_ok hown (hts _ q435) (hts _ q118) (hts _ q49) hK hP hD hS hA rfl (fun j hj => by rcases (show j = 0 ∨ j = 1 ∨ j = 2 ∨ j = 3 ∨ j = 4 ∨ j = 5 by omega) with rfl | rfl | rfl | rfl | rfl | rfl <;> rfl) (Nat.le_of_ble_eq_true rfl) (Nat.le_of_ble_eq_true rfl) dX3_init_32 (fun q_8 H hP hD hS => ?_)
  have hP : va_P (gD G) vwCl [(pz, .inr (8, [.ref q_1, .ref q_3, .ref q_5, .null, .null, .int (nI 0), .int (nI 0)])), (q_1, .inl (gyI G, 16, .inl (fun _ => 0))), (q_3, .inl (gyI G, 16, .inl (fun _ => 0))), (q_5, .inr (4, [.int (nI 0), .ref (gE G), .int (nI 0)])), (q_8, .inr (10, [.null, .null, .null, .int (nI 0), .int (nI 0), .int (nI 0)]))] H := hP
  have hD : va_D A [(pz, .inr (8, [.ref q_1, .ref q_3, .ref q_5, .null, .null, .int (nI 0), .int (nI 0)])), (q_1, .inl (gyI G, 16, .inl (fun _ => 0))), (q_3, .inl (gyI G, 16, .inl (fun _ => 0))), (q_5, .inr (4, [.int (nI 0), .ref (gE G), .int (nI 0)])), (q_8, .inr (10, [.null, .null, .null, .int (nI 0), .int (nI 0), .int (nI 0)]))] := hD
  refine lv_dup hx hb dX3_init_35 rfl ?_
  refine fin_v hP hD hS hA [4] [0, 1, 2, 3] (wr := [(pz, .inr (8, [.ref q_1, .ref q_3, .ref q_5, .null, .null, .int (nI 0), .int (nI 0)])), (q_1, .inl (gyI G, 16, .inl (fun _ => 0))), (q_3, .inl (gyI G, 16, .inl (fun _ => 0))), (q_5, .inr (4, [.int (nI 0), .ref (gE G), .int (nI 0)]))]) rfl rfl (by decide) (by decide) (va_runIN (As := []) (rest := [.ref q_8, .ref pz]) ⟨hx, hb, hml, hown, hts⟩ (c_X5_init l G q_8 H.size) ⟨(va_cnB 0 hts (gI q121) rfl rfl rfl (hE.1.1 _ nq436) (hts _ q49) (by decide +kernel) ⟨Nat.le_of_ble_eq_true rfl, Nat.le_of_ble_eq_true rfl⟩), rfl, hts _ q120⟩ (preS hK hE hP hD hS hA [4] rfl (by decide)) rfl rfl hl.1 rfl (lv_room (Nat.le_of_ble_eq_true rfl)) dX3_init_36 ⟨Nat.le_of_ble_eq_true rfl, Nat.le_of_ble_eq_true rfl⟩) (fun u9 hw_16 H locs hP hD hS => ?_)
  obtain ⟨b_9, mm_10, sr_11, se_12, f_13, g_14, hh_15⟩ := u9
  have hP : va_P (gD G) vwCl [(pz, .inr (8, [.ref q_1, .ref q_3, .ref q_5, .null, .null, .int (nI 0), .int (nI 0)])), (q_1, .inl (gyI G, 16, .inl (fun _ => 0))), (q_3, .inl (gyI G, 16, .inl (fun _ => 0))), (q_5, .inr (4, [.int (nI 0), .ref (gE G), .int (nI 0)])), (q_8, .inr (10, [.ref b_9, .ref sr_11, .ref se_12, .int (nI 0), .int (nI 0), .int (nI 110)])), (b_9, .inr (5, [.ref mm_10])), (mm_10, .inl (gyI G, 16, .inl f_13)), (sr_11, .inl (gyI G, 64, .inl g_14)), (se_12, .inl (gyI G, 16, .inl hh_15))] H := hP
  have hD : va_D A [(pz, .inr (8, [.ref q_1, .ref q_3, .ref q_5, .null, .null, .int (nI 0), .int (nI 0)])), (q_1, .inl (gyI G, 16, .inl (fun _ => 0))), (q_3, .inl (gyI G, 16, .inl (fun _ => 0))), (q_5, .inr (4, [.int (nI 0), .ref (gE G), .int (nI 0)])), (q_8, .inr (10, [.ref b_9, .ref sr_11, .ref se_12, .int (nI 0), .int (nI 0), .int (nI 110)])), (b_9, .inr (5, [.ref mm_10])), (mm_10, .inl (gyI G, 16, .inl f_13)), (sr_11, .inl (gyI G, 64, .inl g_14)), (se_12, .inl (gyI G, 16, .inl hh_15))] := hD
  refine va_putF (D := gD G) (ci := 8) (v := .ref q_8) (ty := .object "Pegboardry$Solver") (C := RX3) (T := TX3) (N := 7) hx hb hts fwX3 tyX3 tyX3_ok nmX3 hown hK hP hD hS 0 rfl rfl 3 (by decide) (hts _ q449) (fun _ h9 => h9) rfl hin rfl (by decide +kernel) rfl rfl (Nat.le_of_ble_eq_true rfl) dX3_init_39 (fun H locs hP hD hS => ?_)
  have hP : va_P (gD G) vwCl [(pz, .inr (8, [.ref q_1, .ref q_3, .ref q_5, .ref q_8, .null, .int (nI 0), .int (nI 0)])), (q_1, .inl (gyI G, 16, .inl (fun _ => 0))), (q_3, .inl (gyI G, 16, .inl (fun _ => 0))), (q_5, .inr (4, [.int (nI 0), .ref (gE G), .int (nI 0)])), (q_8, .inr (10, [.ref b_9, .ref sr_11, .ref se_12, .int (nI 0), .int (nI 0), .int (nI 110)])), (b_9, .inr (5, [.ref mm_10])), (mm_10, .inl (gyI G, 16, .inl f_13)), (sr_11, .inl (gyI G, 64, .inl g_14)), (se_12, .inl (gyI G, 16, .inl hh_15))] H := hP
  have hD : va_D A [(pz, .inr (8, [.ref q_1, .ref q_3, .ref q_5, .ref q_8, .null, .int (nI 0), .int (nI 0)])), (q_1, .inl (gyI G, 16, .inl (fun _ => 0))), (q_3, .inl (gyI G, 16, .inl (fun _ => 0))), (q_5, .inr (4, [.int (nI 0), .ref (gE G), .int (nI 0)])), (q_8, .inr (10, [.ref b_9, .ref sr_11, .ref se_12, .int (nI 0), .int (nI 0), .int (nI 110)])), (b_9, .inr (5, [.ref mm_10])), (mm_10, .inl (gyI G, 16, .inl f_13)), (sr_11, .inl (gyI G, 64, .inl g_14)), (se_12, .inl (gyI G, 16, .inl hh_15))] := hD
  refine lv_aload_n hx hb dX3_init_42 rfl (lv_at hl 0 rfl) ?_
  refine va_new (D := gD G) (ci := 9) (fs := [.null, .null, .int 0]) (C := RX4) (T := TX4) (N := 3) hx hb hts fwX4 tyX4 tyX4_ok hown (hts _ q437) (hts _ q162) (hts _ q51) hK hP hD hS hA rfl (fun j hj => by rcases (show j = 0 ∨ j = 1 ∨ j = 2 by omega) with rfl | rfl | rfl <;> rfl) (Nat.le_of_ble_eq_true rfl) (Nat.le_of_ble_eq_true rfl) dX3_init_43 (fun q_18 H hP hD hS => ?_)
  have hP : va_P (gD G) vwCl [(pz, .inr (8, [.ref q_1, .ref q_3, .ref q_5, .ref q_8, .null, .int (nI 0), .int (nI 0)])), (q_1, .inl (gyI G, 16, .inl (fun _ => 0))), (q_3, .inl (gyI G, 16, .inl (fun _ => 0))), (q_5, .inr (4, [.int (nI 0), .ref (gE G), .int (nI 0)])), (q_8, .inr (10, [.ref b_9, .ref sr_11, .ref se_12, .int (nI 0), .int (nI 0), .int (nI 110)])), (b_9, .inr (5, [.ref mm_10])), (mm_10, .inl (gyI G, 16, .inl f_13)), (sr_11, .inl (gyI G, 64, .inl g_14)), (se_12, .inl (gyI G, 16, .inl hh_15)), (q_18, .inr (9, [.null, .null, .int (nI 0)]))] H := hP
  have hD : va_D A [(pz, .inr (8, [.ref q_1, .ref q_3, .ref q_5, .ref q_8, .null, .int (nI 0), .int (nI 0)])), (q_1, .inl (gyI G, 16, .inl (fun _ => 0))), (q_3, .inl (gyI G, 16, .inl (fun _ => 0))), (q_5, .inr (4, [.int (nI 0), .ref (gE G), .int (nI 0)])), (q_8, .inr (10, [.ref b_9, .ref sr_11, .ref se_12, .int (nI 0), .int (nI 0), .int (nI 110)])), (b_9, .inr (5, [.ref mm_10])), (mm_10, .inl (gyI G, 16, .inl f_13)), (sr_11, .inl (gyI G, 64, .inl g_14)), (se_12, .inl (gyI G, 16, .inl hh_15)), (q_18, .inr (9, [.null, .null, .int (nI 0)]))] := hD
  refine lv_dup hx hb dX3_init_46 rfl ?_
  refine fin_v hP hD hS hA [9] [0, 1, 2, 3, 4, 5, 6, 7, 8] (wr := [(pz, .inr (8, [.ref q_1, .ref q_3, .ref q_5, .ref q_8, .null, .int (nI 0), .int (nI 0)])), (q_1, .inl (gyI G, 16, .inl (fun _ => 0))), (q_3, .inl (gyI G, 16, .inl (fun _ => 0))), (q_5, .inr (4, [.int (nI 0), .ref (gE G), .int (nI 0)])), (q_8, .inr (10, [.ref b_9, .ref sr_11, .ref se_12, .int (nI 0), .int (nI 0), .int (nI 110)])), (b_9, .inr (5, [.ref mm_10])), (mm_10, .inl (gyI G, 16, .inl f_13)), (sr_11, .inl (gyI G, 64, .inl g_14)), (se_12, .inl (gyI G, 16, .inl hh_15))]) rfl rfl (by decide) (by decide) (va_runIN (As := []) (rest := [.ref q_18, .ref pz]) ⟨hx, hb, hml, hown, hts⟩ (c_X4_init l G q_18 H.size) ⟨(va_cnB 0 hts (gI q165) rfl rfl rfl (hE.1.1 _ nq438) (hts _ q51) (by decide +kernel) ⟨Nat.le_of_ble_eq_true rfl, Nat.le_of_ble_eq_true rfl⟩), rfl, hts _ q164⟩ (preS hK hE hP hD hS hA [9] rfl (by decide)) rfl rfl hl.1 rfl (lv_room (Nat.le_of_ble_eq_true rfl)) dX3_init_47 ⟨Nat.le_of_ble_eq_true rfl, Nat.le_of_ble_eq_true rfl⟩) (fun u9 hw_23 H locs hP hD hS => ?_)
  obtain ⟨tr_19, ff_20, f_21, g_22⟩ := u9
  have hP : va_P (gD G) vwCl [(pz, .inr (8, [.ref q_1, .ref q_3, .ref q_5, .ref q_8, .null, .int (nI 0), .int (nI 0)])), (q_1, .inl (gyI G, 16, .inl (fun _ => 0))), (q_3, .inl (gyI G, 16, .inl (fun _ => 0))), (q_5, .inr (4, [.int (nI 0), .ref (gE G), .int (nI 0)])), (q_8, .inr (10, [.ref b_9, .ref sr_11, .ref se_12, .int (nI 0), .int (nI 0), .int (nI 110)])), (b_9, .inr (5, [.ref mm_10])), (mm_10, .inl (gyI G, 16, .inl f_13)), (sr_11, .inl (gyI G, 64, .inl g_14)), (se_12, .inl (gyI G, 16, .inl hh_15)), (q_18, .inr (9, [.ref tr_19, .ref ff_20, .int (nI 0)])), (tr_19, .inl (gyI G, 16, .inl f_21)), (ff_20, .inl (gyI G, 16, .inl g_22))] H := hP
  have hD : va_D A [(pz, .inr (8, [.ref q_1, .ref q_3, .ref q_5, .ref q_8, .null, .int (nI 0), .int (nI 0)])), (q_1, .inl (gyI G, 16, .inl (fun _ => 0))), (q_3, .inl (gyI G, 16, .inl (fun _ => 0))), (q_5, .inr (4, [.int (nI 0), .ref (gE G), .int (nI 0)])), (q_8, .inr (10, [.ref b_9, .ref sr_11, .ref se_12, .int (nI 0), .int (nI 0), .int (nI 110)])), (b_9, .inr (5, [.ref mm_10])), (mm_10, .inl (gyI G, 16, .inl f_13)), (sr_11, .inl (gyI G, 64, .inl g_14)), (se_12, .inl (gyI G, 16, .inl hh_15)), (q_18, .inr (9, [.ref tr_19, .ref ff_20, .int (nI 0)])), (tr_19, .inl (gyI G, 16, .inl f_21)), (ff_20, .inl (gyI G, 16, .inl g_22))] := hD
  refine va_putF (D := gD G) (ci := 8) (v := .ref q_18) (ty := .object "Pegboardry$Search") (C := RX3) (T := TX3) (N := 7) hx hb hts fwX3 tyX3 tyX3_ok nmX3 hown hK hP hD hS 0 rfl rfl 4 (by decide) (hts _ q450) (fun _ h9 => h9) rfl hin rfl (by decide +kernel) rfl rfl (Nat.le_of_ble_eq_true rfl) dX3_init_50 (fun H locs hP hD hS => ?_)
  have hP : va_P (gD G) vwCl [(pz, .inr (8, [.ref q_1, .ref q_3, .ref q_5, .ref q_8, .ref q_18, .int (nI 0), .int (nI 0)])), (q_1, .inl (gyI G, 16, .inl (fun _ => 0))), (q_3, .inl (gyI G, 16, .inl (fun _ => 0))), (q_5, .inr (4, [.int (nI 0), .ref (gE G), .int (nI 0)])), (q_8, .inr (10, [.ref b_9, .ref sr_11, .ref se_12, .int (nI 0), .int (nI 0), .int (nI 110)])), (b_9, .inr (5, [.ref mm_10])), (mm_10, .inl (gyI G, 16, .inl f_13)), (sr_11, .inl (gyI G, 64, .inl g_14)), (se_12, .inl (gyI G, 16, .inl hh_15)), (q_18, .inr (9, [.ref tr_19, .ref ff_20, .int (nI 0)])), (tr_19, .inl (gyI G, 16, .inl f_21)), (ff_20, .inl (gyI G, 16, .inl g_22))] H := hP
  have hD : va_D A [(pz, .inr (8, [.ref q_1, .ref q_3, .ref q_5, .ref q_8, .ref q_18, .int (nI 0), .int (nI 0)])), (q_1, .inl (gyI G, 16, .inl (fun _ => 0))), (q_3, .inl (gyI G, 16, .inl (fun _ => 0))), (q_5, .inr (4, [.int (nI 0), .ref (gE G), .int (nI 0)])), (q_8, .inr (10, [.ref b_9, .ref sr_11, .ref se_12, .int (nI 0), .int (nI 0), .int (nI 110)])), (b_9, .inr (5, [.ref mm_10])), (mm_10, .inl (gyI G, 16, .inl f_13)), (sr_11, .inl (gyI G, 64, .inl g_14)), (se_12, .inl (gyI G, 16, .inl hh_15)), (q_18, .inr (9, [.ref tr_19, .ref ff_20, .int (nI 0)])), (tr_19, .inl (gyI G, 16, .inl f_21)), (ff_20, .inl (gyI G, 16, .inl g_22))] := hD
  refine lv_aload_n hx hb dX3_init_53 rfl (lv_at hl 0 rfl) ?_
  refine lv_iconst (v := nI 0) hx hb dX3_init_54 (by decide) ?_
  refine va_put (D := gD G) (ci := 8) (v := .int (nI 0)) (ty := .boolean) (C := RX3) (T := TX3) (N := 7) hx hb hts fwX3 tyX3 tyX3_ok nmX3 hown hK hP hD hS 0 rfl rfl 5 (by decide) (hts _ q451) (fun _ h9 => h9) rfl (by decide +kernel) (by decide) (by decide) (Nat.le_of_ble_eq_true rfl) dX3_init_55 (fun H locs hP hD hS => ?_)
  have hP : va_P (gD G) vwCl [(pz, .inr (8, [.ref q_1, .ref q_3, .ref q_5, .ref q_8, .ref q_18, .int (nI 0), .int (nI 0)])), (q_1, .inl (gyI G, 16, .inl (fun _ => 0))), (q_3, .inl (gyI G, 16, .inl (fun _ => 0))), (q_5, .inr (4, [.int (nI 0), .ref (gE G), .int (nI 0)])), (q_8, .inr (10, [.ref b_9, .ref sr_11, .ref se_12, .int (nI 0), .int (nI 0), .int (nI 110)])), (b_9, .inr (5, [.ref mm_10])), (mm_10, .inl (gyI G, 16, .inl f_13)), (sr_11, .inl (gyI G, 64, .inl g_14)), (se_12, .inl (gyI G, 16, .inl hh_15)), (q_18, .inr (9, [.ref tr_19, .ref ff_20, .int (nI 0)])), (tr_19, .inl (gyI G, 16, .inl f_21)), (ff_20, .inl (gyI G, 16, .inl g_22))] H := hP
  have hD : va_D A [(pz, .inr (8, [.ref q_1, .ref q_3, .ref q_5, .ref q_8, .ref q_18, .int (nI 0), .int (nI 0)])), (q_1, .inl (gyI G, 16, .inl (fun _ => 0))), (q_3, .inl (gyI G, 16, .inl (fun _ => 0))), (q_5, .inr (4, [.int (nI 0), .ref (gE G), .int (nI 0)])), (q_8, .inr (10, [.ref b_9, .ref sr_11, .ref se_12, .int (nI 0), .int (nI 0), .int (nI 110)])), (b_9, .inr (5, [.ref mm_10])), (mm_10, .inl (gyI G, 16, .inl f_13)), (sr_11, .inl (gyI G, 64, .inl g_14)), (se_12, .inl (gyI G, 16, .inl hh_15)), (q_18, .inr (9, [.ref tr_19, .ref ff_20, .int (nI 0)])), (tr_19, .inl (gyI G, 16, .inl f_21)), (ff_20, .inl (gyI G, 16, .inl g_22))] := hD
  refine lv_aload_n hx hb dX3_init_58 rfl (lv_at hl 0 rfl) ?_
  refine lv_iconst (v := nI 0) hx hb dX3_init_59 (by decide) ?_
  refine va_put (D := gD G) (ci := 8) (v := .int (nI 0)) (ty := .boolean) (C := RX3) (T := TX3) (N := 7) hx hb hts fwX3 tyX3 tyX3_ok nmX3 hown hK hP hD hS 0 rfl rfl 6 (by decide) (hts _ q452) (fun _ h9 => h9) rfl (by decide +kernel) (by decide) (by decide) (Nat.le_of_ble_eq_true rfl) dX3_init_60 (fun H locs hP hD hS => ?_)
  have hP : va_P (gD G) vwCl [(pz, .inr (8, [.ref q_1, .ref q_3, .ref q_5, .ref q_8, .ref q_18, .int (nI 0), .int (nI 0)])), (q_1, .inl (gyI G, 16, .inl (fun _ => 0))), (q_3, .inl (gyI G, 16, .inl (fun _ => 0))), (q_5, .inr (4, [.int (nI 0), .ref (gE G), .int (nI 0)])), (q_8, .inr (10, [.ref b_9, .ref sr_11, .ref se_12, .int (nI 0), .int (nI 0), .int (nI 110)])), (b_9, .inr (5, [.ref mm_10])), (mm_10, .inl (gyI G, 16, .inl f_13)), (sr_11, .inl (gyI G, 64, .inl g_14)), (se_12, .inl (gyI G, 16, .inl hh_15)), (q_18, .inr (9, [.ref tr_19, .ref ff_20, .int (nI 0)])), (tr_19, .inl (gyI G, 16, .inl f_21)), (ff_20, .inl (gyI G, 16, .inl g_22))] H := hP
  have hD : va_D A [(pz, .inr (8, [.ref q_1, .ref q_3, .ref q_5, .ref q_8, .ref q_18, .int (nI 0), .int (nI 0)])), (q_1, .inl (gyI G, 16, .inl (fun _ => 0))), (q_3, .inl (gyI G, 16, .inl (fun _ => 0))), (q_5, .inr (4, [.int (nI 0), .ref (gE G), .int (nI 0)])), (q_8, .inr (10, [.ref b_9, .ref sr_11, .ref se_12, .int (nI 0), .int (nI 0), .int (nI 110)])), (b_9, .inr (5, [.ref mm_10])), (mm_10, .inl (gyI G, 16, .inl f_13)), (sr_11, .inl (gyI G, 64, .inl g_14)), (se_12, .inl (gyI G, 16, .inl hh_15)), (q_18, .inr (9, [.ref tr_19, .ref ff_20, .int (nI 0)])), (tr_19, .inl (gyI G, 16, .inl f_21)), (ff_20, .inl (gyI G, 16, .inl g_22))] := hD
  have hP9 := hP.sub (ws' := [(pz, .inr (8, [.ref q_1, .ref q_3, .ref q_5, .ref q_8, .ref q_18, .int (nI 0), .int (nI 0)])), (q_1, .inl (gyI G, 16, .inl (fun _ => 0)))]) [0, 1] rfl
  have hD9 := hD.sub (ws' := [(pz, .inr (8, [.ref q_1, .ref q_3, .ref q_5, .ref q_8, .ref q_18, .int (nI 0), .int (nI 0)])), (q_1, .inl (gyI G, 16, .inl (fun _ => 0)))]) [0, 1] (by decide) rfl
  subst hQ
  exact W.vret hx hb hr (fun t ht hW => ⟨⟨(q_1, q_3, q_5, q_8, q_18, (fun _ => 0)), rfl, trivial, by rw [ht]; exact hP9, hD9⟩, hS.F ht⟩) hS.2.2 dX3_init_63
set_option maxHeartbeats 4000000 in
set_option maxRecDepth 100000 in
theorem c_X6_init (l : Launch) (G : GG) (ho : Nat) : Mv l G yX6_init cX6_init 1 ({ frames := 4, cells := 11, slots := 158, locals := 80 } : Room) [.ref ho] [(ho, .inr (11, [.null, .null, .null, .null, .null, .int (nI 0)]))] (fun (u : Nat × Nat × Nat × Nat × Nat × Nat × Nat × Nat × (Nat → Int32) × (Nat → Int32) × (Nat → Int32)) => True) (fun (u : Nat × Nat × Nat × Nat × Nat × Nat × Nat × Nat × (Nat → Int32) × (Nat → Int32) × (Nat → Int32)) => [(ho, .inr (11, [.ref u.1, .ref u.2.2.2.1, .ref u.2.1, .ref u.2.2.1, .null, .int (nI 0)])), (u.1, .inr (4, [.int (nI 0), .ref (gE G), .int (nI 0)])), (u.2.2.2.1, .inr (10, [.ref u.2.2.2.2.1, .ref u.2.2.2.2.2.2.1, .ref u.2.2.2.2.2.2.2.1, .int (nI 0), .int (nI 0), .int (nI 110)])), (u.2.2.2.2.1, .inr (5, [.ref u.2.2.2.2.2.1])), (u.2.2.2.2.2.1, .inl (gyI G, 16, .inl u.2.2.2.2.2.2.2.2.1)), (u.2.2.2.2.2.2.1, .inl (gyI G, 64, .inl u.2.2.2.2.2.2.2.2.2.1)), (u.2.2.2.2.2.2.2.1, .inl (gyI G, 16, .inl u.2.2.2.2.2.2.2.2.2.2))]) := by
  intro sz
  refine Met.ofW (cc := cX6_init) (maxL := 1) (ret := none) (by decide) rfl ?_
  intro p e s m args below meth c s₁ B9 hml hv
  obtain ⟨rfl, hsz, hP, hK, hD0, hE⟩ := hv
  have hx := B9.exec
  have hb := B9.bytes
  have hr := B9.returns
  have hts : ∀ w ∈ WW, w.before ([.ref ho] : List Value).toArray s = true := fun w h => atoms_spec (ws := .code yX6_init cX6_init 1 none :: WW) B9.pre w (List.mem_cons_of_mem _ h)
  have hown : s.vm.findClass RX6 = some m.cls := findClass_of_methodNamed B9.named
  have hin : meth.name = "<init>" := (name_of_methodNamed B9.named B9.method).1
  subst hsz
  have hD := hD0.self (sz := s.heap.size)
  generalize hAe : va_A [(ho, .inr (11, [.null, .null, .null, .null, .null, .int (nI 0)]))] s.heap.size = A at hD hE ⊢
  have hA : ∀ q : Nat, s.heap.size ≤ q → A q := fun q h => by rw [← hAe]; exact Or.inr h
  have hl := lv_entry ([.ref ho]) (n := 1) (Nat.le_of_ble_eq_true rfl)
  rw [lg_entry_eq]
  generalize (lg_sl ([.ref ho]) ++ List.replicate (1 - (lg_sl ([.ref ho])).length) Slot.unset).toArray = ls at hl ⊢
  have hl : lv_has ls 1 [(0, .ref ho)] := hl
  refine qgen (fun Q hQ => ?_)
  refine hgen (fun H locs hP hD hS => ?_) hP hD
  refine lv_aload_n hx hb dX6_init_0 rfl (lv_at hl 0 rfl) ?_
  refine W.objInit hx hb hown (hts _ q85) (hts _ q86) (hts _ q87) rfl (by rw [hml]; exact hl.1) rfl dX6_init_1 (Nat.le_of_ble_eq_true rfl) (Nat.le_of_ble_eq_true rfl) ?_
  refine W.eq (g2 := F0 m 4 ls []) rfl ?_
  refine lv_aload_n hx hb dX6_init_4 rfl (lv_at hl 0 rfl) ?_
  refine va_new (D := gD G) (ci := 4) (fs := [.int 0, .null, .int 0]) (C := RJx4a65c) (T := TJx4a65c) (N := 3) hx hb hts fwJx4a65c tyJx4a65c tyJx4a65c_ok hown (hts _ q88) (hts _ q89) (hts _ q48) hK hP hD hS hA rfl (fun j hj => by rcases (show j = 0 ∨ j = 1 ∨ j = 2 by omega) with rfl | rfl | rfl <;> rfl) (Nat.le_of_ble_eq_true rfl) (Nat.le_of_ble_eq_true rfl) dX6_init_5 (fun q_1 H hP hD hS => ?_)
  have hP : va_P (gD G) vwCl [(ho, .inr (11, [.null, .null, .null, .null, .null, .int (nI 0)])), (q_1, .inr (4, [.int (nI 0), .null, .int (nI 0)]))] H := hP
  have hD : va_D A [(ho, .inr (11, [.null, .null, .null, .null, .null, .int (nI 0)])), (q_1, .inr (4, [.int (nI 0), .null, .int (nI 0)]))] := hD
  refine lv_dup hx hb dX6_init_8 rfl ?_
  refine fin_v hP hD hS hA [1] [0] (wr := [(ho, .inr (11, [.null, .null, .null, .null, .null, .int (nI 0)]))]) rfl rfl (by decide) (by decide) (va_runI (As := []) (rest := [.ref q_1, .ref ho]) ⟨hx, hb, hml, hown, hts⟩ (c_Jx4a65c_init_da8c8 l G q_1 H.size) (cwI 0 hts (gI q92) rfl rfl rfl (hts _ q48) (hts _ q90) (hts _ q91) rfl (by decide +kernel) ⟨Nat.le_of_ble_eq_true rfl, Nat.le_of_ble_eq_true rfl⟩) (preS hK hE hP hD hS hA [1] rfl (by decide)) rfl rfl hl.1 rfl (lv_room (Nat.le_of_ble_eq_true rfl)) dX6_init_9 ⟨Nat.le_of_ble_eq_true rfl, Nat.le_of_ble_eq_true rfl⟩) (fun u9 hw_2 H locs hP hD hS => ?_)
  have hP : va_P (gD G) vwCl [(ho, .inr (11, [.null, .null, .null, .null, .null, .int (nI 0)])), (q_1, .inr (4, [.int (nI 0), .ref (gE G), .int (nI 0)]))] H := hP
  have hD : va_D A [(ho, .inr (11, [.null, .null, .null, .null, .null, .int (nI 0)])), (q_1, .inr (4, [.int (nI 0), .ref (gE G), .int (nI 0)]))] := hD
  refine va_putF (D := gD G) (ci := 11) (v := .ref q_1) (ty := .object "java/util/ArrayList") (C := RX6) (T := TX6) (N := 6) hx hb hts fwX6 tyX6 tyX6_ok nmX6 hown hK hP hD hS 0 rfl rfl 0 (by decide) (hts _ q181) (fun _ h9 => h9) rfl hin rfl (by decide +kernel) rfl rfl (Nat.le_of_ble_eq_true rfl) dX6_init_12 (fun H locs hP hD hS => ?_)
  have hP : va_P (gD G) vwCl [(ho, .inr (11, [.ref q_1, .null, .null, .null, .null, .int (nI 0)])), (q_1, .inr (4, [.int (nI 0), .ref (gE G), .int (nI 0)]))] H := hP
  have hD : va_D A [(ho, .inr (11, [.ref q_1, .null, .null, .null, .null, .int (nI 0)])), (q_1, .inr (4, [.int (nI 0), .ref (gE G), .int (nI 0)]))] := hD
  refine lv_aload_n hx hb dX6_init_15 rfl (lv_at hl 0 rfl) ?_
  refine va_new (D := gD G) (ci := 10) (fs := [.null, .null, .null, .int 0, .int 0, .int 0]) (C := RX5) (T := TX5) (N := 6) hx hb hts fwX5 tyX5 tyX5_ok hown (hts _ q117) (hts _ q118) (hts _ q49) hK hP hD hS hA rfl (fun j hj => by rcases (show j = 0 ∨ j = 1 ∨ j = 2 ∨ j = 3 ∨ j = 4 ∨ j = 5 by omega) with rfl | rfl | rfl | rfl | rfl | rfl <;> rfl) (Nat.le_of_ble_eq_true rfl) (Nat.le_of_ble_eq_true rfl) dX6_init_16 (fun q_4 H hP hD hS => ?_)
  have hP : va_P (gD G) vwCl [(ho, .inr (11, [.ref q_1, .null, .null, .null, .null, .int (nI 0)])), (q_1, .inr (4, [.int (nI 0), .ref (gE G), .int (nI 0)])), (q_4, .inr (10, [.null, .null, .null, .int (nI 0), .int (nI 0), .int (nI 0)]))] H := hP
  have hD : va_D A [(ho, .inr (11, [.ref q_1, .null, .null, .null, .null, .int (nI 0)])), (q_1, .inr (4, [.int (nI 0), .ref (gE G), .int (nI 0)])), (q_4, .inr (10, [.null, .null, .null, .int (nI 0), .int (nI 0), .int (nI 0)]))] := hD
  refine lv_dup hx hb dX6_init_19 rfl ?_
  refine fin_v hP hD hS hA [2] [0, 1] (wr := [(ho, .inr (11, [.ref q_1, .null, .null, .null, .null, .int (nI 0)])), (q_1, .inr (4, [.int (nI 0), .ref (gE G), .int (nI 0)]))]) rfl rfl (by decide) (by decide) (va_runIN (As := []) (rest := [.ref q_4, .ref ho]) ⟨hx, hb, hml, hown, hts⟩ (c_X5_init l G q_4 H.size) ⟨(va_cnB 0 hts (gI q121) rfl rfl rfl (hE.1.1 _ nq119) (hts _ q49) (by decide +kernel) ⟨Nat.le_of_ble_eq_true rfl, Nat.le_of_ble_eq_true rfl⟩), rfl, hts _ q120⟩ (preS hK hE hP hD hS hA [2] rfl (by decide)) rfl rfl hl.1 rfl (lv_room (Nat.le_of_ble_eq_true rfl)) dX6_init_20 ⟨Nat.le_of_ble_eq_true rfl, Nat.le_of_ble_eq_true rfl⟩) (fun u9 hw_12 H locs hP hD hS => ?_)
  obtain ⟨b_5, mm_6, sr_7, se_8, f_9, g_10, hh_11⟩ := u9
  have hP : va_P (gD G) vwCl [(ho, .inr (11, [.ref q_1, .null, .null, .null, .null, .int (nI 0)])), (q_1, .inr (4, [.int (nI 0), .ref (gE G), .int (nI 0)])), (q_4, .inr (10, [.ref b_5, .ref sr_7, .ref se_8, .int (nI 0), .int (nI 0), .int (nI 110)])), (b_5, .inr (5, [.ref mm_6])), (mm_6, .inl (gyI G, 16, .inl f_9)), (sr_7, .inl (gyI G, 64, .inl g_10)), (se_8, .inl (gyI G, 16, .inl hh_11))] H := hP
  have hD : va_D A [(ho, .inr (11, [.ref q_1, .null, .null, .null, .null, .int (nI 0)])), (q_1, .inr (4, [.int (nI 0), .ref (gE G), .int (nI 0)])), (q_4, .inr (10, [.ref b_5, .ref sr_7, .ref se_8, .int (nI 0), .int (nI 0), .int (nI 110)])), (b_5, .inr (5, [.ref mm_6])), (mm_6, .inl (gyI G, 16, .inl f_9)), (sr_7, .inl (gyI G, 64, .inl g_10)), (se_8, .inl (gyI G, 16, .inl hh_11))] := hD
  refine va_putF (D := gD G) (ci := 11) (v := .ref q_4) (ty := .object "Pegboardry$Solver") (C := RX6) (T := TX6) (N := 6) hx hb hts fwX6 tyX6 tyX6_ok nmX6 hown hK hP hD hS 0 rfl rfl 1 (by decide) (hts _ q182) (fun _ h9 => h9) rfl hin rfl (by decide +kernel) rfl rfl (Nat.le_of_ble_eq_true rfl) dX6_init_23 (fun H locs hP hD hS => ?_)
  have hP : va_P (gD G) vwCl [(ho, .inr (11, [.ref q_1, .ref q_4, .null, .null, .null, .int (nI 0)])), (q_1, .inr (4, [.int (nI 0), .ref (gE G), .int (nI 0)])), (q_4, .inr (10, [.ref b_5, .ref sr_7, .ref se_8, .int (nI 0), .int (nI 0), .int (nI 110)])), (b_5, .inr (5, [.ref mm_6])), (mm_6, .inl (gyI G, 16, .inl f_9)), (sr_7, .inl (gyI G, 64, .inl g_10)), (se_8, .inl (gyI G, 16, .inl hh_11))] H := hP
  have hD : va_D A [(ho, .inr (11, [.ref q_1, .ref q_4, .null, .null, .null, .int (nI 0)])), (q_1, .inr (4, [.int (nI 0), .ref (gE G), .int (nI 0)])), (q_4, .inr (10, [.ref b_5, .ref sr_7, .ref se_8, .int (nI 0), .int (nI 0), .int (nI 110)])), (b_5, .inr (5, [.ref mm_6])), (mm_6, .inl (gyI G, 16, .inl f_9)), (sr_7, .inl (gyI G, 64, .inl g_10)), (se_8, .inl (gyI G, 16, .inl hh_11))] := hD
  refine lv_aload_n hx hb dX6_init_26 rfl (lv_at hl 0 rfl) ?_
  refine va_new (D := gD G) (ci := 9) (fs := [.null, .null, .int 0]) (C := RX4) (T := TX4) (N := 3) hx hb hts fwX4 tyX4 tyX4_ok hown (hts _ q161) (hts _ q162) (hts _ q51) hK hP hD hS hA rfl (fun j hj => by rcases (show j = 0 ∨ j = 1 ∨ j = 2 by omega) with rfl | rfl | rfl <;> rfl) (Nat.le_of_ble_eq_true rfl) (Nat.le_of_ble_eq_true rfl) dX6_init_27 (fun q_14 H hP hD hS => ?_)
  have hP : va_P (gD G) vwCl [(ho, .inr (11, [.ref q_1, .ref q_4, .null, .null, .null, .int (nI 0)])), (q_1, .inr (4, [.int (nI 0), .ref (gE G), .int (nI 0)])), (q_4, .inr (10, [.ref b_5, .ref sr_7, .ref se_8, .int (nI 0), .int (nI 0), .int (nI 110)])), (b_5, .inr (5, [.ref mm_6])), (mm_6, .inl (gyI G, 16, .inl f_9)), (sr_7, .inl (gyI G, 64, .inl g_10)), (se_8, .inl (gyI G, 16, .inl hh_11)), (q_14, .inr (9, [.null, .null, .int (nI 0)]))] H := hP
  have hD : va_D A [(ho, .inr (11, [.ref q_1, .ref q_4, .null, .null, .null, .int (nI 0)])), (q_1, .inr (4, [.int (nI 0), .ref (gE G), .int (nI 0)])), (q_4, .inr (10, [.ref b_5, .ref sr_7, .ref se_8, .int (nI 0), .int (nI 0), .int (nI 110)])), (b_5, .inr (5, [.ref mm_6])), (mm_6, .inl (gyI G, 16, .inl f_9)), (sr_7, .inl (gyI G, 64, .inl g_10)), (se_8, .inl (gyI G, 16, .inl hh_11)), (q_14, .inr (9, [.null, .null, .int (nI 0)]))] := hD
  refine lv_dup hx hb dX6_init_30 rfl ?_
  refine fin_v hP hD hS hA [7] [0, 1, 2, 3, 4, 5, 6] (wr := [(ho, .inr (11, [.ref q_1, .ref q_4, .null, .null, .null, .int (nI 0)])), (q_1, .inr (4, [.int (nI 0), .ref (gE G), .int (nI 0)])), (q_4, .inr (10, [.ref b_5, .ref sr_7, .ref se_8, .int (nI 0), .int (nI 0), .int (nI 110)])), (b_5, .inr (5, [.ref mm_6])), (mm_6, .inl (gyI G, 16, .inl f_9)), (sr_7, .inl (gyI G, 64, .inl g_10)), (se_8, .inl (gyI G, 16, .inl hh_11))]) rfl rfl (by decide) (by decide) (va_runIN (As := []) (rest := [.ref q_14, .ref ho]) ⟨hx, hb, hml, hown, hts⟩ (c_X4_init l G q_14 H.size) ⟨(va_cnB 0 hts (gI q165) rfl rfl rfl (hE.1.1 _ nq163) (hts _ q51) (by decide +kernel) ⟨Nat.le_of_ble_eq_true rfl, Nat.le_of_ble_eq_true rfl⟩), rfl, hts _ q164⟩ (preS hK hE hP hD hS hA [7] rfl (by decide)) rfl rfl hl.1 rfl (lv_room (Nat.le_of_ble_eq_true rfl)) dX6_init_31 ⟨Nat.le_of_ble_eq_true rfl, Nat.le_of_ble_eq_true rfl⟩) (fun u9 hw_19 H locs hP hD hS => ?_)
  obtain ⟨tr_15, ff_16, f_17, g_18⟩ := u9
  have hP : va_P (gD G) vwCl [(ho, .inr (11, [.ref q_1, .ref q_4, .null, .null, .null, .int (nI 0)])), (q_1, .inr (4, [.int (nI 0), .ref (gE G), .int (nI 0)])), (q_4, .inr (10, [.ref b_5, .ref sr_7, .ref se_8, .int (nI 0), .int (nI 0), .int (nI 110)])), (b_5, .inr (5, [.ref mm_6])), (mm_6, .inl (gyI G, 16, .inl f_9)), (sr_7, .inl (gyI G, 64, .inl g_10)), (se_8, .inl (gyI G, 16, .inl hh_11)), (q_14, .inr (9, [.ref tr_15, .ref ff_16, .int (nI 0)])), (tr_15, .inl (gyI G, 16, .inl f_17)), (ff_16, .inl (gyI G, 16, .inl g_18))] H := hP
  have hD : va_D A [(ho, .inr (11, [.ref q_1, .ref q_4, .null, .null, .null, .int (nI 0)])), (q_1, .inr (4, [.int (nI 0), .ref (gE G), .int (nI 0)])), (q_4, .inr (10, [.ref b_5, .ref sr_7, .ref se_8, .int (nI 0), .int (nI 0), .int (nI 110)])), (b_5, .inr (5, [.ref mm_6])), (mm_6, .inl (gyI G, 16, .inl f_9)), (sr_7, .inl (gyI G, 64, .inl g_10)), (se_8, .inl (gyI G, 16, .inl hh_11)), (q_14, .inr (9, [.ref tr_15, .ref ff_16, .int (nI 0)])), (tr_15, .inl (gyI G, 16, .inl f_17)), (ff_16, .inl (gyI G, 16, .inl g_18))] := hD
  refine va_putF (D := gD G) (ci := 11) (v := .ref q_14) (ty := .object "Pegboardry$Search") (C := RX6) (T := TX6) (N := 6) hx hb hts fwX6 tyX6 tyX6_ok nmX6 hown hK hP hD hS 0 rfl rfl 2 (by decide) (hts _ q183) (fun _ h9 => h9) rfl hin rfl (by decide +kernel) rfl rfl (Nat.le_of_ble_eq_true rfl) dX6_init_34 (fun H locs hP hD hS => ?_)
  have hP : va_P (gD G) vwCl [(ho, .inr (11, [.ref q_1, .ref q_4, .ref q_14, .null, .null, .int (nI 0)])), (q_1, .inr (4, [.int (nI 0), .ref (gE G), .int (nI 0)])), (q_4, .inr (10, [.ref b_5, .ref sr_7, .ref se_8, .int (nI 0), .int (nI 0), .int (nI 110)])), (b_5, .inr (5, [.ref mm_6])), (mm_6, .inl (gyI G, 16, .inl f_9)), (sr_7, .inl (gyI G, 64, .inl g_10)), (se_8, .inl (gyI G, 16, .inl hh_11)), (q_14, .inr (9, [.ref tr_15, .ref ff_16, .int (nI 0)])), (tr_15, .inl (gyI G, 16, .inl f_17)), (ff_16, .inl (gyI G, 16, .inl g_18))] H := hP
  have hD : va_D A [(ho, .inr (11, [.ref q_1, .ref q_4, .ref q_14, .null, .null, .int (nI 0)])), (q_1, .inr (4, [.int (nI 0), .ref (gE G), .int (nI 0)])), (q_4, .inr (10, [.ref b_5, .ref sr_7, .ref se_8, .int (nI 0), .int (nI 0), .int (nI 110)])), (b_5, .inr (5, [.ref mm_6])), (mm_6, .inl (gyI G, 16, .inl f_9)), (sr_7, .inl (gyI G, 64, .inl g_10)), (se_8, .inl (gyI G, 16, .inl hh_11)), (q_14, .inr (9, [.ref tr_15, .ref ff_16, .int (nI 0)])), (tr_15, .inl (gyI G, 16, .inl f_17)), (ff_16, .inl (gyI G, 16, .inl g_18))] := hD
  refine lv_aload_n hx hb dX6_init_37 rfl (lv_at hl 0 rfl) ?_
  refine va_new (D := gD G) (ci := 5) (fs := [.null]) (C := RX0) (T := TX0) (N := 1) hx hb hts fwX0 tyX0 tyX0_ok hown (hts _ q179) (hts _ q124) (hts _ q50) hK hP hD hS hA rfl (fun j hj => by rcases (show j = 0 by omega) with rfl <;> rfl) (Nat.le_of_ble_eq_true rfl) (Nat.le_of_ble_eq_true rfl) dX6_init_38 (fun q_21 H hP hD hS => ?_)
  have hP : va_P (gD G) vwCl [(ho, .inr (11, [.ref q_1, .ref q_4, .ref q_14, .null, .null, .int (nI 0)])), (q_1, .inr (4, [.int (nI 0), .ref (gE G), .int (nI 0)])), (q_4, .inr (10, [.ref b_5, .ref sr_7, .ref se_8, .int (nI 0), .int (nI 0), .int (nI 110)])), (b_5, .inr (5, [.ref mm_6])), (mm_6, .inl (gyI G, 16, .inl f_9)), (sr_7, .inl (gyI G, 64, .inl g_10)), (se_8, .inl (gyI G, 16, .inl hh_11)), (q_14, .inr (9, [.ref tr_15, .ref ff_16, .int (nI 0)])), (tr_15, .inl (gyI G, 16, .inl f_17)), (ff_16, .inl (gyI G, 16, .inl g_18)), (q_21, .inr (5, [.null]))] H := hP
  have hD : va_D A [(ho, .inr (11, [.ref q_1, .ref q_4, .ref q_14, .null, .null, .int (nI 0)])), (q_1, .inr (4, [.int (nI 0), .ref (gE G), .int (nI 0)])), (q_4, .inr (10, [.ref b_5, .ref sr_7, .ref se_8, .int (nI 0), .int (nI 0), .int (nI 110)])), (b_5, .inr (5, [.ref mm_6])), (mm_6, .inl (gyI G, 16, .inl f_9)), (sr_7, .inl (gyI G, 64, .inl g_10)), (se_8, .inl (gyI G, 16, .inl hh_11)), (q_14, .inr (9, [.ref tr_15, .ref ff_16, .int (nI 0)])), (tr_15, .inl (gyI G, 16, .inl f_17)), (ff_16, .inl (gyI G, 16, .inl g_18)), (q_21, .inr (5, [.null]))] := hD
  refine lv_dup hx hb dX6_init_41 rfl ?_
  refine fin_v hP hD hS hA [10] [0, 1, 2, 3, 4, 5, 6, 7, 8, 9] (wr := [(ho, .inr (11, [.ref q_1, .ref q_4, .ref q_14, .null, .null, .int (nI 0)])), (q_1, .inr (4, [.int (nI 0), .ref (gE G), .int (nI 0)])), (q_4, .inr (10, [.ref b_5, .ref sr_7, .ref se_8, .int (nI 0), .int (nI 0), .int (nI 110)])), (b_5, .inr (5, [.ref mm_6])), (mm_6, .inl (gyI G, 16, .inl f_9)), (sr_7, .inl (gyI G, 64, .inl g_10)), (se_8, .inl (gyI G, 16, .inl hh_11)), (q_14, .inr (9, [.ref tr_15, .ref ff_16, .int (nI 0)])), (tr_15, .inl (gyI G, 16, .inl f_17)), (ff_16, .inl (gyI G, 16, .inl g_18))]) rfl rfl (by decide) (by decide) (va_runIN (As := []) (rest := [.ref q_21, .ref ho]) ⟨hx, hb, hml, hown, hts⟩ (c_X0_init l G q_21 H.size) ⟨(va_cnB 0 hts (gI q127) rfl rfl rfl (hE.1.1 _ nq180) (hts _ q50) (by decide +kernel) ⟨Nat.le_of_ble_eq_true rfl, Nat.le_of_ble_eq_true rfl⟩), rfl, hts _ q126⟩ (preS hK hE hP hD hS hA [10] rfl (by decide)) rfl rfl hl.1 rfl (lv_room (Nat.le_of_ble_eq_true rfl)) dX6_init_42 ⟨Nat.le_of_ble_eq_true rfl, Nat.le_of_ble_eq_true rfl⟩) (fun u9 hw_24 H locs hP hD hS => ?_)
  obtain ⟨mm_22, f_23⟩ := u9
  have hP : va_P (gD G) vwCl [(ho, .inr (11, [.ref q_1, .ref q_4, .ref q_14, .null, .null, .int (nI 0)])), (q_1, .inr (4, [.int (nI 0), .ref (gE G), .int (nI 0)])), (q_4, .inr (10, [.ref b_5, .ref sr_7, .ref se_8, .int (nI 0), .int (nI 0), .int (nI 110)])), (b_5, .inr (5, [.ref mm_6])), (mm_6, .inl (gyI G, 16, .inl f_9)), (sr_7, .inl (gyI G, 64, .inl g_10)), (se_8, .inl (gyI G, 16, .inl hh_11)), (q_14, .inr (9, [.ref tr_15, .ref ff_16, .int (nI 0)])), (tr_15, .inl (gyI G, 16, .inl f_17)), (ff_16, .inl (gyI G, 16, .inl g_18)), (q_21, .inr (5, [.ref mm_22])), (mm_22, .inl (gyI G, 16, .inl f_23))] H := hP
  have hD : va_D A [(ho, .inr (11, [.ref q_1, .ref q_4, .ref q_14, .null, .null, .int (nI 0)])), (q_1, .inr (4, [.int (nI 0), .ref (gE G), .int (nI 0)])), (q_4, .inr (10, [.ref b_5, .ref sr_7, .ref se_8, .int (nI 0), .int (nI 0), .int (nI 110)])), (b_5, .inr (5, [.ref mm_6])), (mm_6, .inl (gyI G, 16, .inl f_9)), (sr_7, .inl (gyI G, 64, .inl g_10)), (se_8, .inl (gyI G, 16, .inl hh_11)), (q_14, .inr (9, [.ref tr_15, .ref ff_16, .int (nI 0)])), (tr_15, .inl (gyI G, 16, .inl f_17)), (ff_16, .inl (gyI G, 16, .inl g_18)), (q_21, .inr (5, [.ref mm_22])), (mm_22, .inl (gyI G, 16, .inl f_23))] := hD
  refine va_putF (D := gD G) (ci := 11) (v := .ref q_21) (ty := .object "Pegboardry$Board") (C := RX6) (T := TX6) (N := 6) hx hb hts fwX6 tyX6 tyX6_ok nmX6 hown hK hP hD hS 0 rfl rfl 3 (by decide) (hts _ q184) (fun _ h9 => h9) rfl hin rfl (by decide +kernel) rfl rfl (Nat.le_of_ble_eq_true rfl) dX6_init_45 (fun H locs hP hD hS => ?_)
  have hP : va_P (gD G) vwCl [(ho, .inr (11, [.ref q_1, .ref q_4, .ref q_14, .ref q_21, .null, .int (nI 0)])), (q_1, .inr (4, [.int (nI 0), .ref (gE G), .int (nI 0)])), (q_4, .inr (10, [.ref b_5, .ref sr_7, .ref se_8, .int (nI 0), .int (nI 0), .int (nI 110)])), (b_5, .inr (5, [.ref mm_6])), (mm_6, .inl (gyI G, 16, .inl f_9)), (sr_7, .inl (gyI G, 64, .inl g_10)), (se_8, .inl (gyI G, 16, .inl hh_11)), (q_14, .inr (9, [.ref tr_15, .ref ff_16, .int (nI 0)])), (tr_15, .inl (gyI G, 16, .inl f_17)), (ff_16, .inl (gyI G, 16, .inl g_18)), (q_21, .inr (5, [.ref mm_22])), (mm_22, .inl (gyI G, 16, .inl f_23))] H := hP
  have hD : va_D A [(ho, .inr (11, [.ref q_1, .ref q_4, .ref q_14, .ref q_21, .null, .int (nI 0)])), (q_1, .inr (4, [.int (nI 0), .ref (gE G), .int (nI 0)])), (q_4, .inr (10, [.ref b_5, .ref sr_7, .ref se_8, .int (nI 0), .int (nI 0), .int (nI 110)])), (b_5, .inr (5, [.ref mm_6])), (mm_6, .inl (gyI G, 16, .inl f_9)), (sr_7, .inl (gyI G, 64, .inl g_10)), (se_8, .inl (gyI G, 16, .inl hh_11)), (q_14, .inr (9, [.ref tr_15, .ref ff_16, .int (nI 0)])), (tr_15, .inl (gyI G, 16, .inl f_17)), (ff_16, .inl (gyI G, 16, .inl g_18)), (q_21, .inr (5, [.ref mm_22])), (mm_22, .inl (gyI G, 16, .inl f_23))] := hD
  refine lv_aload_n hx hb dX6_init_48 rfl (lv_at hl 0 rfl) ?_
  refine lv_null hx hb dX6_init_49 ?_
  refine va_put (D := gD G) (ci := 11) (v := .null) (ty := .object "Pegboardry$Puzzle") (C := RX6) (T := TX6) (N := 6) hx hb hts fwX6 tyX6 tyX6_ok nmX6 hown hK hP hD hS 0 rfl rfl 4 (by decide) (hts _ q185) (fun _ h9 => h9) rfl (by decide +kernel) rfl rfl (Nat.le_of_ble_eq_true rfl) dX6_init_50 (fun H locs hP hD hS => ?_)
  have hP : va_P (gD G) vwCl [(ho, .inr (11, [.ref q_1, .ref q_4, .ref q_14, .ref q_21, .null, .int (nI 0)])), (q_1, .inr (4, [.int (nI 0), .ref (gE G), .int (nI 0)])), (q_4, .inr (10, [.ref b_5, .ref sr_7, .ref se_8, .int (nI 0), .int (nI 0), .int (nI 110)])), (b_5, .inr (5, [.ref mm_6])), (mm_6, .inl (gyI G, 16, .inl f_9)), (sr_7, .inl (gyI G, 64, .inl g_10)), (se_8, .inl (gyI G, 16, .inl hh_11)), (q_14, .inr (9, [.ref tr_15, .ref ff_16, .int (nI 0)])), (tr_15, .inl (gyI G, 16, .inl f_17)), (ff_16, .inl (gyI G, 16, .inl g_18)), (q_21, .inr (5, [.ref mm_22])), (mm_22, .inl (gyI G, 16, .inl f_23))] H := hP
  have hD : va_D A [(ho, .inr (11, [.ref q_1, .ref q_4, .ref q_14, .ref q_21, .null, .int (nI 0)])), (q_1, .inr (4, [.int (nI 0), .ref (gE G), .int (nI 0)])), (q_4, .inr (10, [.ref b_5, .ref sr_7, .ref se_8, .int (nI 0), .int (nI 0), .int (nI 110)])), (b_5, .inr (5, [.ref mm_6])), (mm_6, .inl (gyI G, 16, .inl f_9)), (sr_7, .inl (gyI G, 64, .inl g_10)), (se_8, .inl (gyI G, 16, .inl hh_11)), (q_14, .inr (9, [.ref tr_15, .ref ff_16, .int (nI 0)])), (tr_15, .inl (gyI G, 16, .inl f_17)), (ff_16, .inl (gyI G, 16, .inl g_18)), (q_21, .inr (5, [.ref mm_22])), (mm_22, .inl (gyI G, 16, .inl f_23))] := hD
  refine lv_aload_n hx hb dX6_init_53 rfl (lv_at hl 0 rfl) ?_
  refine lv_iconst (v := nI 0) hx hb dX6_init_54 (by decide) ?_
  refine va_put (D := gD G) (ci := 11) (v := .int (nI 0)) (ty := .int) (C := RX6) (T := TX6) (N := 6) hx hb hts fwX6 tyX6 tyX6_ok nmX6 hown hK hP hD hS 0 rfl rfl 5 (by decide) (hts _ q186) (fun _ h9 => h9) rfl (by decide +kernel) rfl rfl (Nat.le_of_ble_eq_true rfl) dX6_init_55 (fun H locs hP hD hS => ?_)
  have hP : va_P (gD G) vwCl [(ho, .inr (11, [.ref q_1, .ref q_4, .ref q_14, .ref q_21, .null, .int (nI 0)])), (q_1, .inr (4, [.int (nI 0), .ref (gE G), .int (nI 0)])), (q_4, .inr (10, [.ref b_5, .ref sr_7, .ref se_8, .int (nI 0), .int (nI 0), .int (nI 110)])), (b_5, .inr (5, [.ref mm_6])), (mm_6, .inl (gyI G, 16, .inl f_9)), (sr_7, .inl (gyI G, 64, .inl g_10)), (se_8, .inl (gyI G, 16, .inl hh_11)), (q_14, .inr (9, [.ref tr_15, .ref ff_16, .int (nI 0)])), (tr_15, .inl (gyI G, 16, .inl f_17)), (ff_16, .inl (gyI G, 16, .inl g_18)), (q_21, .inr (5, [.ref mm_22])), (mm_22, .inl (gyI G, 16, .inl f_23))] H := hP
  have hD : va_D A [(ho, .inr (11, [.ref q_1, .ref q_4, .ref q_14, .ref q_21, .null, .int (nI 0)])), (q_1, .inr (4, [.int (nI 0), .ref (gE G), .int (nI 0)])), (q_4, .inr (10, [.ref b_5, .ref sr_7, .ref se_8, .int (nI 0), .int (nI 0), .int (nI 110)])), (b_5, .inr (5, [.ref mm_6])), (mm_6, .inl (gyI G, 16, .inl f_9)), (sr_7, .inl (gyI G, 64, .inl g_10)), (se_8, .inl (gyI G, 16, .inl hh_11)), (q_14, .inr (9, [.ref tr_15, .ref ff_16, .int (nI 0)])), (tr_15, .inl (gyI G, 16, .inl f_17)), (ff_16, .inl (gyI G, 16, .inl g_18)), (q_21, .inr (5, [.ref mm_22])), (mm_22, .inl (gyI G, 16, .inl f_23))] := hD
  have hP9 := hP.sub (ws' := [(ho, .inr (11, [.ref q_1, .ref q_4, .ref q_14, .ref q_21, .null, .int (nI 0)])), (q_1, .inr (4, [.int (nI 0), .ref (gE G), .int (nI 0)])), (q_4, .inr (10, [.ref b_5, .ref sr_7, .ref se_8, .int (nI 0), .int (nI 0), .int (nI 110)])), (b_5, .inr (5, [.ref mm_6])), (mm_6, .inl (gyI G, 16, .inl f_9)), (sr_7, .inl (gyI G, 64, .inl g_10)), (se_8, .inl (gyI G, 16, .inl hh_11))]) [0, 1, 2, 3, 4, 5, 6] rfl
  have hD9 := hD.sub (ws' := [(ho, .inr (11, [.ref q_1, .ref q_4, .ref q_14, .ref q_21, .null, .int (nI 0)])), (q_1, .inr (4, [.int (nI 0), .ref (gE G), .int (nI 0)])), (q_4, .inr (10, [.ref b_5, .ref sr_7, .ref se_8, .int (nI 0), .int (nI 0), .int (nI 110)])), (b_5, .inr (5, [.ref mm_6])), (mm_6, .inl (gyI G, 16, .inl f_9)), (sr_7, .inl (gyI G, 64, .inl g_10)), (se_8, .inl (gyI G, 16, .inl hh_11))]) [0, 1, 2, 3, 4, 5, 6] (by decide) rfl
  subst hQ
  exact W.vret hx hb hr (fun t ht hW => ⟨⟨(q_1, q_14, q_21, q_4, b_5, mm_6, sr_7, se_8, f_9, g_10, hh_11), rfl, trivial, by rw [ht]; exact hP9, hD9⟩, hS.F ht⟩) hS.2.2 dX6_init_58
