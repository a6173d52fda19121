theorem q23 : (Jvm.Cond.selects "Pegboardry" ({ cls := "Pegboardry", name := "puzzleAt", desc := "(I)LPegboardry$Puzzle;" } : Jvm.MethodName) ({ cls := "Pegboardry", name := "puzzleAt", desc := "(I)LPegboardry$Puzzle;" } : Jvm.MethodName)) ∈ WW := inW 23 (by decide +kernel) rfl
theorem q25 : (Jvm.Cond.selects "Pegboardry$Puzzle" ({ cls := "Pegboardry$Puzzle", name := "putCage", desc := "(LPegboardry$Cage;)V" } : Jvm.MethodName) ({ cls := "Pegboardry$Puzzle", name := "putCage", desc := "(LPegboardry$Cage;)V" } : Jvm.MethodName)) ∈ WW := inW 25 (by decide +kernel) rfl
theorem q46 : (Jvm.Cond.initialized "java/util/AbstractCollection") ∈ WW := inW 46 (by decide +kernel) rfl
theorem q47 : (Jvm.Cond.initialized "java/util/AbstractList") ∈ WW := inW 47 (by decide +kernel) rfl
theorem q51 : (Jvm.Cond.initialized "Pegboardry$Search") ∈ WW := inW 51 (by decide +kernel) rfl
theorem q57 : (Jvm.Cond.initialized "Pegboardry$Puzzle") ∈ WW := inW 57 (by decide +kernel) rfl
theorem q85 : (Jvm.Cond.methodLink "Pegboardry" (1 : Nat) ({ cls := "java/lang/Object", name := "<init>", desc := "()V" } : Jvm.MethodName)) ∈ WW := inW 85 (by decide +kernel) rfl
theorem q86 : (Jvm.Cond.instanceMethod ({ cls := "java/lang/Object", name := "<init>", desc := "()V" } : Jvm.MethodName)) ∈ WW := inW 86 (by decide +kernel) rfl
theorem q87 : (Jvm.Cond.code ({ cls := "java/lang/Object", name := "<init>", desc := "()V" } : Jvm.MethodName) object_method_1_code (1 : Nat) (Option.none : Option Jvm.ClassFile.FieldType)) ∈ WW := inW 87 (by decide +kernel) rfl
theorem q88 : (Jvm.Cond.classLink "Pegboardry" (7 : Nat) "java/util/ArrayList") ∈ WW := inW 88 (by decide +kernel) rfl
theorem q89 : (Jvm.Cond.instantiable "java/util/ArrayList" (3 : Nat)) ∈ WW := inW 89 (by decide +kernel) rfl
theorem q90 : (Jvm.Cond.methodLink "Pegboardry" (9 : Nat) ({ cls := "java/util/ArrayList", name := "<init>", desc := "()V" } : Jvm.MethodName)) ∈ WW := inW 90 (by decide +kernel) rfl
theorem q91 : (Jvm.Cond.instanceMethod ({ cls := "java/util/ArrayList", name := "<init>", desc := "()V" } : Jvm.MethodName)) ∈ WW := inW 91 (by decide +kernel) rfl
theorem q92 : (Jvm.Cond.code ({ cls := "java/util/ArrayList", name := "<init>", desc := "()V" } : Jvm.MethodName) prog_36_method_2_code (1 : Nat) (Option.none : Option Jvm.ClassFile.FieldType)) ∈ WW := inW 92 (by decide +kernel) rfl
theorem q93 : (Jvm.Cond.methodLink "java/util/ArrayList" (1 : Nat) ({ cls := "java/util/AbstractList", name := "<init>", desc := "()V" } : Jvm.MethodName)) ∈ WW := inW 93 (by decide +kernel) rfl
theorem q94 : (Jvm.Cond.instanceMethod ({ cls := "java/util/AbstractList", name := "<init>", desc := "()V" } : Jvm.MethodName)) ∈ WW := inW 94 (by decide +kernel) rfl
theorem q95 : (Jvm.Cond.code ({ cls := "java/util/AbstractList", name := "<init>", desc := "()V" } : Jvm.MethodName) prog_35_method_1_code (1 : Nat) (Option.none : Option Jvm.ClassFile.FieldType)) ∈ WW := inW 95 (by decide +kernel) rfl
theorem q96 : (Jvm.Cond.methodLink "java/util/AbstractList" (1 : Nat) ({ cls := "java/util/AbstractCollection", name := "<init>", desc := "()V" } : Jvm.MethodName)) ∈ WW := inW 96 (by decide +kernel) rfl
theorem q97 : (Jvm.Cond.instanceMethod ({ cls := "java/util/AbstractCollection", name := "<init>", desc := "()V" } : Jvm.MethodName)) ∈ WW := inW 97 (by decide +kernel) rfl
theorem q98 : (Jvm.Cond.code ({ cls := "java/util/AbstractCollection", name := "<init>", desc := "()V" } : Jvm.MethodName) prog_34_method_1_code (1 : Nat) (Option.none : Option Jvm.ClassFile.FieldType)) ∈ WW := inW 98 (by decide +kernel) rfl
theorem q99 : (Jvm.Cond.methodLink "java/util/AbstractCollection" (1 : Nat) ({ cls := "java/lang/Object", name := "<init>", desc := "()V" } : Jvm.MethodName)) ∈ WW := inW 99 (by decide +kernel) rfl
theorem q106 : (Jvm.Cond.fieldLink "java/util/AbstractList" (7 : Nat) "java/util/AbstractList" "modCount" "I") ∈ WW := inW 106 (by decide +kernel) rfl
theorem q117 : (Jvm.Cond.classLink "Pegboardry" (16 : Nat) "Pegboardry$Solver") ∈ WW := inW 117 (by decide +kernel) rfl
theorem q118 : (Jvm.Cond.instantiable "Pegboardry$Solver" (6 : Nat)) ∈ WW := inW 118 (by decide +kernel) rfl
theorem nq119 : (Jvm.Cond.methodLinkNest "Pegboardry" (18 : Nat) ({ cls := "Pegboardry$Solver", name := "<init>", desc := "()V" } : Jvm.MethodName) "Pegboardry") ∈ NWs := inN 119 (by decide +kernel) rfl
theorem q120 : (Jvm.Cond.instanceMethod ({ cls := "Pegboardry$Solver", name := "<init>", desc := "()V" } : Jvm.MethodName)) ∈ WW := inW 120 (by decide +kernel) rfl
theorem q121 : (Jvm.Cond.code ({ cls := "Pegboardry$Solver", name := "<init>", desc := "()V" } : Jvm.MethodName) prog_7_method_1_code (1 : Nat) (Option.none : Option Jvm.ClassFile.FieldType)) ∈ WW := inW 121 (by decide +kernel) rfl
theorem q122 : (Jvm.Cond.methodLink "Pegboardry$Solver" (3 : Nat) ({ cls := "java/lang/Object", name := "<init>", desc := "()V" } : Jvm.MethodName)) ∈ WW := inW 122 (by decide +kernel) rfl
theorem q123 : (Jvm.Cond.classLink "Pegboardry$Solver" (9 : Nat) "Pegboardry$Board") ∈ WW := inW 123 (by decide +kernel) rfl
theorem q124 : (Jvm.Cond.instantiable "Pegboardry$Board" (1 : Nat)) ∈ WW := inW 124 (by decide +kernel) rfl
theorem nq125 : (Jvm.Cond.methodLinkNest "Pegboardry$Solver" (11 : Nat) ({ cls := "Pegboardry$Board", name := "<init>", desc := "()V" } : Jvm.MethodName) "Pegboardry") ∈ NWs := inN 125 (by decide +kernel) rfl
theorem q126 : (Jvm.Cond.instanceMethod ({ cls := "Pegboardry$Board", name := "<init>", desc := "()V" } : Jvm.MethodName)) ∈ WW := inW 126 (by decide +kernel) rfl
theorem q127 : (Jvm.Cond.code ({ cls := "Pegboardry$Board", name := "<init>", desc := "()V" } : Jvm.MethodName) prog_2_method_1_code (1 : Nat) (Option.none : Option Jvm.ClassFile.FieldType)) ∈ WW := inW 127 (by decide +kernel) rfl
theorem q128 : (Jvm.Cond.methodLink "Pegboardry$Board" (3 : Nat) ({ cls := "java/lang/Object", name := "<init>", desc := "()V" } : Jvm.MethodName)) ∈ WW := inW 128 (by decide +kernel) rfl
theorem q135 : (Jvm.Cond.arrayClass Jvm.ClassFile.FieldType.int) ∈ WW := inW 135 (by decide +kernel) rfl
theorem q161 : (Jvm.Cond.classLink "Pegboardry" (23 : Nat) "Pegboardry$Search") ∈ WW := inW 161 (by decide +kernel) rfl
theorem q162 : (Jvm.Cond.instantiable "Pegboardry$Search" (3 : Nat)) ∈ WW := inW 162 (by decide +kernel) rfl
theorem nq163 : (Jvm.Cond.methodLinkNest "Pegboardry" (25 : Nat) ({ cls := "Pegboardry$Search", name := "<init>", desc := "()V" } : Jvm.MethodName) "Pegboardry") ∈ NWs := inN 163 (by decide +kernel) rfl
theorem q164 : (Jvm.Cond.instanceMethod ({ cls := "Pegboardry$Search", name := "<init>", desc := "()V" } : Jvm.MethodName)) ∈ WW := inW 164 (by decide +kernel) rfl
theorem q165 : (Jvm.Cond.code ({ cls := "Pegboardry$Search", name := "<init>", desc := "()V" } : Jvm.MethodName) prog_6_method_1_code (1 : Nat) (Option.none : Option Jvm.ClassFile.FieldType)) ∈ WW := inW 165 (by decide +kernel) rfl
theorem q166 : (Jvm.Cond.methodLink "Pegboardry$Search" (3 : Nat) ({ cls := "java/lang/Object", name := "<init>", desc := "()V" } : Jvm.MethodName)) ∈ WW := inW 166 (by decide +kernel) rfl
theorem q167 : (Jvm.Cond.fieldLink "Pegboardry$Search" (9 : Nat) "Pegboardry$Search" "tried" "[I") ∈ WW := inW 167 (by decide +kernel) rfl
theorem q168 : (Jvm.Cond.fieldLink "Pegboardry$Search" (15 : Nat) "Pegboardry$Search" "firstFound" "[I") ∈ WW := inW 168 (by decide +kernel) rfl
theorem q170 : (Jvm.Cond.fieldLink "Pegboardry$Search" (18 : Nat) "Pegboardry$Search" "found" "I") ∈ WW := inW 170 (by decide +kernel) rfl
theorem q179 : (Jvm.Cond.classLink "Pegboardry" (30 : Nat) "Pegboardry$Board") ∈ WW := inW 179 (by decide +kernel) rfl
theorem nq180 : (Jvm.Cond.methodLinkNest "Pegboardry" (32 : Nat) ({ cls := "Pegboardry$Board", name := "<init>", desc := "()V" } : Jvm.MethodName) "Pegboardry") ∈ NWs := inN 180 (by decide +kernel) rfl
theorem q181 : (Jvm.Cond.fieldLink "Pegboardry" (10 : Nat) "Pegboardry" "puzzles" "Ljava/util/ArrayList;") ∈ WW := inW 181 (by decide +kernel) rfl
theorem q182 : (Jvm.Cond.fieldLink "Pegboardry" (19 : Nat) "Pegboardry" "makersSolver" "LPegboardry$Solver;") ∈ WW := inW 182 (by decide +kernel) rfl
theorem q183 : (Jvm.Cond.fieldLink "Pegboardry" (26 : Nat) "Pegboardry" "trialSearch" "LPegboardry$Search;") ∈ WW := inW 183 (by decide +kernel) rfl
theorem q184 : (Jvm.Cond.fieldLink "Pegboardry" (33 : Nat) "Pegboardry" "proofBoard" "LPegboardry$Board;") ∈ WW := inW 184 (by decide +kernel) rfl
theorem q185 : (Jvm.Cond.fieldLink "Pegboardry" (37 : Nat) "Pegboardry" "proofPuzzle" "LPegboardry$Puzzle;") ∈ WW := inW 185 (by decide +kernel) rfl
theorem q186 : (Jvm.Cond.fieldLink "Pegboardry" (41 : Nat) "Pegboardry" "lastRefusal" "I") ∈ WW := inW 186 (by decide +kernel) rfl
theorem q208 : (Jvm.Cond.methodLink "Pegboardry" (45 : Nat) ({ cls := "java/util/ArrayList", name := "size", desc := "()I" } : Jvm.MethodName)) ∈ WW := inW 208 (by decide +kernel) rfl
theorem q212 : (Jvm.Cond.methodLink "Pegboardry" (235 : Nat) ({ cls := "java/util/ArrayList", name := "get", desc := "(I)Ljava/lang/Object;" } : Jvm.MethodName)) ∈ WW := inW 212 (by decide +kernel) rfl
theorem q226 : (Jvm.Cond.classLink "Pegboardry" (56 : Nat) "Pegboardry$Puzzle") ∈ WW := inW 226 (by decide +kernel) rfl
theorem q235 : (Jvm.Cond.instantiable "Pegboardry$Puzzle" (7 : Nat)) ∈ WW := inW 235 (by decide +kernel) rfl
theorem q292 : (Jvm.Cond.instantiable "Pegboardry$Cage" (2 : Nat)) ∈ WW := inW 292 (by decide +kernel) rfl
theorem nq429 : (Jvm.Cond.methodLinkNest "Pegboardry" (58 : Nat) ({ cls := "Pegboardry$Puzzle", name := "<init>", desc := "()V" } : Jvm.MethodName) "Pegboardry") ∈ NWs := inN 429 (by decide +kernel) rfl
theorem q430 : (Jvm.Cond.instanceMethod ({ cls := "Pegboardry$Puzzle", name := "<init>", desc := "()V" } : Jvm.MethodName)) ∈ WW := inW 430 (by decide +kernel) rfl
theorem q431 : (Jvm.Cond.code ({ cls := "Pegboardry$Puzzle", name := "<init>", desc := "()V" } : Jvm.MethodName) prog_5_method_1_code (1 : Nat) (Option.none : Option Jvm.ClassFile.FieldType)) ∈ WW := inW 431 (by decide +kernel) rfl
theorem q432 : (Jvm.Cond.methodLink "Pegboardry$Puzzle" (3 : Nat) ({ cls := "java/lang/Object", name := "<init>", desc := "()V" } : Jvm.MethodName)) ∈ WW := inW 432 (by decide +kernel) rfl
theorem q433 : (Jvm.Cond.classLink "Pegboardry$Puzzle" (18 : Nat) "java/util/ArrayList") ∈ WW := inW 433 (by decide +kernel) rfl
theorem q434 : (Jvm.Cond.methodLink "Pegboardry$Puzzle" (20 : Nat) ({ cls := "java/util/ArrayList", name := "<init>", desc := "()V" } : Jvm.MethodName)) ∈ WW := inW 434 (by decide +kernel) rfl
theorem q435 : (Jvm.Cond.classLink "Pegboardry$Puzzle" (25 : Nat) "Pegboardry$Solver") ∈ WW := inW 435 (by decide +kernel) rfl
theorem nq436 : (Jvm.Cond.methodLinkNest "Pegboardry$Puzzle" (27 : Nat) ({ cls := "Pegboardry$Solver", name := "<init>", desc := "()V" } : Jvm.MethodName) "Pegboardry") ∈ NWs := inN 436 (by decide +kernel) rfl
theorem q437 : (Jvm.Cond.classLink "Pegboardry$Puzzle" (32 : Nat) "Pegboardry$Search") ∈ WW := inW 437 (by decide +kernel) rfl
theorem nq438 : (Jvm.Cond.methodLinkNest "Pegboardry$Puzzle" (34 : Nat) ({ cls := "Pegboardry$Search", name := "<init>", desc := "()V" } : Jvm.MethodName) "Pegboardry") ∈ NWs := inN 438 (by decide +kernel) rfl
theorem q439 : (Jvm.Cond.fieldLink "Pegboardry$Puzzle" (9 : Nat) "Pegboardry$Puzzle" "givenRow" "[I") ∈ WW := inW 439 (by decide +kernel) rfl
theorem q443 : (Jvm.Cond.fieldLink "Pegboardry$Puzzle" (15 : Nat) "Pegboardry$Puzzle" "markRow" "[I") ∈ WW := inW 443 (by decide +kernel) rfl
theorem q445 : (Jvm.Cond.fieldLink "Pegboardry$Puzzle" (21 : Nat) "Pegboardry$Puzzle" "cages" "Ljava/util/ArrayList;") ∈ WW := inW 445 (by decide +kernel) rfl
theorem nq447 : (Jvm.Cond.fieldLinkNest "Pegboardry" (96 : Nat) "Pegboardry$Puzzle" "cages" "Ljava/util/ArrayList;" "Pegboardry") ∈ NWs := inN 447 (by decide +kernel) rfl
theorem q450 : (Jvm.Cond.fieldLink "Pegboardry$Puzzle" (35 : Nat) "Pegboardry$Puzzle" "search" "LPegboardry$Search;") ∈ WW := inW 450 (by decide +kernel) rfl
theorem q452 : (Jvm.Cond.fieldLink "Pegboardry$Puzzle" (43 : Nat) "Pegboardry$Puzzle" "searchIsFresh" "Z") ∈ WW := inW 452 (by decide +kernel) rfl
theorem q468 : (Jvm.Cond.methodLink "Pegboardry" (59 : Nat) ({ cls := "java/util/ArrayList", name := "add", desc := "(Ljava/lang/Object;)Z" } : Jvm.MethodName)) ∈ WW := inW 468 (by decide +kernel) rfl
theorem q469 : (Jvm.Cond.instanceMethod ({ cls := "java/util/ArrayList", name := "add", desc := "(Ljava/lang/Object;)Z" } : Jvm.MethodName)) ∈ WW := inW 469 (by decide +kernel) rfl
theorem q470 : (Jvm.Cond.selects "java/util/ArrayList" ({ cls := "java/util/ArrayList", name := "add", desc := "(Ljava/lang/Object;)Z" } : Jvm.MethodName) ({ cls := "java/util/ArrayList", name := "add", desc := "(Ljava/lang/Object;)Z" } : Jvm.MethodName)) ∈ WW := inW 470 (by decide +kernel) rfl
theorem q471 : (Jvm.Cond.code ({ cls := "java/util/ArrayList", name := "add", desc := "(Ljava/lang/Object;)Z" } : Jvm.MethodName) prog_36_method_25_code (2 : Nat) (Option.some Jvm.ClassFile.FieldType.boolean)) ∈ WW := inW 471 (by decide +kernel) rfl
theorem q566 : (Jvm.Cond.methodLink "Pegboardry" (63 : Nat) ({ cls := "Pegboardry", name := "puzzleAt", desc := "(I)LPegboardry$Puzzle;" } : Jvm.MethodName)) ∈ WW := inW 566 (by decide +kernel) rfl
theorem q568 : (Jvm.Cond.instanceMethod ({ cls := "Pegboardry", name := "puzzleAt", desc := "(I)LPegboardry$Puzzle;" } : Jvm.MethodName)) ∈ WW := inW 568 (by decide +kernel) rfl
theorem q569 : (Jvm.Cond.code ({ cls := "Pegboardry", name := "puzzleAt", desc := "(I)LPegboardry$Puzzle;" } : Jvm.MethodName) prog_1_method_29_code (2 : Nat) (Option.some (Jvm.ClassFile.FieldType.object "Pegboardry$Puzzle"))) ∈ WW := inW 569 (by decide +kernel) rfl
theorem q619 : (Jvm.Cond.constant "Pegboardry" (87 : Nat) (65536 : Int32)) ∈ WW := inW 619 (by decide +kernel) rfl
theorem q620 : (Jvm.Cond.methodLink "Pegboardry" (88 : Nat) ({ cls := "java/lang/Integer", name := "bitCount", desc := "(I)I" } : Jvm.MethodName)) ∈ WW := inW 620 (by decide +kernel) rfl
theorem q638 : (Jvm.Cond.classLink "Pegboardry" (104 : Nat) "Pegboardry$Cage") ∈ WW := inW 638 (by decide +kernel) rfl
theorem nq639 : (Jvm.Cond.methodLinkNest "Pegboardry" (106 : Nat) ({ cls := "Pegboardry$Cage", name := "<init>", desc := "(II)V" } : Jvm.MethodName) "Pegboardry") ∈ NWs := inN 639 (by decide +kernel) rfl
theorem q640 : (Jvm.Cond.instanceMethod ({ cls := "Pegboardry$Cage", name := "<init>", desc := "(II)V" } : Jvm.MethodName)) ∈ WW := inW 640 (by decide +kernel) rfl
theorem q641 : (Jvm.Cond.code ({ cls := "Pegboardry$Cage", name := "<init>", desc := "(II)V" } : Jvm.MethodName) prog_3_method_1_code (5 : Nat) (Option.none : Option Jvm.ClassFile.FieldType)) ∈ WW := inW 641 (by decide +kernel) rfl
theorem q642 : (Jvm.Cond.methodLink "Pegboardry$Cage" (3 : Nat) ({ cls := "java/lang/Object", name := "<init>", desc := "()V" } : Jvm.MethodName)) ∈ WW := inW 642 (by decide +kernel) rfl
theorem q643 : (Jvm.Cond.methodLink "Pegboardry$Cage" (9 : Nat) ({ cls := "java/lang/Integer", name := "bitCount", desc := "(I)I" } : Jvm.MethodName)) ∈ WW := inW 643 (by decide +kernel) rfl
theorem q645 : (Jvm.Cond.fieldLink "Pegboardry$Cage" (21 : Nat) "Pegboardry$Cage" "sum" "I") ∈ WW := inW 645 (by decide +kernel) rfl
theorem nq652 : (Jvm.Cond.methodLinkNest "Pegboardry" (108 : Nat) ({ cls := "Pegboardry$Puzzle", name := "putCage", desc := "(LPegboardry$Cage;)V" } : Jvm.MethodName) "Pegboardry") ∈ NWs := inN 652 (by decide +kernel) rfl
theorem q654 : (Jvm.Cond.instanceMethod ({ cls := "Pegboardry$Puzzle", name := "putCage", desc := "(LPegboardry$Cage;)V" } : Jvm.MethodName)) ∈ WW := inW 654 (by decide +kernel) rfl
theorem q655 : (Jvm.Cond.code ({ cls := "Pegboardry$Puzzle", name := "putCage", desc := "(LPegboardry$Cage;)V" } : Jvm.MethodName) prog_5_method_3_code (2 : Nat) (Option.none : Option Jvm.ClassFile.FieldType)) ∈ WW := inW 655 (by decide +kernel) rfl
theorem q656 : (Jvm.Cond.methodLink "Pegboardry$Puzzle" (46 : Nat) ({ cls := "java/util/ArrayList", name := "add", desc := "(Ljava/lang/Object;)Z" } : Jvm.MethodName)) ∈ WW := inW 656 (by decide +kernel) rfl
theorem nq1386 : (Jvm.Cond.castable "Pegboardry$Puzzle" "java/lang/Object") ∈ NWs := inN 1386 (by decide +kernel) rfl
theorem nq1392 : (Jvm.Cond.castable "Pegboardry$Cage" "java/lang/Object") ∈ NWs := inN 1392 (by decide +kernel) rfl
theorem dJxa1e45_init_da8c8_0 : decode cJxa1e45_init_da8c8 0 = .ok (.aload_n 0, 1) := by decide +kernel
theorem dJxa1e45_init_da8c8_1 : decode cJxa1e45_init_da8c8 1 = .ok (.invokespecial 1, 3) := by decide +kernel
theorem dJxa1e45_init_da8c8_4 : decode cJxa1e45_init_da8c8 4 = .ok (.return_, 1) := by decide +kernel
theorem dJxc12de_init_da8c8_0 : decode cJxc12de_init_da8c8 0 = .ok (.aload_n 0, 1) := by decide +kernel
theorem dJxc12de_init_da8c8_1 : decode cJxc12de_init_da8c8 1 = .ok (.invokespecial 1, 3) := by decide +kernel
theorem dJxc12de_init_da8c8_4 : decode cJxc12de_init_da8c8 4 = .ok (.aload_n 0, 1) := by decide +kernel
theorem dJxc12de_init_da8c8_5 : decode cJxc12de_init_da8c8 5 = .ok (.iconst 0, 1) := by decide +kernel
theorem dJxc12de_init_da8c8_6 : decode cJxc12de_init_da8c8 6 = .ok (.putfield 7, 3) := by decide +kernel
theorem dJxc12de_init_da8c8_9 : decode cJxc12de_init_da8c8 9 = .ok (.return_, 1) := by decide +kernel
theorem dJx4a65c_init_da8c8_0 : decode cJx4a65c_init_da8c8 0 = .ok (.aload_n 0, 1) := by decide +kernel
theorem dJx4a65c_init_da8c8_1 : decode cJx4a65c_init_da8c8 1 = .ok (.invokespecial 1, 3) := by decide +kernel
theorem dJx4a65c_init_da8c8_4 : decode cJx4a65c_init_da8c8 4 = .ok (.aload_n 0, 1) := by decide +kernel
theorem dJx4a65c_init_da8c8_5 : decode cJx4a65c_init_da8c8 5 = .ok (.getstatic 39, 3) := by decide +kernel
theorem dJx4a65c_init_da8c8_8 : decode cJx4a65c_init_da8c8 8 = .ok (.putfield 9, 3) := by decide +kernel
theorem dJx4a65c_init_da8c8_11 : decode cJx4a65c_init_da8c8 11 = .ok (.return_, 1) := by decide +kernel
theorem dX0_init_0 : decode cX0_init 0 = .ok (.aload_n 0, 1) := by decide +kernel
theorem dX0_init_1 : decode cX0_init 1 = .ok (.invokespecial 3, 3) := by decide +kernel
theorem dX0_init_4 : decode cX0_init 4 = .ok (.aload_n 0, 1) := by decide +kernel
theorem dX0_init_5 : decode cX0_init 5 = .ok (.bipush 16, 2) := by decide +kernel
theorem dX0_init_7 : decode cX0_init 7 = .ok (.newarray .int, 2) := by decide +kernel
theorem dX0_init_9 : decode cX0_init 9 = .ok (.putfield 9, 3) := by decide +kernel
theorem dX0_init_12 : decode cX0_init 12 = .ok (.return_, 1) := by decide +kernel
theorem dX4_init_0 : decode cX4_init 0 = .ok (.aload_n 0, 1) := by decide +kernel
theorem dX4_init_1 : decode cX4_init 1 = .ok (.invokespecial 3, 3) := by decide +kernel
theorem dX4_init_4 : decode cX4_init 4 = .ok (.aload_n 0, 1) := by decide +kernel
theorem dX4_init_5 : decode cX4_init 5 = .ok (.bipush 16, 2) := by decide +kernel
theorem dX4_init_7 : decode cX4_init 7 = .ok (.newarray .int, 2) := by decide +kernel
theorem dX4_init_9 : decode cX4_init 9 = .ok (.putfield 9, 3) := by decide +kernel
theorem dX4_init_12 : decode cX4_init 12 = .ok (.aload_n 0, 1) := by decide +kernel
theorem dX4_init_13 : decode cX4_init 13 = .ok (.bipush 16, 2) := by decide +kernel
theorem dX4_init_15 : decode cX4_init 15 = .ok (.newarray .int, 2) := by decide +kernel
theorem dX4_init_17 : decode cX4_init 17 = .ok (.putfield 15, 3) := by decide +kernel
theorem dX4_init_20 : decode cX4_init 20 = .ok (.aload_n 0, 1) := by decide +kernel
theorem dX4_init_21 : decode cX4_init 21 = .ok (.iconst 0, 1) := by decide +kernel
theorem dX4_init_22 : decode cX4_init 22 = .ok (.putfield 18, 3) := by decide +kernel
theorem dX4_init_25 : decode cX4_init 25 = .ok (.return_, 1) := by decide +kernel
theorem dX5_init_0 : decode cX5_init 0 = .ok (.aload_n 0, 1) := by decide +kernel
theorem dX5_init_1 : decode cX5_init 1 = .ok (.invokespecial 3, 3) := by decide +kernel
theorem dX5_init_4 : decode cX5_init 4 = .ok (.aload_n 0, 1) := by decide +kernel
theorem dX5_init_5 : decode cX5_init 5 = .ok (.new 9, 3) := by decide +kernel
theorem dX5_init_8 : decode cX5_init 8 = .ok (.dup, 1) := by decide +kernel
theorem dX5_init_9 : decode cX5_init 9 = .ok (.invokespecial 11, 3) := by decide +kernel
theorem dX5_init_12 : decode cX5_init 12 = .ok (.putfield 12, 3) := by decide +kernel
theorem dX5_init_15 : decode cX5_init 15 = .ok (.aload_n 0, 1) := by decide +kernel
theorem dX5_init_16 : decode cX5_init 16 = .ok (.bipush 64, 2) := by decide +kernel
theorem dX5_init_18 : decode cX5_init 18 = .ok (.newarray .int, 2) := by decide +kernel
theorem dX5_init_20 : decode cX5_init 20 = .ok (.putfield 18, 3) := by decide +kernel
theorem dX5_init_23 : decode cX5_init 23 = .ok (.aload_n 0, 1) := by decide +kernel
theorem dX5_init_24 : decode cX5_init 24 = .ok (.bipush 16, 2) := by decide +kernel
theorem dX5_init_26 : decode cX5_init 26 = .ok (.newarray .int, 2) := by decide +kernel
theorem dX5_init_28 : decode cX5_init 28 = .ok (.putfield 22, 3) := by decide +kernel
theorem dX5_init_31 : decode cX5_init 31 = .ok (.aload_n 0, 1) := by decide +kernel
theorem dX5_init_32 : decode cX5_init 32 = .ok (.iconst 0, 1) := by decide +kernel
theorem dX5_init_33 : decode cX5_init 33 = .ok (.putfield 25, 3) := by decide +kernel
theorem dX5_init_36 : decode cX5_init 36 = .ok (.aload_n 0, 1) := by decide +kernel
theorem dX5_init_37 : decode cX5_init 37 = .ok (.iconst 0, 1) := by decide +kernel
theorem dX5_init_38 : decode cX5_init 38 = .ok (.putfield 29, 3) := by decide +kernel
theorem dX5_init_41 : decode cX5_init 41 = .ok (.aload_n 0, 1) := by decide +kernel
theorem dX5_init_42 : decode cX5_init 42 = .ok (.bipush 110, 2) := by decide +kernel
theorem dX5_init_44 : decode cX5_init 44 = .ok (.putfield 32, 3) := by decide +kernel
theorem dX5_init_47 : decode cX5_init 47 = .ok (.return_, 1) := by decide +kernel
theorem dX3_init_0 : decode cX3_init 0 = .ok (.aload_n 0, 1) := by decide +kernel
theorem dX3_init_1 : decode cX3_init 1 = .ok (.invokespecial 3, 3) := by decide +kernel
theorem dX3_init_4 : decode cX3_init 4 = .ok (.aload_n 0, 1) := by decide +kernel
theorem dX3_init_5 : decode cX3_init 5 = .ok (.bipush 16, 2) := by decide +kernel
theorem dX3_init_7 : decode cX3_init 7 = .ok (.newarray .int, 2) := by decide +kernel
theorem dX3_init_9 : decode cX3_init 9 = .ok (.putfield 9, 3) := by decide +kernel
theorem dX3_init_12 : decode cX3_init 12 = .ok (.aload_n 0, 1) := by decide +kernel
theorem dX3_init_13 : decode cX3_init 13 = .ok (.bipush 16, 2) := by decide +kernel
theorem dX3_init_15 : decode cX3_init 15 = .ok (.newarray .int, 2) := by decide +kernel
theorem dX3_init_17 : decode cX3_init 17 = .ok (.putfield 15, 3) := by decide +kernel
theorem dX3_init_20 : decode cX3_init 20 = .ok (.aload_n 0, 1) := by decide +kernel
theorem dX3_init_21 : decode cX3_init 21 = .ok (.new 18, 3) := by decide +kernel
theorem dX3_init_24 : decode cX3_init 24 = .ok (.dup, 1) := by decide +kernel
theorem dX3_init_25 : decode cX3_init 25 = .ok (.invokespecial 20, 3) := by decide +kernel
theorem dX3_init_28 : decode cX3_init 28 = .ok (.putfield 21, 3) := by decide +kernel
theorem dX3_init_31 : decode cX3_init 31 = .ok (.aload_n 0, 1) := by decide +kernel
theorem dX3_init_32 : decode cX3_init 32 = .ok (.new 25, 3) := by decide +kernel
theorem dX3_init_35 : decode cX3_init 35 = .ok (.dup, 1) := by decide +kernel
theorem dX3_init_36 : decode cX3_init 36 = .ok (.invokespecial 27, 3) := by decide +kernel
theorem dX3_init_39 : decode cX3_init 39 = .ok (.putfield 28, 3) := by decide +kernel
theorem dX3_init_42 : decode cX3_init 42 = .ok (.aload_n 0, 1) := by decide +kernel
theorem dX3_init_43 : decode cX3_init 43 = .ok (.new 32, 3) := by decide +kernel
theorem dX3_init_46 : decode cX3_init 46 = .ok (.dup, 1) := by decide +kernel
theorem dX3_init_47 : decode cX3_init 47 = .ok (.invokespecial 34, 3) := by decide +kernel
theorem dX3_init_50 : decode cX3_init 50 = .ok (.putfield 35, 3) := by decide +kernel
theorem dX3_init_53 : decode cX3_init 53 = .ok (.aload_n 0, 1) := by decide +kernel
theorem dX3_init_54 : decode cX3_init 54 = .ok (.iconst 0, 1) := by decide +kernel
theorem dX3_init_55 : decode cX3_init 55 = .ok (.putfield 39, 3) := by decide +kernel
theorem dX3_init_58 : decode cX3_init 58 = .ok (.aload_n 0, 1) := by decide +kernel
theorem dX3_init_59 : decode cX3_init 59 = .ok (.iconst 0, 1) := by decide +kernel
theorem dX3_init_60 : decode cX3_init 60 = .ok (.putfield 43, 3) := by decide +kernel
theorem dX3_init_63 : decode cX3_init 63 = .ok (.return_, 1) := by decide +kernel
theorem dX6_init_0 : decode cX6_init 0 = .ok (.aload_n 0, 1) := by decide +kernel
theorem dX6_init_1 : decode cX6_init 1 = .ok (.invokespecial 1, 3) := by decide +kernel
theorem dX6_init_4 : decode cX6_init 4 = .ok (.aload_n 0, 1) := by decide +kernel
theorem dX6_init_5 : decode cX6_init 5 = .ok (.new 7, 3) := by decide +kernel
theorem dX6_init_8 : decode cX6_init 8 = .ok (.dup, 1) := by decide +kernel
theorem dX6_init_9 : decode cX6_init 9 = .ok (.invokespecial 9, 3) := by decide +kernel
theorem dX6_init_12 : decode cX6_init 12 = .ok (.putfield 10, 3) := by decide +kernel
theorem dX6_init_15 : decode cX6_init 15 = .ok (.aload_n 0, 1) := by decide +kernel
theorem dX6_init_16 : decode cX6_init 16 = .ok (.new 16, 3) := by decide +kernel
theorem dX6_init_19 : decode cX6_init 19 = .ok (.dup, 1) := by decide +kernel
theorem dX6_init_20 : decode cX6_init 20 = .ok (.invokespecial 18, 3) := by decide +kernel
theorem dX6_init_23 : decode cX6_init 23 = .ok (.putfield 19, 3) := by decide +kernel
theorem dX6_init_26 : decode cX6_init 26 = .ok (.aload_n 0, 1) := by decide +kernel
theorem dX6_init_27 : decode cX6_init 27 = .ok (.new 23, 3) := by decide +kernel
theorem dX6_init_30 : decode cX6_init 30 = .ok (.dup, 1) := by decide +kernel
theorem dX6_init_31 : decode cX6_init 31 = .ok (.invokespecial 25, 3) := by decide +kernel
theorem dX6_init_34 : decode cX6_init 34 = .ok (.putfield 26, 3) := by decide +kernel
theorem dX6_init_37 : decode cX6_init 37 = .ok (.aload_n 0, 1) := by decide +kernel
theorem dX6_init_38 : decode cX6_init 38 = .ok (.new 30, 3) := by decide +kernel
theorem dX6_init_41 : decode cX6_init 41 = .ok (.dup, 1) := by decide +kernel
theorem dX6_init_42 : decode cX6_init 42 = .ok (.invokespecial 32, 3) := by decide +kernel
theorem dX6_init_45 : decode cX6_init 45 = .ok (.putfield 33, 3) := by decide +kernel
theorem dX6_init_48 : decode cX6_init 48 = .ok (.aload_n 0, 1) := by decide +kernel
theorem dX6_init_49 : decode cX6_init 49 = .ok (.aconst_null, 1) := by decide +kernel
theorem dX6_init_50 : decode cX6_init 50 = .ok (.putfield 37, 3) := by decide +kernel
theorem dX6_init_53 : decode cX6_init 53 = .ok (.aload_n 0, 1) := by decide +kernel
theorem dX6_init_54 : decode cX6_init 54 = .ok (.iconst 0, 1) := by decide +kernel
theorem dX6_init_55 : decode cX6_init 55 = .ok (.putfield 41, 3) := by decide +kernel
theorem dX6_init_58 : decode cX6_init 58 = .ok (.return_, 1) := by decide +kernel
theorem dX6_puzzle_0 : decode cX6_puzzle 0 = .ok (.aload_n 0, 1) := by decide +kernel
theorem dX6_puzzle_1 : decode cX6_puzzle 1 = .ok (.getfield 10, 3) := by decide +kernel
theorem dX6_puzzle_4 : decode cX6_puzzle 4 = .ok (.invokevirtual 45, 3) := by decide +kernel
theorem dX6_puzzle_7 : decode cX6_puzzle 7 = .ok (.bipush 8, 2) := by decide +kernel
theorem dX6_puzzle_9 : decode cX6_puzzle 9 = .ok (.if_icmp .lt 13, 3) := by decide +kernel
theorem dX6_puzzle_22 : decode cX6_puzzle 22 = .ok (.aload_n 0, 1) := by decide +kernel
theorem dX6_puzzle_23 : decode cX6_puzzle 23 = .ok (.getfield 10, 3) := by decide +kernel
theorem dX6_puzzle_26 : decode cX6_puzzle 26 = .ok (.new 56, 3) := by decide +kernel
theorem dX6_puzzle_29 : decode cX6_puzzle 29 = .ok (.dup, 1) := by decide +kernel
theorem dX6_puzzle_30 : decode cX6_puzzle 30 = .ok (.invokespecial 58, 3) := by decide +kernel
theorem dX6_puzzle_33 : decode cX6_puzzle 33 = .ok (.invokevirtual 59, 3) := by decide +kernel
theorem dX6_puzzle_36 : decode cX6_puzzle 36 = .ok (.pop, 1) := by decide +kernel
theorem dX6_puzzle_37 : decode cX6_puzzle 37 = .ok (.aload_n 0, 1) := by decide +kernel
theorem dX6_puzzle_38 : decode cX6_puzzle 38 = .ok (.getfield 10, 3) := by decide +kernel
theorem dX6_puzzle_41 : decode cX6_puzzle 41 = .ok (.invokevirtual 45, 3) := by decide +kernel
theorem dX6_puzzle_44 : decode cX6_puzzle 44 = .ok (.iconst 1, 1) := by decide +kernel
theorem dX6_puzzle_45 : decode cX6_puzzle 45 = .ok (.isub, 1) := by decide +kernel
theorem dX6_puzzle_46 : decode cX6_puzzle 46 = .ok (.ireturn, 1) := by decide +kernel
theorem dX1_init_0 : decode cX1_init 0 = .ok (.aload_n 0, 1) := by decide +kernel
theorem dX1_init_1 : decode cX1_init 1 = .ok (.invokespecial 3, 3) := by decide +kernel
theorem dX1_init_4 : decode cX1_init 4 = .ok (.aload_n 0, 1) := by decide +kernel
theorem dX1_init_5 : decode cX1_init 5 = .ok (.iload_n 1, 1) := by decide +kernel
theorem dX1_init_6 : decode cX1_init 6 = .ok (.invokestatic 9, 3) := by decide +kernel
theorem dX1_init_9 : decode cX1_init 9 = .ok (.newarray .int, 2) := by decide +kernel
theorem dX1_init_11 : decode cX1_init 11 = .ok (.putfield 15, 3) := by decide +kernel
theorem dX1_init_14 : decode cX1_init 14 = .ok (.aload_n 0, 1) := by decide +kernel
theorem dX1_init_15 : decode cX1_init 15 = .ok (.iload_n 2, 1) := by decide +kernel
theorem dX1_init_16 : decode cX1_init 16 = .ok (.putfield 21, 3) := by decide +kernel
theorem dX1_init_19 : decode cX1_init 19 = .ok (.iconst 0, 1) := by decide +kernel
theorem dX1_init_20 : decode cX1_init 20 = .ok (.istore_n 3, 1) := by decide +kernel
theorem dX1_init_21 : decode cX1_init 21 = .ok (.iconst 0, 1) := by decide +kernel
theorem dX1_init_22 : decode cX1_init 22 = .ok (.istore 4, 2) := by decide +kernel
theorem dX1_init_24 : decode cX1_init 24 = .ok (.iload 4, 2) := by decide +kernel
theorem dX1_init_26 : decode cX1_init 26 = .ok (.bipush 16, 2) := by decide +kernel
theorem dX1_init_28 : decode cX1_init 28 = .ok (.if_icmp .ge 38, 3) := by decide +kernel
theorem dX1_init_66 : decode cX1_init 66 = .ok (.return_, 1) := by decide +kernel
theorem dX1_init_31 : decode cX1_init 31 = .ok (.iload_n 3, 1) := by decide +kernel
theorem dX1_init_32 : decode cX1_init 32 = .ok (.aload_n 0, 1) := by decide +kernel
theorem dX1_init_33 : decode cX1_init 33 = .ok (.getfield 15, 3) := by decide +kernel
theorem dX1_init_36 : decode cX1_init 36 = .ok (.arraylength, 1) := by decide +kernel
theorem dX1_init_37 : decode cX1_init 37 = .ok (.if_icmp .ge 29, 3) := by decide +kernel
theorem dX1_init_40 : decode cX1_init 40 = .ok (.iload_n 1, 1) := by decide +kernel
theorem dX1_init_41 : decode cX1_init 41 = .ok (.iload 4, 2) := by decide +kernel
theorem dX1_init_43 : decode cX1_init 43 = .ok (.ishr, 1) := by decide +kernel
theorem dX1_init_44 : decode cX1_init 44 = .ok (.iconst 1, 1) := by decide +kernel
theorem dX1_init_45 : decode cX1_init 45 = .ok (.iand, 1) := by decide +kernel
theorem dX1_init_46 : decode cX1_init 46 = .ok (.ifCond .eq 14, 3) := by decide +kernel
theorem dX1_init_60 : decode cX1_init 60 = .ok (.iinc 4 1, 3) := by decide +kernel
theorem dX1_init_63 : decode cX1_init 63 = .ok (.goto (-39), 3) := by decide +kernel
theorem dX1_init_49 : decode cX1_init 49 = .ok (.aload_n 0, 1) := by decide +kernel
theorem dX1_init_50 : decode cX1_init 50 = .ok (.getfield 15, 3) := by decide +kernel
theorem dX1_init_53 : decode cX1_init 53 = .ok (.iload_n 3, 1) := by decide +kernel
theorem dX1_init_54 : decode cX1_init 54 = .ok (.iload 4, 2) := by decide +kernel
theorem dX1_init_56 : decode cX1_init 56 = .ok (.iastore, 1) := by decide +kernel
theorem dX1_init_57 : decode cX1_init 57 = .ok (.iinc 3 1, 3) := by decide +kernel
theorem dX6_puzzleAt_0 : decode cX6_puzzleAt 0 = .ok (.iload_n 1, 1) := by decide +kernel
theorem dX6_puzzleAt_1 : decode cX6_puzzleAt 1 = .ok (.ifCond .lt 14, 3) := by decide +kernel
theorem dX6_puzzleAt_4 : decode cX6_puzzleAt 4 = .ok (.iload_n 1, 1) := by decide +kernel
theorem dX6_puzzleAt_5 : decode cX6_puzzleAt 5 = .ok (.aload_n 0, 1) := by decide +kernel
theorem dX6_puzzleAt_6 : decode cX6_puzzleAt 6 = .ok (.getfield 10, 3) := by decide +kernel
theorem dX6_puzzleAt_9 : decode cX6_puzzleAt 9 = .ok (.invokevirtual 45, 3) := by decide +kernel
theorem dX6_puzzleAt_12 : decode cX6_puzzleAt 12 = .ok (.if_icmp .lt 13, 3) := by decide +kernel
theorem dX6_puzzleAt_25 : decode cX6_puzzleAt 25 = .ok (.aload_n 0, 1) := by decide +kernel
theorem dX6_puzzleAt_26 : decode cX6_puzzleAt 26 = .ok (.getfield 10, 3) := by decide +kernel
theorem dX6_puzzleAt_29 : decode cX6_puzzleAt 29 = .ok (.iload_n 1, 1) := by decide +kernel
theorem dX6_puzzleAt_30 : decode cX6_puzzleAt 30 = .ok (.invokevirtual 235, 3) := by decide +kernel
theorem dX6_puzzleAt_33 : decode cX6_puzzleAt 33 = .ok (.checkcast 56, 3) := by decide +kernel
theorem dX6_puzzleAt_36 : decode cX6_puzzleAt 36 = .ok (.areturn, 1) := by decide +kernel
theorem dX3_putCage_0 : decode cX3_putCage 0 = .ok (.aload_n 0, 1) := by decide +kernel
theorem dX3_putCage_1 : decode cX3_putCage 1 = .ok (.getfield 21, 3) := by decide +kernel
theorem dX3_putCage_4 : decode cX3_putCage 4 = .ok (.aload_n 1, 1) := by decide +kernel
theorem dX3_putCage_5 : decode cX3_putCage 5 = .ok (.invokevirtual 46, 3) := by decide +kernel
theorem dX3_putCage_8 : decode cX3_putCage 8 = .ok (.pop, 1) := by decide +kernel
theorem dX3_putCage_9 : decode cX3_putCage 9 = .ok (.aload_n 0, 1) := by decide +kernel
theorem dX3_putCage_10 : decode cX3_putCage 10 = .ok (.iconst 0, 1) := by decide +kernel
theorem dX3_putCage_11 : decode cX3_putCage 11 = .ok (.putfield 39, 3) := by decide +kernel
theorem dX3_putCage_14 : decode cX3_putCage 14 = .ok (.aload_n 0, 1) := by decide +kernel
theorem dX3_putCage_15 : decode cX3_putCage 15 = .ok (.iconst 0, 1) := by decide +kernel
theorem dX3_putCage_16 : decode cX3_putCage 16 = .ok (.putfield 43, 3) := by decide +kernel
theorem dX3_putCage_19 : decode cX3_putCage 19 = .ok (.return_, 1) := by decide +kernel
theorem dX6_addCage_0 : decode cX6_addCage 0 = .ok (.aload_n 0, 1) := by decide +kernel
theorem dX6_addCage_1 : decode cX6_addCage 1 = .ok (.iload_n 1, 1) := by decide +kernel
theorem dX6_addCage_2 : decode cX6_addCage 2 = .ok (.invokevirtual 63, 3) := by decide +kernel
theorem dX6_addCage_5 : decode cX6_addCage 5 = .ok (.astore 4, 2) := by decide +kernel
theorem dX6_addCage_7 : decode cX6_addCage 7 = .ok (.iload_n 3, 1) := by decide +kernel
theorem dX6_addCage_8 : decode cX6_addCage 8 = .ok (.iconst 2, 1) := by decide +kernel
theorem dX6_addCage_9 : decode cX6_addCage 9 = .ok (.if_icmp .lt 9, 3) := by decide +kernel
theorem dX6_addCage_12 : decode cX6_addCage 12 = .ok (.iload_n 3, 1) := by decide +kernel
theorem dX6_addCage_13 : decode cX6_addCage 13 = .ok (.bipush 16, 2) := by decide +kernel
theorem dX6_addCage_15 : decode cX6_addCage 15 = .ok (.if_icmp .le 13, 3) := by decide +kernel
theorem dX6_addCage_28 : decode cX6_addCage 28 = .ok (.iload_n 2, 1) := by decide +kernel
theorem dX6_addCage_29 : decode cX6_addCage 29 = .ok (.ifCond .lt 25, 3) := by decide +kernel
theorem dX6_addCage_32 : decode cX6_addCage 32 = .ok (.iload_n 2, 1) := by decide +kernel
theorem dX6_addCage_33 : decode cX6_addCage 33 = .ok (.ldc 87, 2) := by decide +kernel
theorem dX6_addCage_35 : decode cX6_addCage 35 = .ok (.if_icmp .ge 19, 3) := by decide +kernel
theorem dX6_addCage_38 : decode cX6_addCage 38 = .ok (.iload_n 2, 1) := by decide +kernel
theorem dX6_addCage_39 : decode cX6_addCage 39 = .ok (.invokestatic 88, 3) := by decide +kernel
theorem dX6_addCage_42 : decode cX6_addCage 42 = .ok (.iconst 2, 1) := by decide +kernel
theorem dX6_addCage_43 : decode cX6_addCage 43 = .ok (.if_icmp .lt 11, 3) := by decide +kernel
theorem dX6_addCage_46 : decode cX6_addCage 46 = .ok (.iload_n 2, 1) := by decide +kernel
theorem dX6_addCage_47 : decode cX6_addCage 47 = .ok (.invokestatic 88, 3) := by decide +kernel
theorem dX6_addCage_50 : decode cX6_addCage 50 = .ok (.iconst 4, 1) := by decide +kernel
theorem dX6_addCage_51 : decode cX6_addCage 51 = .ok (.if_icmp .le 13, 3) := by decide +kernel
theorem dX6_addCage_64 : decode cX6_addCage 64 = .ok (.aload 4, 2) := by decide +kernel
theorem dX6_addCage_66 : decode cX6_addCage 66 = .ok (.getfield 96, 3) := by decide +kernel
theorem dX6_addCage_69 : decode cX6_addCage 69 = .ok (.invokevirtual 45, 3) := by decide +kernel
theorem dX6_addCage_72 : decode cX6_addCage 72 = .ok (.bipush 6, 2) := by decide +kernel
theorem dX6_addCage_74 : decode cX6_addCage 74 = .ok (.if_icmp .lt 13, 3) := by decide +kernel
theorem dX6_addCage_87 : decode cX6_addCage 87 = .ok (.aload 4, 2) := by decide +kernel
theorem dX6_addCage_89 : decode cX6_addCage 89 = .ok (.new 104, 3) := by decide +kernel
theorem dX6_addCage_92 : decode cX6_addCage 92 = .ok (.dup, 1) := by decide +kernel
theorem dX6_addCage_93 : decode cX6_addCage 93 = .ok (.iload_n 2, 1) := by decide +kernel
theorem dX6_addCage_94 : decode cX6_addCage 94 = .ok (.iload_n 3, 1) := by decide +kernel
theorem dX6_addCage_95 : decode cX6_addCage 95 = .ok (.invokespecial 106, 3) := by decide +kernel
theorem dX6_addCage_98 : decode cX6_addCage 98 = .ok (.invokevirtual 108, 3) := by decide +kernel
theorem dX6_addCage_101 : decode cX6_addCage 101 = .ok (.aload 4, 2) := by decide +kernel
theorem dX6_addCage_103 : decode cX6_addCage 103 = .ok (.getfield 96, 3) := by decide +kernel
theorem dX6_addCage_106 : decode cX6_addCage 106 = .ok (.invokevirtual 45, 3) := by decide +kernel
theorem dX6_addCage_109 : decode cX6_addCage 109 = .ok (.ireturn, 1) := by decide +kernel
set_option maxHeartbeats 4000000 in
set_option maxRecDepth 100000 in
theorem c_Jxa1e45_init_da8c8 (l : Launch) (G : GG) (al : Nat) : Mv l G yJxa1e45_init_da8c8 cJxa1e45_init_da8c8 1 ({ frames := 1, cells := 0, slots := 0, locals := 20 } : Room) [.ref al] [(al, .inr (4, [.int (nI 0), .null, .int (nI 0)]))] (fun (u : Unit) => True) (fun (u : Unit) => [(al, .inr (4, [.int (nI 0), .null, .int (nI 0)]))]) := by
  intro sz
  refine Met.ofW (cc := cJxa1e45_init_da8c8) (maxL := 1) (ret := none) (by decide) rfl ?_
  intro p e s m args below meth c s₁ B9 hml hv
  obtain ⟨rfl, hsz, hP, hK, hD0, hE⟩ := hv
  have hx := B9.exec
  have hb := B9.bytes
  have hr := B9.returns
  have hts : ∀ w ∈ WW, w.before ([.ref al] : List Value).toArray s = true := fun w h => atoms_spec (ws := .code yJxa1e45_init_da8c8 cJxa1e45_init_da8c8 1 none :: WW) B9.pre w (List.mem_cons_of_mem _ h)
  have hown : s.vm.findClass RJxa1e45 = some m.cls := findClass_of_methodNamed B9.named
  have hin : meth.name = "<init>" := (name_of_methodNamed B9.named B9.method).1
  subst hsz
  have hD := hD0.self (sz := s.heap.size)
  generalize hAe : va_A [(al, .inr (4, [.int (nI 0), .null, .int (nI 0)]))] s.heap.size = A at hD hE ⊢
  have hA : ∀ q : Nat, s.heap.size ≤ q → A q := fun q h => by rw [← hAe]; exact Or.inr h
  have hl := lv_entry ([.ref al]) (n := 1) (Nat.le_of_ble_eq_true rfl)
  rw [lg_entry_eq]
  generalize (lg_sl ([.ref al]) ++ List.replicate (1 - (lg_sl ([.ref al])).length) Slot.unset).toArray = ls at hl ⊢
  have hl : lv_has ls 1 [(0, .ref al)] := hl
  refine qgen (fun Q hQ => ?_)
  refine hgen (fun H locs hP hD hS => ?_) hP hD
  refine lv_aload_n hx hb dJxa1e45_init_da8c8_0 rfl (lv_at hl 0 rfl) ?_
  refine W.objInit hx hb hown (hts _ q99) (hts _ q86) (hts _ q87) rfl (by rw [hml]; exact hl.1) rfl dJxa1e45_init_da8c8_1 (Nat.le_of_ble_eq_true rfl) (Nat.le_of_ble_eq_true rfl) ?_
  refine W.eq (g2 := F0 m 4 ls []) rfl ?_
  have hP9 := hP.sub (ws' := [(al, .inr (4, [.int (nI 0), .null, .int (nI 0)]))]) [0] rfl
  have hD9 := hD.sub (ws' := [(al, .inr (4, [.int (nI 0), .null, .int (nI 0)]))]) [0] (by decide) rfl
  subst hQ
  exact W.vret hx hb hr (fun t ht hW => ⟨⟨(), rfl, trivial, by rw [ht]; exact hP9, hD9⟩, hS.F ht⟩) hS.2.2 dJxa1e45_init_da8c8_4
set_option maxHeartbeats 4000000 in
set_option maxRecDepth 100000 in
theorem c_Jxc12de_init_da8c8 (l : Launch) (G : GG) (al : Nat) : Mv l G yJxc12de_init_da8c8 cJxc12de_init_da8c8 1 ({ frames := 2, cells := 0, slots := 0, locals := 40 } : Room) [.ref al] [(al, .inr (4, [.int (nI 0), .null, .int (nI 0)]))] (fun (u : Unit) => True) (fun (u : Unit) => [(al, .inr (4, [.int (nI 0), .null, .int (nI 0)]))]) := by
  intro sz
  refine Met.ofW (cc := cJxc12de_init_da8c8) (maxL := 1) (ret := none) (by decide) rfl ?_
  intro p e s m args below meth c s₁ B9 hml hv
  obtain ⟨rfl, hsz, hP, hK, hD0, hE⟩ := hv
  have hx := B9.exec
  have hb := B9.bytes
  have hr := B9.returns
  have hts : ∀ w ∈ WW, w.before ([.ref al] : List Value).toArray s = true := fun w h => atoms_spec (ws := .code yJxc12de_init_da8c8 cJxc12de_init_da8c8 1 none :: WW) B9.pre w (List.mem_cons_of_mem _ h)
  have hown : s.vm.findClass RJxc12de = some m.cls := findClass_of_methodNamed B9.named
  have hin : meth.name = "<init>" := (name_of_methodNamed B9.named B9.method).1
  subst hsz
  have hD := hD0.self (sz := s.heap.size)
  generalize hAe : va_A [(al, .inr (4, [.int (nI 0), .null, .int (nI 0)]))] s.heap.size = A at hD hE ⊢
  have hA : ∀ q : Nat, s.heap.size ≤ q → A q := fun q h => by rw [← hAe]; exact Or.inr h
  have hl := lv_entry ([.ref al]) (n := 1) (Nat.le_of_ble_eq_true rfl)
  rw [lg_entry_eq]
  generalize (lg_sl ([.ref al]) ++ List.replicate (1 - (lg_sl ([.ref al])).length) Slot.unset).toArray = ls at hl ⊢
  have hl : lv_has ls 1 [(0, .ref al)] := hl
  refine qgen (fun Q hQ => ?_)
  refine hgen (fun H locs hP hD hS => ?_) hP hD
  refine lv_aload_n hx hb dJxc12de_init_da8c8_0 rfl (lv_at hl 0 rfl) ?_
  refine fin_v hP hD hS hA [0] [] (wr := []) rfl rfl (by decide) (by decide) (va_runI (As := []) (rest := []) ⟨hx, hb, hml, hown, hts⟩ (c_Jxa1e45_init_da8c8 l G al H.size) (cwI 0 hts (gI q98) rfl rfl rfl (hts _ q46) (hts _ q96) (hts _ q97) rfl (by decide +kernel) ⟨Nat.le_of_ble_eq_true rfl, Nat.le_of_ble_eq_true rfl⟩) (preS hK hE hP hD hS hA [0] rfl (by decide)) rfl rfl hl.1 rfl (lv_room (Nat.le_of_ble_eq_true rfl)) dJxc12de_init_da8c8_1 ⟨Nat.le_of_ble_eq_true rfl, Nat.le_of_ble_eq_true rfl⟩) (fun u9 hw_1 H locs hP hD hS => ?_)
  have hP : va_P (gD G) vwCl [(al, .inr (4, [.int (nI 0), .null, .int (nI 0)]))] H := hP
  have hD : va_D A [(al, .inr (4, [.int (nI 0), .null, .int (nI 0)]))] := hD
  refine lv_aload_n hx hb dJxc12de_init_da8c8_4 rfl (lv_at hl 0 rfl) ?_
  refine lv_iconst (v := nI 0) hx hb dJxc12de_init_da8c8_5 (by decide) ?_
  refine va_put (D := gD G) (ci := 4) (v := .int (nI 0)) (ty := .int) (C := RJx4a65c) (T := TJx4a65c) (N := 3) hx hb hts fwJx4a65c tyJx4a65c tyJx4a65c_ok nmJx4a65c hown hK hP hD hS 0 rfl rfl 0 (by decide) (hts _ q106) (fun _ h9 => h9) rfl (by decide +kernel) rfl rfl (Nat.le_of_ble_eq_true rfl) dJxc12de_init_da8c8_6 (fun H locs hP hD hS => ?_)
  have hP : va_P (gD G) vwCl [(al, .inr (4, [.int (nI 0), .null, .int (nI 0)]))] H := hP
  have hD : va_D A [(al, .inr (4, [.int (nI 0), .null, .int (nI 0)]))] := hD
  have hP9 := hP.sub (ws' := [(al, .inr (4, [.int (nI 0), .null, .int (nI 0)]))]) [0] rfl
  have hD9 := hD.sub (ws' := [(al, .inr (4, [.int (nI 0), .null, .int (nI 0)]))]) [0] (by decide) rfl
  subst hQ
  exact W.vret hx hb hr (fun t ht hW => ⟨⟨(), rfl, trivial, by rw [ht]; exact hP9, hD9⟩, hS.F ht⟩) hS.2.2 dJxc12de_init_da8c8_9
set_option maxHeartbeats 4000000 in
set_option maxRecDepth 100000 in
theorem c_Jx4a65c_init_da8c8 (l : Launch) (G : GG) (al : Nat) : Mv l G yJx4a65c_init_da8c8 cJx4a65c_init_da8c8 1 ({ frames := 3, cells := 0, slots := 0, locals := 60 } : Room) [.ref al] [(al, .inr (4, [.int (nI 0), .null, .int (nI 0)]))] (fun (u : Unit) => True) (fun (u : Unit) => [(al, .inr (4, [.int (nI 0), .ref (gE G), .int (nI 0)]))]) := by
  intro sz
  refine Met.ofW (cc := cJx4a65c_init_da8c8) (maxL := 1) (ret := none) (by decide) rfl ?_
  intro p e s m args below meth c s₁ B9 hml hv
  obtain ⟨rfl, hsz, hP, hK, hD0, hE⟩ := hv
  have hx := B9.exec
  have hb := B9.bytes
  have hr := B9.returns
  have hts : ∀ w ∈ WW, w.before ([.ref al] : List Value).toArray s = true := fun w h => atoms_spec (ws := .code yJx4a65c_init_da8c8 cJx4a65c_init_da8c8 1 none :: WW) B9.pre w (List.mem_cons_of_mem _ h)
  have hown : s.vm.findClass RJx4a65c = some m.cls := findClass_of_methodNamed B9.named
  have hin : meth.name = "<init>" := (name_of_methodNamed B9.named B9.method).1
  subst hsz
  have hD := hD0.self (sz := s.heap.size)
  generalize hAe : va_A [(al, .inr (4, [.int (nI 0), .null, .int (nI 0)]))] s.heap.size = A at hD hE ⊢
  have hA : ∀ q : Nat, s.heap.size ≤ q → A q := fun q h => by rw [← hAe]; exact Or.inr h
  have hl := lv_entry ([.ref al]) (n := 1) (Nat.le_of_ble_eq_true rfl)
  rw [lg_entry_eq]
  generalize (lg_sl ([.ref al]) ++ List.replicate (1 - (lg_sl ([.ref al])).length) Slot.unset).toArray = ls at hl ⊢
  have hl : lv_has ls 1 [(0, .ref al)] := hl
  refine qgen (fun Q hQ => ?_)
  refine hgen (fun H locs hP hD hS => ?_) hP hD
  refine lv_aload_n hx hb dJx4a65c_init_da8c8_0 rfl (lv_at hl 0 rfl) ?_
  refine fin_v hP hD hS hA [0] [] (wr := []) rfl rfl (by decide) (by decide) (va_runI (As := []) (rest := []) ⟨hx, hb, hml, hown, hts⟩ (c_Jxc12de_init_da8c8 l G al H.size) (cwI 0 hts (gI q95) rfl rfl rfl (hts _ q47) (hts _ q93) (hts _ q94) rfl (by decide +kernel) ⟨Nat.le_of_ble_eq_true rfl, Nat.le_of_ble_eq_true rfl⟩) (preS hK hE hP hD hS hA [0] rfl (by decide)) rfl rfl hl.1 rfl (lv_room (Nat.le_of_ble_eq_true rfl)) dJx4a65c_init_da8c8_1 ⟨Nat.le_of_ble_eq_true rfl, Nat.le_of_ble_eq_true rfl⟩) (fun u9 hw_1 H locs hP hD hS => ?_)
  have hP : va_P (gD G) vwCl [(al, .inr (4, [.int (nI 0), .null, .int (nI 0)]))] H := hP
  have hD : va_D A [(al, .inr (4, [.int (nI 0), .null, .int (nI 0)]))] := hD
  refine lv_aload_n hx hb dJx4a65c_init_da8c8_4 rfl (lv_at hl 0 rfl) ?_
  refine va_gets (v := .ref (gE G)) hx hb hE.2.1 hS hown (hts _ q100) (fun _ h9 => h9) dJx4a65c_init_da8c8_5 ?_
  refine va_put (D := gD G) (ci := 4) (v := .ref (gE G)) (ty := .array (.object "java/lang/Object")) (C := RJx4a65c) (T := TJx4a65c) (N := 3) hx hb hts fwJx4a65c tyJx4a65c tyJx4a65c_ok nmJx4a65c hown hK hP hD hS 0 rfl rfl 1 (by decide) (hts _ q102) (fun _ h9 => h9) rfl (by decide +kernel) rfl rfl (Nat.le_of_ble_eq_true rfl) dJx4a65c_init_da8c8_8 (fun H locs hP hD hS => ?_)
  have hP : va_P (gD G) vwCl [(al, .inr (4, [.int (nI 0), .ref (gE G), .int (nI 0)]))] H := hP
  have hD : va_D A [(al, .inr (4, [.int (nI 0), .ref (gE G), .int (nI 0)]))] := hD
  have hP9 := hP.sub (ws' := [(al, .inr (4, [.int (nI 0), .ref (gE G), .int (nI 0)]))]) [0] rfl
  have hD9 := hD.sub (ws' := [(al, .inr (4, [.int (nI 0), .ref (gE G), .int (nI 0)]))]) [0] (by decide) rfl
  subst hQ
  exact W.vret hx hb hr (fun t ht hW => ⟨⟨(), rfl, trivial, by rw [ht]; exact hP9, hD9⟩, hS.F ht⟩) hS.2.2 dJx4a65c_init_da8c8_11
set_option maxHeartbeats 4000000 in
set_option maxRecDepth 100000 in
theorem c_X0_init (l : Launch) (G : GG) (b : Nat) : Mv l G yX0_init cX0_init 1 ({ frames := 1, cells := 1, slots := 16, locals := 20 } : Room) [.ref b] [(b, .inr (5, [.null]))] (fun (u : Nat × (Nat → Int32)) => True) (fun (u : Nat × (Nat → Int32)) => [(b, .inr (5, [.ref u.1])), (u.1, .inl (gyI G, 16, .inl u.2))]) := by
  intro sz
  refine Met.ofW (cc := cX0_init) (maxL := 1) (ret := none) (by decide) rfl ?_
  intro p e s m args below meth c s₁ B9 hml hv
  obtain ⟨rfl, hsz, hP, hK, hD0, hE⟩ := hv
  have hx := B9.exec
  have hb := B9.bytes
  have hr := B9.returns
  have hts : ∀ w ∈ WW, w.before ([.ref b] : List Value).toArray s = true := fun w h => atoms_spec (ws := .code yX0_init cX0_init 1 none :: WW) B9.pre w (List.mem_cons_of_mem _ h)
  have hown : s.vm.findClass RX0 = some m.cls := findClass_of_methodNamed B9.named
  have hin : meth.name = "<init>" := (name_of_methodNamed B9.named B9.method).1
  subst hsz
  have hD := hD0.self (sz := s.heap.size)
  generalize hAe : va_A [(b, .inr (5, [.null]))] s.heap.size = A at hD hE ⊢
  have hA : ∀ q : Nat, s.heap.size ≤ q → A q := fun q h => by rw [← hAe]; exact Or.inr h
  have hl := lv_entry ([.ref b]) (n := 1) (Nat.le_of_ble_eq_true rfl)
  rw [lg_entry_eq]
  generalize (lg_sl ([.ref b]) ++ List.replicate (1 - (lg_sl ([.ref b])).length) Slot.unset).toArray = ls at hl ⊢
  have hl : lv_has ls 1 [(0, .ref b)] := hl
  refine qgen (fun Q hQ => ?_)
  refine hgen (fun H locs hP hD hS => ?_) hP hD
  refine lv_aload_n hx hb dX0_init_0 rfl (lv_at hl 0 rfl) ?_
  refine W.objInit hx hb hown (hts _ q128) (hts _ q86) (hts _ q87) rfl (by rw [hml]; exact hl.1) rfl dX0_init_1 (Nat.le_of_ble_eq_true rfl) (Nat.le_of_ble_eq_true rfl) ?_
  refine W.eq (g2 := F0 m 4 ls []) rfl ?_
  refine lv_aload_n hx hb dX0_init_4 rfl (lv_at hl 0 rfl) ?_
  refine lv_bipush (v := nI 16) hx hb dX0_init_5 (by decide) ?_
  refine va_newa (D := gD G) (atype := .int) (ty := .int) (a0 := (16, .inl (fun _ => 0))) hx hb (hts _ q135) rfl hK hP hD hS hA (fun _ => rfl) (nI_pos (by omega)) (nI_clamp (by omega)) (Nat.le_of_ble_eq_true rfl) (Nat.le_of_ble_eq_true rfl) (Nat.le_of_ble_eq_true rfl) dX0_init_7 (fun q_1 cA_2 H hKn hP hD hS => ?_)
  obtain rfl := ty_one_I hK hKn
  have hP : va_P (gD G) vwCl [(b, .inr (5, [.null])), (q_1, .inl (gyI G, 16, .inl (fun _ => 0)))] H := hP
  have hD : va_D A [(b, .inr (5, [.null])), (q_1, .inl (gyI G, 16, .inl (fun _ => 0)))] := hD
  refine va_putF (D := gD G) (ci := 5) (v := .ref q_1) (ty := .array .int) (C := RX0) (T := TX0) (N := 1) hx hb hts fwX0 tyX0 tyX0_ok nmX0 hown hK hP hD hS 0 rfl rfl 0 (by decide) (hts _ q129) (fun _ h9 => h9) rfl hin rfl (by decide +kernel) rfl rfl (Nat.le_of_ble_eq_true rfl) dX0_init_9 (fun H locs hP hD hS => ?_)
  have hP : va_P (gD G) vwCl [(b, .inr (5, [.ref q_1])), (q_1, .inl (gyI G, 16, .inl (fun _ => 0)))] H := hP
  have hD : va_D A [(b, .inr (5, [.ref q_1])), (q_1, .inl (gyI G, 16, .inl (fun _ => 0)))] := hD
  have hP9 := hP.sub (ws' := [(b, .inr (5, [.ref q_1])), (q_1, .inl (gyI G, 16, .inl (fun _ => 0)))]) [0, 1] rfl
  have hD9 := hD.sub (ws' := [(b, .inr (5, [.ref q_1])), (q_1, .inl (gyI G, 16, .inl (fun _ => 0)))]) [0, 1] (by decide) rfl
  subst hQ
  exact W.vret hx hb hr (fun t ht hW => ⟨⟨(q_1, (fun _ => 0)), rfl, trivial, by rw [ht]; exact hP9, hD9⟩, hS.F ht⟩) hS.2.2 dX0_init_12
set_option maxHeartbeats 4000000 in
set_option maxRecDepth 100000 in
theorem c_X4_init (l : Launch) (G : GG) (sh : Nat) : Mv l G yX4_init cX4_init 1 ({ frames := 1, cells := 2, slots := 32, locals := 20 } : Room) [.ref sh] [(sh, .inr (9, [.null, .null, .int (nI 0)]))] (fun (u : Nat × Nat × (Nat → Int32) × (Nat → Int32)) => True) (fun (u : Nat × Nat × (Nat → Int32) × (Nat → Int32)) => [(sh, .inr (9, [.ref u.1, .ref u.2.1, .int (nI 0)])), (u.1, .inl (gyI G, 16, .inl u.2.2.1)), (u.2.1, .inl (gyI G, 16, .inl u.2.2.2))]) := by
  intro sz
  refine Met.ofW (cc := cX4_init) (maxL := 1) (ret := none) (by decide) rfl ?_
  intro p e s m args below meth c s₁ B9 hml hv
  obtain ⟨rfl, hsz, hP, hK, hD0, hE⟩ := hv
  have hx := B9.exec
  have hb := B9.bytes
  have hr := B9.returns
  have hts : ∀ w ∈ WW, w.before ([.ref sh] : List Value).toArray s = true := fun w h => atoms_spec (ws := .code yX4_init cX4_init 1 none :: WW) B9.pre w (List.mem_cons_of_mem _ h)
  have hown : s.vm.findClass RX4 = some m.cls := findClass_of_methodNamed B9.named
  have hin : meth.name = "<init>" := (name_of_methodNamed B9.named B9.method).1
  subst hsz
  have hD := hD0.self (sz := s.heap.size)
  generalize hAe : va_A [(sh, .inr (9, [.null, .null, .int (nI 0)]))] s.heap.size = A at hD hE ⊢
  have hA : ∀ q : Nat, s.heap.size ≤ q → A q := fun q h => by rw [← hAe]; exact Or.inr h
  have hl := lv_entry ([.ref sh]) (n := 1) (Nat.le_of_ble_eq_true rfl)
  rw [lg_entry_eq]
  generalize (lg_sl ([.ref sh]) ++ List.replicate (1 - (lg_sl ([.ref sh])).length) Slot.unset).toArray = ls at hl ⊢
  have hl : lv_has ls 1 [(0, .ref sh)] := hl
  refine qgen (fun Q hQ => ?_)
  refine hgen (fun H locs hP hD hS => ?_) hP hD
  refine lv_aload_n hx hb dX4_init_0 rfl (lv_at hl 0 rfl) ?_
  refine W.objInit hx hb hown (hts _ q166) (hts _ q86) (hts _ q87) rfl (by rw [hml]; exact hl.1) rfl dX4_init_1 (Nat.le_of_ble_eq_true rfl) (Nat.le_of_ble_eq_true rfl) ?_
  refine W.eq (g2 := F0 m 4 ls []) rfl ?_
  refine lv_aload_n hx hb dX4_init_4 rfl (lv_at hl 0 rfl) ?_
  refine lv_bipush (v := nI 16) hx hb dX4_init_5 (by decide) ?_
  refine va_newa (D := gD G) (atype := .int) (ty := .int) (a0 := (16, .inl (fun _ => 0))) hx hb (hts _ q135) rfl hK hP hD hS hA (fun _ => rfl) (nI_pos (by omega)) (nI_clamp (by omega)) (Nat.le_of_ble_eq_true rfl) (Nat.le_of_ble_eq_true rfl) (Nat.le_of_ble_eq_true rfl) dX4_init_7 (fun q_1 cA_2 H hKn hP hD hS => ?_)
  obtain rfl := ty_one_I hK hKn
  have hP : va_P (gD G) vwCl [(sh, .inr (9, [.null, .null, .int (nI 0)])), (q_1, .inl (gyI G, 16, .inl (fun _ => 0)))] H := hP
  have hD : va_D A [(sh, .inr (9, [.null, .null, .int (nI 0)])), (q_1, .inl (gyI G, 16, .inl (fun _ => 0)))] := hD
  refine va_putF (D := gD G) (ci := 9) (v := .ref q_1) (ty := .array .int) (C := RX4) (T := TX4) (N := 3) hx hb hts fwX4 tyX4 tyX4_ok nmX4 hown hK hP hD hS 0 rfl rfl 0 (by decide) (hts _ q167) (fun _ h9 => h9) rfl hin rfl (by decide +kernel) rfl rfl (Nat.le_of_ble_eq_true rfl) dX4_init_9 (fun H locs hP hD hS => ?_)
  have hP : va_P (gD G) vwCl [(sh, .inr (9, [.ref q_1, .null, .int (nI 0)])), (q_1, .inl (gyI G, 16, .inl (fun _ => 0)))] H := hP
  have hD : va_D A [(sh, .inr (9, [.ref q_1, .null, .int (nI 0)])), (q_1, .inl (gyI G, 16, .inl (fun _ => 0)))] := hD
  refine lv_aload_n hx hb dX4_init_12 rfl (lv_at hl 0 rfl) ?_
  refine lv_bipush (v := nI 16) hx hb dX4_init_13 (by decide) ?_
  refine va_newa (D := gD G) (atype := .int) (ty := .int) (a0 := (16, .inl (fun _ => 0))) hx hb (hts _ q135) rfl hK hP hD hS hA (fun _ => rfl) (nI_pos (by omega)) (nI_clamp (by omega)) (Nat.le_of_ble_eq_true rfl) (Nat.le_of_ble_eq_true rfl) (Nat.le_of_ble_eq_true rfl) dX4_init_15 (fun q_3 cA_4 H hKn hP hD hS => ?_)
  obtain rfl := ty_one_I hK hKn
  have hP : va_P (gD G) vwCl [(sh, .inr (9, [.ref q_1, .null, .int (nI 0)])), (q_1, .inl (gyI G, 16, .inl (fun _ => 0))), (q_3, .inl (gyI G, 16, .inl (fun _ => 0)))] H := hP
  have hD : va_D A [(sh, .inr (9, [.ref q_1, .null, .int (nI 0)])), (q_1, .inl (gyI G, 16, .inl (fun _ => 0))), (q_3, .inl (gyI G, 16, .inl (fun _ => 0)))] := hD
  refine va_putF (D := gD G) (ci := 9) (v := .ref q_3) (ty := .array .int) (C := RX4) (T := TX4) (N := 3) hx hb hts fwX4 tyX4 tyX4_ok nmX4 hown hK hP hD hS 0 rfl rfl 1 (by decide) (hts _ q168) (fun _ h9 => h9) rfl hin rfl (by decide +kernel) rfl rfl (Nat.le_of_ble_eq_true rfl) dX4_init_17 (fun H locs hP hD hS => ?_)
  have hP : va_P (gD G) vwCl [(sh, .inr (9, [.ref q_1, .ref q_3, .int (nI 0)])), (q_1, .inl (gyI G, 16, .inl (fun _ => 0))), (q_3, .inl (gyI G, 16, .inl (fun _ => 0)))] H := hP
  have hD : va_D A [(sh, .inr (9, [.ref q_1, .ref q_3, .int (nI 0)])), (q_1, .inl (gyI G, 16, .inl (fun _ => 0))), (q_3, .inl (gyI G, 16, .inl (fun _ => 0)))] := hD
  refine lv_aload_n hx hb dX4_init_20 rfl (lv_at hl 0 rfl) ?_
  refine lv_iconst (v := nI 0) hx hb dX4_init_21 (by decide) ?_
  refine va_put (D := gD G) (ci := 9) (v := .int (nI 0)) (ty := .int) (C := RX4) (T := TX4) (N := 3) hx hb hts fwX4 tyX4 tyX4_ok nmX4 hown hK hP hD hS 0 rfl rfl 2 (by decide) (hts _ q170) (fun _ h9 => h9) rfl (by decide +kernel) rfl rfl (Nat.le_of_ble_eq_true rfl) dX4_init_22 (fun H locs hP hD hS => ?_)
  have hP : va_P (gD G) vwCl [(sh, .inr (9, [.ref q_1, .ref q_3, .int (nI 0)])), (q_1, .inl (gyI G, 16, .inl (fun _ => 0))), (q_3, .inl (gyI G, 16, .inl (fun _ => 0)))] H := hP
  have hD : va_D A [(sh, .inr (9, [.ref q_1, .ref q_3, .int (nI 0)])), (q_1, .inl (gyI G, 16, .inl (fun _ => 0))), (q_3, .inl (gyI G, 16, .inl (fun _ => 0)))] := hD
  have hP9 := hP.sub (ws' := [(sh, .inr (9, [.ref q_1, .ref q_3, .int (nI 0)])), (q_1, .inl (gyI G, 16, .inl (fun _ => 0))), (q_3, .inl (gyI G, 16, .inl (fun _ => 0)))]) [0, 1, 2] rfl
  have hD9 := hD.sub (ws' := [(sh, .inr (9, [.ref q_1, .ref q_3, .int (nI 0)])), (q_1, .inl (gyI G, 16, .inl (fun _ => 0))), (q_3, .inl (gyI G, 16, .inl (fun _ => 0)))]) [0, 1, 2] (by decide) rfl
  subst hQ
  exact W.vret hx hb hr (fun t ht hW => ⟨⟨(q_1, q_3, (fun _ => 0), (fun _ => 0)), rfl, trivial, by rw [ht]; exact hP9, hD9⟩, hS.F ht⟩) hS.2.2 dX4_init_25
set_option maxHeartbeats 4000000 in
set_option maxRecDepth 100000 in
theorem c_X5_init (l : Launch) (G : GG) (sv : Nat) : Mv l G yX5_init cX5_init 1 ({ frames := 2, cells := 4, slots := 97, locals := 40 } : Room) [.ref sv] [(sv, .inr (10, [.null, .null, .null, .int (nI 0), .int (nI 0), .int (nI 0)]))] (fun (u : Nat × Nat × Nat × Nat × (Nat → Int32) × (Nat → Int32) × (Nat → Int32)) => True) (fun (u : Nat × Nat × Nat × Nat × (Nat → Int32) × (Nat → Int32) × (Nat → Int32)) => [(sv, .inr (10, [.ref u.1, .ref u.2.2.1, .ref u.2.2.2.1, .int (nI 0), .int (nI 0), .int (nI 110)])), (u.1, .inr (5, [.ref u.2.1])), (u.2.1, .inl (gyI G, 16, .inl u.2.2.2.2.1)), (u.2.2.1, .inl (gyI G, 64, .inl u.2.2.2.2.2.1)), (u.2.2.2.1, .inl (gyI G, 16, .inl u.2.2.2.2.2.2))]) := by
  intro sz
  refine Met.ofW (cc := cX5_init) (maxL := 1) (ret := none) (by decide) rfl ?_
  intro p e s m args below meth c s₁ B9 hml hv
  obtain ⟨rfl, hsz, hP, hK, hD0, hE⟩ := hv
  have hx := B9.exec
  have hb := B9.bytes
  have hr := B9.returns
  have hts : ∀ w ∈ WW, w.before ([.ref sv] : List Value).toArray s = true := fun w h => atoms_spec (ws := .code yX5_init cX5_init 1 none :: WW) B9.pre w (List.mem_cons_of_mem _ h)
  have hown : s.vm.findClass RX5 = some m.cls := findClass_of_methodNamed B9.named
  have hin : meth.name = "<init>" := (name_of_methodNamed B9.named B9.method).1
  subst hsz
  have hD := hD0.self (sz := s.heap.size)
  generalize hAe : va_A [(sv, .inr (10, [.null, .null, .null, .int (nI 0), .int (nI 0), .int (nI 0)]))] s.heap.size = A at hD hE ⊢
  have hA : ∀ q : Nat, s.heap.size ≤ q → A q := fun q h => by rw [← hAe]; exact Or.inr h
  have hl := lv_entry ([.ref sv]) (n := 1) (Nat.le_of_ble_eq_true rfl)
  rw [lg_entry_eq]
  generalize (lg_sl ([.ref sv]) ++ List.replicate (1 - (lg_sl ([.ref sv])).length) Slot.unset).toArray = ls at hl ⊢
  have hl : lv_has ls 1 [(0, .ref sv)] := hl
  refine qgen (fun Q hQ => ?_)
  refine hgen (fun H locs hP hD hS => ?_) hP hD
  refine lv_aload_n hx hb dX5_init_0 rfl (lv_at hl 0 rfl) ?_
  refine W.objInit hx hb hown (hts _ q122) (hts _ q86) (hts _ q87) rfl (by rw [hml]; exact hl.1) rfl dX5_init_1 (Nat.le_of_ble_eq_true rfl) (Nat.le_of_ble_eq_true rfl) ?_
  refine W.eq (g2 := F0 m 4 ls []) rfl ?_
  refine lv_aload_n hx hb dX5_init_4 rfl (lv_at hl 0 rfl) ?_
  refine va_new (D := gD G) (ci := 5) (fs := [.null]) (C := RX0) (T := TX0) (N := 1) hx hb hts fwX0 tyX0 tyX0_ok hown (hts _ q123) (hts _ q124) (hts _ q50) hK hP hD hS hA rfl (fun j hj => by rcases (show j = 0 by omega) with rfl <;> rfl) (Nat.le_of_ble_eq_true rfl) (Nat.le_of_ble_eq_true rfl) dX5_init_5 (fun q_1 H hP hD hS => ?_)
  have hP : va_P (gD G) vwCl [(sv, .inr (10, [.null, .null, .null, .int (nI 0), .int (nI 0), .int (nI 0)])), (q_1, .inr (5, [.null]))] H := hP
  have hD : va_D A [(sv, .inr (10, [.null, .null, .null, .int (nI 0), .int (nI 0), .int (nI 0)])), (q_1, .inr (5, [.null]))] := hD
  refine lv_dup hx hb dX5_init_8 rfl ?_
  refine fin_v hP hD hS hA [1] [0] (wr := [(sv, .inr (10, [.null, .null, .null, .int (nI 0), .int (nI 0), .int (nI 0)]))]) rfl rfl (by decide) (by decide) (va_runIN (As := []) (rest := [.ref q_1, .ref sv]) ⟨hx, hb, hml, hown, hts⟩ (c_X0_init l G q_1 H.size) ⟨(va_cnB 0 hts (gI q127) rfl rfl rfl (hE.1.1 _ nq125) (hts _ q50) (by decide +kernel) ⟨Nat.le_of_ble_eq_true rfl, Nat.le_of_ble_eq_true rfl⟩), rfl, hts _ q126⟩ (preS hK hE hP hD hS hA [1] rfl (by decide)) rfl rfl hl.1 rfl (lv_room (Nat.le_of_ble_eq_true rfl)) dX5_init_9 ⟨Nat.le_of_ble_eq_true rfl, Nat.le_of_ble_eq_true rfl⟩) (fun u9 hw_4 H locs hP hD hS => ?_)
  obtain ⟨mm_2, f_3⟩ := u9
  have hP : va_P (gD G) vwCl [(sv, .inr (10, [.null, .null, .null, .int (nI 0), .int (nI 0), .int (nI 0)])), (q_1, .inr (5, [.ref mm_2])), (mm_2, .inl (gyI G, 16, .inl f_3))] H := hP
  have hD : va_D A [(sv, .inr (10, [.null, .null, .null, .int (nI 0), .int (nI 0), .int (nI 0)])), (q_1, .inr (5, [.ref mm_2])), (mm_2, .inl (gyI G, 16, .inl f_3))] := hD
  refine va_putF (D := gD G) (ci := 10) (v := .ref q_1) (ty := .object "Pegboardry$Board") (C := RX5) (T := TX5) (N := 6) hx hb hts fwX5 tyX5 tyX5_ok nmX5 hown hK hP hD hS 0 rfl rfl 0 (by decide) (hts _ q136) (fun _ h9 => h9) rfl hin rfl (by decide +kernel) rfl rfl (Nat.le_of_ble_eq_true rfl) dX5_init_12 (fun H locs hP hD hS => ?_)
  have hP : va_P (gD G) vwCl [(sv, .inr (10, [.ref q_1, .null, .null, .int (nI 0), .int (nI 0), .int (nI 0)])), (q_1, .inr (5, [.ref mm_2])), (mm_2, .inl (gyI G, 16, .inl f_3))] H := hP
  have hD : va_D A [(sv, .inr (10, [.ref q_1, .null, .null, .int (nI 0), .int (nI 0), .int (nI 0)])), (q_1, .inr (5, [.ref mm_2])), (mm_2, .inl (gyI G, 16, .inl f_3))] := hD
  refine lv_aload_n hx hb dX5_init_15 rfl (lv_at hl 0 rfl) ?_
  refine lv_bipush (v := nI 64) hx hb dX5_init_16 (by decide) ?_
  refine va_newa (D := gD G) (atype := .int) (ty := .int) (a0 := (64, .inl (fun _ => 0))) hx hb (hts _ q135) rfl hK hP hD hS hA (fun _ => rfl) (nI_pos (by omega)) (nI_clamp (by omega)) (Nat.le_of_ble_eq_true rfl) (Nat.le_of_ble_eq_true rfl) (Nat.le_of_ble_eq_true rfl) dX5_init_18 (fun q_6 cA_7 H hKn hP hD hS => ?_)
  obtain rfl := ty_one_I hK hKn
  have hP : va_P (gD G) vwCl [(sv, .inr (10, [.ref q_1, .null, .null, .int (nI 0), .int (nI 0), .int (nI 0)])), (q_1, .inr (5, [.ref mm_2])), (mm_2, .inl (gyI G, 16, .inl f_3)), (q_6, .inl (gyI G, 64, .inl (fun _ => 0)))] H := hP
  have hD : va_D A [(sv, .inr (10, [.ref q_1, .null, .null, .int (nI 0), .int (nI 0), .int (nI 0)])), (q_1, .inr (5, [.ref mm_2])), (mm_2, .inl (gyI G, 16, .inl f_3)), (q_6, .inl (gyI G, 64, .inl (fun _ => 0)))] := hD
  refine va_putF (D := gD G) (ci := 10) (v := .ref q_6) (ty := .array .int) (C := RX5) (T := TX5) (N := 6) hx hb hts fwX5 tyX5 tyX5_ok nmX5 hown hK hP hD hS 0 rfl rfl 1 (by decide) (hts _ q138) (fun _ h9 => h9) rfl hin rfl (by decide +kernel) rfl rfl (Nat.le_of_ble_eq_true rfl) dX5_init_20 (fun H locs hP hD hS => ?_)
  have hP : va_P (gD G) vwCl [(sv, .inr (10, [.ref q_1, .ref q_6, .null, .int (nI 0), .int (nI 0), .int (nI 0)])), (q_1, .inr (5, [.ref mm_2])), (mm_2, .inl (gyI G, 16, .inl f_3)), (q_6, .inl (gyI G, 64, .inl (fun _ => 0)))] H := hP
  have hD : va_D A [(sv, .inr (10, [.ref q_1, .ref q_6, .null, .int (nI 0), .int (nI 0), .int (nI 0)])), (q_1, .inr (5, [.ref mm_2])), (mm_2, .inl (gyI G, 16, .inl f_3)), (q_6, .inl (gyI G, 64, .inl (fun _ => 0)))] := hD
  refine lv_aload_n hx hb dX5_init_23 rfl (lv_at hl 0 rfl) ?_
  refine lv_bipush (v := nI 16) hx hb dX5_init_24 (by decide) ?_
  refine va_newa (D := gD G) (atype := .int) (ty := .int) (a0 := (16, .inl (fun _ => 0))) hx hb (hts _ q135) rfl hK hP hD hS hA (fun _ => rfl) (nI_pos (by omega)) (nI_clamp (by omega)) (Nat.le_of_ble_eq_true rfl) (Nat.le_of_ble_eq_true rfl) (Nat.le_of_ble_eq_true rfl) dX5_init_26 (fun q_8 cA_9 H hKn hP hD hS => ?_)
  obtain rfl := ty_one_I hK hKn
  have hP : va_P (gD G) vwCl [(sv, .inr (10, [.ref q_1, .ref q_6, .null, .int (nI 0), .int (nI 0), .int (nI 0)])), (q_1, .inr (5, [.ref mm_2])), (mm_2, .inl (gyI G, 16, .inl f_3)), (q_6, .inl (gyI G, 64, .inl (fun _ => 0))), (q_8, .inl (gyI G, 16, .inl (fun _ => 0)))] H := hP
  have hD : va_D A [(sv, .inr (10, [.ref q_1, .ref q_6, .null, .int (nI 0), .int (nI 0), .int (nI 0)])), (q_1, .inr (5, [.ref mm_2])), (mm_2, .inl (gyI G, 16, .inl f_3)), (q_6, .inl (gyI G, 64, .inl (fun _ => 0))), (q_8, .inl (gyI G, 16, .inl (fun _ => 0)))] := hD
  refine va_putF (D := gD G) (ci := 10) (v := .ref q_8) (ty := .array .int) (C := RX5) (T := TX5) (N := 6) hx hb hts fwX5 tyX5 tyX5_ok nmX5 hown hK hP hD hS 0 rfl rfl 2 (by decide) (hts _ q140) (fun _ h9 => h9) rfl hin rfl (by decide +kernel) rfl rfl (Nat.le_of_ble_eq_true rfl) dX5_init_28 (fun H locs hP hD hS => ?_)
  have hP : va_P (gD G) vwCl [(sv, .inr (10, [.ref q_1, .ref q_6, .ref q_8, .int (nI 0), .int (nI 0), .int (nI 0)])), (q_1, .inr (5, [.ref mm_2])), (mm_2, .inl (gyI G, 16, .inl f_3)), (q_6, .inl (gyI G, 64, .inl (fun _ => 0))), (q_8, .inl (gyI G, 16, .inl (fun _ => 0)))] H := hP
  have hD : va_D A [(sv, .inr (10, [.ref q_1, .ref q_6, .ref q_8, .int (nI 0), .int (nI 0), .int (nI 0)])), (q_1, .inr (5, [.ref mm_2])), (mm_2, .inl (gyI G, 16, .inl f_3)), (q_6, .inl (gyI G, 64, .inl (fun _ => 0))), (q_8, .inl (gyI G, 16, .inl (fun _ => 0)))] := hD
  refine lv_aload_n hx hb dX5_init_31 rfl (lv_at hl 0 rfl) ?_
  refine lv_iconst (v := nI 0) hx hb dX5_init_32 (by decide) ?_
  refine va_put (D := gD G) (ci := 10) (v := .int (nI 0)) (ty := .int) (C := RX5) (T := TX5) (N := 6) hx hb hts fwX5 tyX5 tyX5_ok nmX5 hown hK hP hD hS 0 rfl rfl 3 (by decide) (hts _ q142) (fun _ h9 => h9) rfl (by decide +kernel) rfl rfl (Nat.le_of_ble_eq_true rfl) dX5_init_33 (fun H locs hP hD hS => ?_)
  have hP : va_P (gD G) vwCl [(sv, .inr (10, [.ref q_1, .ref q_6, .ref q_8, .int (nI 0), .int (nI 0), .int (nI 0)])), (q_1, .inr (5, [.ref mm_2])), (mm_2, .inl (gyI G, 16, .inl f_3)), (q_6, .inl (gyI G, 64, .inl (fun _ => 0))), (q_8, .inl (gyI G, 16, .inl (fun _ => 0)))] H := hP
  have hD : va_D A [(sv, .inr (10, [.ref q_1, .ref q_6, .ref q_8, .int (nI 0), .int (nI 0), .int (nI 0)])), (q_1, .inr (5, [.ref mm_2])), (mm_2, .inl (gyI G, 16, .inl f_3)), (q_6, .inl (gyI G, 64, .inl (fun _ => 0))), (q_8, .inl (gyI G, 16, .inl (fun _ => 0)))] := hD
  refine lv_aload_n hx hb dX5_init_36 rfl (lv_at hl 0 rfl) ?_
  refine lv_iconst (v := nI 0) hx hb dX5_init_37 (by decide) ?_
  refine va_put (D := gD G) (ci := 10) (v := .int (nI 0)) (ty := .int) (C := RX5) (T := TX5) (N := 6) hx hb hts fwX5 tyX5 tyX5_ok nmX5 hown hK hP hD hS 0 rfl rfl 4 (by decide) (hts _ q144) (fun _ h9 => h9) rfl (by decide +kernel) rfl rfl (Nat.le_of_ble_eq_true rfl) dX5_init_38 (fun H locs hP hD hS => ?_)
  have hP : va_P (gD G) vwCl [(sv, .inr (10, [.ref q_1, .ref q_6, .ref q_8, .int (nI 0), .int (nI 0), .int (nI 0)])), (q_1, .inr (5, [.ref mm_2])), (mm_2, .inl (gyI G, 16, .inl f_3)), (q_6, .inl (gyI G, 64, .inl (fun _ => 0))), (q_8, .inl (gyI G, 16, .inl (fun _ => 0)))] H := hP
  have hD : va_D A [(sv, .inr (10, [.ref q_1, .ref q_6, .ref q_8, .int (nI 0), .int (nI 0), .int (nI 0)])), (q_1, .inr (5, [.ref mm_2])), (mm_2, .inl (gyI G, 16, .inl f_3)), (q_6, .inl (gyI G, 64, .inl (fun _ => 0))), (q_8, .inl (gyI G, 16, .inl (fun _ => 0)))] := hD
  refine lv_aload_n hx hb dX5_init_41 rfl (lv_at hl 0 rfl) ?_
  refine lv_bipush (v := nI 110) hx hb dX5_init_42 (by decide) ?_
  refine va_put (D := gD G) (ci := 10) (v := .int (nI 110)) (ty := .char) (C := RX5) (T := TX5) (N := 6) hx hb hts fwX5 tyX5 tyX5_ok nmX5 hown hK hP hD hS 0 rfl rfl 5 (by decide) (hts _ q146) (fun _ h9 => h9) rfl (by decide +kernel) (by decide) (by decide) (Nat.le_of_ble_eq_true rfl) dX5_init_44 (fun H locs hP hD hS => ?_)
  have hP : va_P (gD G) vwCl [(sv, .inr (10, [.ref q_1, .ref q_6, .ref q_8, .int (nI 0), .int (nI 0), .int (nI 110)])), (q_1, .inr (5, [.ref mm_2])), (mm_2, .inl (gyI G, 16, .inl f_3)), (q_6, .inl (gyI G, 64, .inl (fun _ => 0))), (q_8, .inl (gyI G, 16, .inl (fun _ => 0)))] H := hP
  have hD : va_D A [(sv, .inr (10, [.ref q_1, .ref q_6, .ref q_8, .int (nI 0), .int (nI 0), .int (nI 110)])), (q_1, .inr (5, [.ref mm_2])), (mm_2, .inl (gyI G, 16, .inl f_3)), (q_6, .inl (gyI G, 64, .inl (fun _ => 0))), (q_8, .inl (gyI G, 16, .inl (fun _ => 0)))] := hD
  have hP9 := hP.sub (ws' := [(sv, .inr (10, [.ref q_1, .ref q_6, .ref q_8, .int (nI 0), .int (nI 0), .int (nI 110)])), (q_1, .inr (5, [.ref mm_2])), (mm_2, .inl (gyI G, 16, .inl f_3)), (q_6, .inl (gyI G, 64, .inl (fun _ => 0))), (q_8, .inl (gyI G, 16, .inl (fun _ => 0)))]) [0, 1, 2, 3, 4] rfl
  have hD9 := hD.sub (ws' := [(sv, .inr (10, [.ref q_1, .ref q_6, .ref q_8, .int (nI 0), .int (nI 0), .int (nI 110)])), (q_1, .inr (5, [.ref mm_2])), (mm_2, .inl (gyI G, 16, .inl f_3)), (q_6, .inl (gyI G, 64, .inl (fun _ => 0))), (q_8, .inl (gyI G, 16, .inl (fun _ => 0)))]) [0, 1, 2, 3, 4] (by decide) rfl
  subst hQ
  exact W.vret hx hb hr (fun t ht hW => ⟨⟨(q_1, mm_2, q_6, q_8, f_3, (fun _ => 0), (fun _ => 0)), rfl, trivial, by rw [ht]; exact hP9, hD9⟩, hS.F ht⟩) hS.2.2 dX5_init_47
set_option maxHeartbeats 4000000 in
set_option maxRecDepth 100000 in
theorem c_X3_init (l : Launch) (G : GG) (pz : Nat) : Mv l G yX3_init cX3_init 1 ({ frames := 4, cells := 11, slots := 173, locals := 80 } : Room) [.ref pz] [(pz, .inr (8, [.null, .null, .null, .null, .null, .int (nI 0), .int (nI 0)]))] (fun (u : Nat × Nat × Nat × Nat × Nat × (Nat → Int32) × Nat × Nat × Nat × Nat × (Nat → Int32) × (Nat → Int32) × (Nat → Int32)) => True) (fun (u : Nat × Nat × Nat × Nat × Nat × (Nat → Int32) × Nat × Nat × Nat × Nat × (Nat → Int32) × (Nat → Int32) × (Nat → Int32)) => [(pz, .inr (8, [.ref u.1, .ref u.2.1, .ref u.2.2.1, .ref u.2.2.2.1, .ref u.2.2.2.2.1, .int (nI 0), .int (nI 0)])), (u.1, .inl (gyI G, 16, .inl u.2.2.2.2.2.1)), (u.2.2.1, .inr (4, [.int (nI 0), .ref (gE G), .int (nI 0)])), (u.2.2.2.1, .inr (10, [.ref u.2.2.2.2.2.2.1, .ref u.2.2.2.2.2.2.2.2.1, .ref u.2.2.2.2.2.2.2.2.2.1, .int (nI 0), .int (nI 0), .int (nI 110)])), (u.2.2.2.2.2.2.1, .inr (5, [.ref u.2.2.2.2.2.2.2.1])), (u.2.2.2.2.2.2.2.1, .inl (gyI G, 16, .inl u.2.2.2.2.2.2.2.2.2.2.1)), (u.2.2.2.2.2.2.2.2.1, .inl (gyI G, 64, .inl u.2.2.2.2.2.2.2.2.2.2.2.1)), (u.2.2.2.2.2.2.2.2.2.1, .inl (gyI G, 16, .inl u.2.2.2.2.2.2.2.2.2.2.2.2))]) := by
  intro sz
  refine Met.ofW (cc := cX3_init) (maxL := 1) (ret := none) (by decide) rfl ?_
  intro p e s m args below meth c s₁ B9 hml hv
  obtain ⟨rfl, hsz, hP, hK, hD0, hE⟩ := hv
  have hx := B9.exec
  have hb := B9.bytes
  have hr := B9.returns
  have hts : ∀ w ∈ WW, w.before ([.ref pz] : List Value).toArray s = true := fun w h => atoms_spec (ws := .code yX3_init cX3_init 1 none :: WW) B9.pre w (List.mem_cons_of_mem _ h)
  have hown : s.vm.findClass RX3 = some m.cls := findClass_of_methodNamed B9.named
  have hin : meth.name = "<init>" := (name_of_methodNamed B9.named B9.method).1
  subst hsz
  have hD := hD0.self (sz := s.heap.size)
  generalize hAe : va_A [(pz, .inr (8, [.null, .null, .null, .null, .null, .int (nI 0), .int (nI 0)]))] s.heap.size = A at hD hE ⊢
  have hA : ∀ q : Nat, s.heap.size ≤ q → A q := fun q h => by rw [← hAe]; exact Or.inr h
  have hl := lv_entry ([.ref pz]) (n := 1) (Nat.le_of_ble_eq_true rfl)
  rw [lg_entry_eq]
  generalize (lg_sl ([.ref pz]) ++ List.replicate (1 - (lg_sl ([.ref pz])).length) Slot.unset).toArray = ls at hl ⊢
  have hl : lv_has ls 1 [(0, .ref pz)] := hl
  refine qgen (fun Q hQ => ?_)
  refine hgen (fun H locs hP hD hS => ?_) hP hD
  refine lv_aload_n hx hb dX3_init_0 rfl (lv_at hl 0 rfl) ?_
  refine W.objInit hx hb hown (hts _ q432) (hts _ q86) (hts _ q87) rfl (by rw [hml]; exact hl.1) rfl dX3_init_1 (Nat.le_of_ble_eq_true rfl) (Nat.le_of_ble_eq_true rfl) ?_
  refine W.eq (g2 := F0 m 4 ls []) rfl ?_
  refine lv_aload_n hx hb dX3_init_4 rfl (lv_at hl 0 rfl) ?_
  refine lv_bipush (v := nI 16) hx hb dX3_init_5 (by decide) ?_
  refine va_newa (D := gD G) (atype := .int) (ty := .int) (a0 := (16, .inl (fun _ => 0))) hx hb (hts _ q135) rfl hK hP hD hS hA (fun _ => rfl) (nI_pos (by omega)) (nI_clamp (by omega)) (Nat.le_of_ble_eq_true rfl) (Nat.le_of_ble_eq_true rfl) (Nat.le_of_ble_eq_true rfl) dX3_init_7 (fun q_1 cA_2 H hKn hP hD hS => ?_)
  obtain rfl := ty_one_I hK hKn
  have hP : va_P (gD G) vwCl [(pz, .inr (8, [.null, .null, .null, .null, .null, .int (nI 0), .int (nI 0)])), (q_1, .inl (gyI G, 16, .inl (fun _ => 0)))] H := hP
  have hD : va_D A [(pz, .inr (8, [.null, .null, .null, .null, .null, .int (nI 0), .int (nI 0)])), (q_1, .inl (gyI G, 16, .inl (fun _ => 0)))] := hD
  refine va_putF (D := gD G) (ci := 8) (v := .ref q_1) (ty := .array .int) (C := RX3) (T := TX3) (N := 7) hx hb hts fwX3 tyX3 tyX3_ok nmX3 hown hK hP hD hS 0 rfl rfl 0 (by decide) (hts _ q439) (fun _ h9 => h9) rfl hin rfl (by decide +kernel) rfl rfl (Nat.le_of_ble_eq_true rfl) dX3_init_9 (fun H locs hP hD hS => ?_)
  have hP : va_P (gD G) vwCl [(pz, .inr (8, [.ref q_1, .null, .null, .null, .null, .int (nI 0), .int (nI 0)])), (q_1, .inl (gyI G, 16, .inl (fun _ => 0)))] H := hP
  have hD : va_D A [(pz, .inr (8, [.ref q_1, .null, .null, .null, .null, .int (nI 0), .int (nI 0)])), (q_1, .inl (gyI G, 16, .inl (fun _ => 0)))] := hD
  refine lv_aload_n hx hb dX3_init_12 rfl (lv_at hl 0 rfl) ?_
  refine lv_bipush (v := nI 16) hx hb dX3_init_13 (by decide) ?_
  refine va_newa (D := gD G) (atype := .int) (ty := .int) (a0 := (16, .inl (fun _ => 0))) hx hb (hts _ q135) rfl hK hP hD hS hA (fun _ => rfl) (nI_pos (by omega)) (nI_clamp (by omega)) (Nat.le_of_ble_eq_true rfl) (Nat.le_of_ble_eq_true rfl) (Nat.le_of_ble_eq_true rfl) dX3_init_15 (fun q_3 cA_4 H hKn hP hD hS => ?_)
  obtain rfl := ty_one_I hK hKn
  have hP : va_P (gD G) vwCl [(pz, .inr (8, [.ref q_1, .null, .null, .null, .null, .int (nI 0), .int (nI 0)])), (q_1, .inl (gyI G, 16, .inl (fun _ => 0))), (q_3, .inl (gyI G, 16, .inl (fun _ => 0)))] H := hP
  have hD : va_D A [(pz, .inr (8, [.ref q_1, .null, .null, .null, .null, .int (nI 0), .int (nI 0)])), (q_1, .inl (gyI G, 16, .inl (fun _ => 0))), (q_3, .inl (gyI G, 16, .inl (fun _ => 0)))] := hD
  refine va_putF (D := gD G) (ci := 8) (v := .ref q_3) (ty := .array .int) (C := RX3) (T := TX3) (N := 7) hx hb hts fwX3 tyX3 tyX3_ok nmX3 hown hK hP hD hS 0 rfl rfl 1 (by decide) (hts _ q443) (fun _ h9 => h9) rfl hin rfl (by decide +kernel) rfl rfl (Nat.le_of_ble_eq_true rfl) dX3_init_17 (fun H locs hP hD hS => ?_)
  have hP : va_P (gD G) vwCl [(pz, .inr (8, [.ref q_1, .ref q_3, .null, .null, .null, .int (nI 0), .int (nI 0)])), (q_1, .inl (gyI G, 16, .inl (fun _ => 0))), (q_3, .inl (gyI G, 16, .inl (fun _ => 0)))] H := hP
  have hD : va_D A [(pz, .inr (8, [.ref q_1, .ref q_3, .null, .null, .null, .int (nI 0), .int (nI 0)])), (q_1, .inl (gyI G, 16, .inl (fun _ => 0))), (q_3, .inl (gyI G, 16, .inl (fun _ => 0)))] := hD
  refine lv_aload_n hx hb dX3_init_20 rfl (lv_at hl 0 rfl) ?_
  refine va_new (D := gD G) (ci := 4) (fs := [.int 0, .null, .int 0]) (C := RJx4a65c) (T := TJx4a65c) (N := 3) hx hb hts fwJx4a65c tyJx4a65c tyJx4a65c_ok hown (hts _ q433) (hts _ q89) (hts _ q48) hK hP hD hS hA rfl (fun j hj => by rcases (show j = 0 ∨ j = 1 ∨ j = 2 by omega) with rfl | rfl | rfl <;> rfl) (Nat.le_of_ble_eq_true rfl) (Nat.le_of_ble_eq_true rfl) dX3_init_21 (fun q_5 H hP hD hS => ?_)
  have hP : va_P (gD G) vwCl [(pz, .inr (8, [.ref q_1, .ref q_3, .null, .null, .null, .int (nI 0), .int (nI 0)])), (q_1, .inl (gyI G, 16, .inl (fun _ => 0))), (q_3, .inl (gyI G, 16, .inl (fun _ => 0))), (q_5, .inr (4, [.int (nI 0), .null, .int (nI 0)]))] H := hP
  have hD : va_D A [(pz, .inr (8, [.ref q_1, .ref q_3, .null, .null, .null, .int (nI 0), .int (nI 0)])), (q_1, .inl (gyI G, 16, .inl (fun _ => 0))), (q_3, .inl (gyI G, 16, .inl (fun _ => 0))), (q_5, .inr (4, [.int (nI 0), .null, .int (nI 0)]))] := hD
  refine lv_dup hx hb dX3_init_24 rfl ?_
  refine fin_v hP hD hS hA [3] [0, 1, 2] (wr := [(pz, .inr (8, [.ref q_1, .ref q_3, .null, .null, .null, .int (nI 0), .int (nI 0)])), (q_1, .inl (gyI G, 16, .inl (fun _ => 0))), (q_3, .inl (gyI G, 16, .inl (fun _ => 0)))]) rfl rfl (by decide) (by decide) (va_runI (As := []) (rest := [.ref q_5, .ref pz]) ⟨hx, hb, hml, hown, hts⟩ (c_Jx4a65c_init_da8c8 l G q_5 H.size) (cwI 0 hts (gI q92) rfl rfl rfl (hts _ q48) (hts _ q434) (hts _ q91) rfl (by decide +kernel) ⟨Nat.le_of_ble_eq_true rfl, Nat.le_of_ble_eq_true rfl⟩) (preS hK hE hP hD hS hA [3] rfl (by decide)) rfl rfl hl.1 rfl (lv_room (Nat.le_of_ble_eq_true rfl)) dX3_init_25 ⟨Nat.le_of_ble_eq_true rfl, Nat.le_of_ble_eq_true rfl⟩) (fun u9 hw_6 H locs hP hD hS => ?_)
  have hP : va_P (gD G) vwCl [(pz, .inr (8, [.ref q_1, .ref q_3, .null, .null, .null, .int (nI 0), .int (nI 0)])), (q_1, .inl (gyI G, 16, .inl (fun _ => 0))), (q_3, .inl (gyI G, 16, .inl (fun _ => 0))), (q_5, .inr (4, [.int (nI 0), .ref (gE G), .int (nI 0)]))] H := hP
  have hD : va_D A [(pz, .inr (8, [.ref q_1, .ref q_3, .null, .null, .null, .int (nI 0), .int (nI 0)])), (q_1, .inl (gyI G, 16, .inl (fun _ => 0))), (q_3, .inl (gyI G, 16, .inl (fun _ => 0))), (q_5, .inr (4, [.int (nI 0), .ref (gE G), .int (nI 0)]))] := hD
  refine va_putF (D := gD G) (ci := 8) (v := .ref q_5) (ty := .object "java/util/ArrayList") (C := RX3) (T := TX3) (N := 7) hx hb hts fwX3 tyX3 tyX3_ok nmX3 hown hK hP hD hS 0 rfl rfl 2 (by decide) (hts _ q445) (fun _ h9 => h9) rfl hin rfl (by decide +kernel) rfl rfl (Nat.le_of_ble_eq_true rfl) dX3_init_28 (fun H locs hP hD hS => ?_)
  have hP : va_P (gD G) vwCl [(pz, .inr (8, [.ref q_1, .ref q_3, .ref q_5, .null, .null, .int (nI 0), .int (nI 0)])), (q_1, .inl (gyI G, 16, .inl (fun _ => 0))), (q_3, .inl (gyI G, 16, .inl (fun _ => 0))), (q_5, .inr (4, [.int (nI 0), .ref (gE G), .int (nI 0)]))] H := hP
  have hD : va_D A [(pz, .inr (8, [.ref q_1, .ref q_3, .ref q_5, .null, .null, .int (nI 0), .int (nI 0)])), (q_1, .inl (gyI G, 16, .inl (fun _ => 0))), (q_3, .inl (gyI G, 16, .inl (fun _ => 0))), (q_5, .inr (4, [.int (nI 0), .ref (gE G), .int (nI 0)]))] := hD
  refine lv_aload_n hx hb dX3_init_31 rfl (lv_at hl 0 rfl) ?_
  refine va_new (D := gD G) (ci := 10) (fs := [.null, .null, .null, .int 0, .int 0, .int 0]) (C := RX5) (T := TX5) (N := 6) hx hb hts fwX5 tyX5 tyX5_ok hown (hts _ q435) (hts _ q118) (hts _ q49) hK hP hD hS hA rfl (fun j hj => by rcases (show j = 0 ∨ j = 1 ∨ j = 2 ∨ j = 3 ∨ j = 4 ∨ j = 5 by omega) with rfl | rfl | rfl | rfl | rfl | rfl <;> rfl) (Nat.le_of_ble_eq_true rfl) (Nat.le_of_ble_eq_true rfl) dX3_init_32 (fun q_8 H hP hD hS => ?_)
  have hP : va_P (gD G) vwCl [(pz, .inr (8, [.ref q_1, .ref q_3, .ref q_5, .null, .null, .int (nI 0), .int (nI 0)])), (q_1, .inl (gyI G, 16, .inl (fun _ => 0))), (q_3, .inl (gyI G, 16, .inl (fun _ => 0))), (q_5, .inr (4, [.int (nI 0), .ref (gE G), .int (nI 0)])), (q_8, .inr (10, [.null, .null, .null, .int (nI 0), .int (nI 0), .int (nI 0)]))] H := hP
  have hD : va_D A [(pz, .inr (8, [.ref q_1, .ref q_3, .ref q_5, .null, .null, .int (nI 0), .int (nI 0)])), (q_1, .inl (gyI G, 16, .inl (fun _ => 0))), (q_3, .inl (gyI G, 16, .inl (fun _ => 0))), (q_5, .inr (4, [.int (nI 0), .ref (gE G), .int (nI 0)])), (q_8, .inr (10, [.null, .null, .null, .int (nI 0), .int (nI 0), .int (nI 0)]))] := hD
  refine lv_dup hx hb dX3_init_35 rfl ?_
  refine fin_v hP hD hS hA [4] [0, 1, 2, 3] (wr := [(pz, .inr (8, [.ref q_1, .ref q_3, .ref q_5, .null, .null, .int (nI 0), .int (nI 0)])), (q_1, .inl (gyI G, 16, .inl (fun _ => 0))), (q_3, .inl (gyI G, 16, .inl (fun _ => 0))), (q_5, .inr (4, [.int (nI 0), .ref (gE G), .int (nI 0)]))]) rfl rfl (by decide) (by decide) (va_runIN (As := []) (rest := [.ref q_8, .ref pz]) ⟨hx, hb, hml, hown, hts⟩ (c_X5_init l G q_8 H.size) ⟨(va_cnB 0 hts (gI q121) rfl rfl rfl (hE.1.1 _ nq436) (hts _ q49) (by decide +kernel) ⟨Nat.le_of_ble_eq_true rfl, Nat.le_of_ble_eq_true rfl⟩), rfl, hts _ q120⟩ (preS hK hE hP hD hS hA [4] rfl (by decide)) rfl rfl hl.1 rfl (lv_room (Nat.le_of_ble_eq_true rfl)) dX3_init_36 ⟨Nat.le_of_ble_eq_true rfl, Nat.le_of_ble_eq_true rfl⟩) (fun u9 hw_16 H locs hP hD hS => ?_)
  obtain ⟨b_9, mm_10, sr_11, se_12, f_13, g_14, hh_15⟩ := u9
  have hP : va_P (gD G) vwCl [(pz, .inr (8, [.ref q_1, .ref q_3, .ref q_5, .null, .null, .int (nI 0), .int (nI 0)])), (q_1, .inl (gyI G, 16, .inl (fun _ => 0))), (q_3, .inl (gyI G, 16, .inl (fun _ => 0))), (q_5, .inr (4, [.int (nI 0), .ref (gE G), .int (nI 0)])), (q_8, .inr (10, [.ref b_9, .ref sr_11, .ref se_12, .int (nI 0), .int (nI 0), .int (nI 110)])), (b_9, .inr (5, [.ref mm_10])), (mm_10, .inl (gyI G, 16, .inl f_13)), (sr_11, .inl (gyI G, 64, .inl g_14)), (se_12, .inl (gyI G, 16, .inl hh_15))] H := hP
  have hD : va_D A [(pz, .inr (8, [.ref q_1, .ref q_3, .ref q_5, .null, .null, .int (nI 0), .int (nI 0)])), (q_1, .inl (gyI G, 16, .inl (fun _ => 0))), (q_3, .inl (gyI G, 16, .inl (fun _ => 0))), (q_5, .inr (4, [.int (nI 0), .ref (gE G), .int (nI 0)])), (q_8, .inr (10, [.ref b_9, .ref sr_11, .ref se_12, .int (nI 0), .int (nI 0), .int (nI 110)])), (b_9, .inr (5, [.ref mm_10])), (mm_10, .inl (gyI G, 16, .inl f_13)), (sr_11, .inl (gyI G, 64, .inl g_14)), (se_12, .inl (gyI G, 16, .inl hh_15))] := hD
  refine va_putF (D := gD G) (ci := 8) (v := .ref q_8) (ty := .object "Pegboardry$Solver") (C := RX3) (T := TX3) (N := 7) hx hb hts fwX3 tyX3 tyX3_ok nmX3 hown hK hP hD hS 0 rfl rfl 3 (by decide) (hts _ q449) (fun _ h9 => h9) rfl hin rfl (by decide +kernel) rfl rfl (Nat.le_of_ble_eq_true rfl) dX3_init_39 (fun H locs hP hD hS => ?_)
  have hP : va_P (gD G) vwCl [(pz, .inr (8, [.ref q_1, .ref q_3, .ref q_5, .ref q_8, .null, .int (nI 0), .int (nI 0)])), (q_1, .inl (gyI G, 16, .inl (fun _ => 0))), (q_3, .inl (gyI G, 16, .inl (fun _ => 0))), (q_5, .inr (4, [.int (nI 0), .ref (gE G), .int (nI 0)])), (q_8, .inr (10, [.ref b_9, .ref sr_11, .ref se_12, .int (nI 0), .int (nI 0), .int (nI 110)])), (b_9, .inr (5, [.ref mm_10])), (mm_10, .inl (gyI G, 16, .inl f_13)), (sr_11, .inl (gyI G, 64, .inl g_14)), (se_12, .inl (gyI G, 16, .inl hh_15))] H := hP
  have hD : va_D A [(pz, .inr (8, [.ref q_1, .ref q_3, .ref q_5, .ref q_8, .null, .int (nI 0), .int (nI 0)])), (q_1, .inl (gyI G, 16, .inl (fun _ => 0))), (q_3, .inl (gyI G, 16, .inl (fun _ => 0))), (q_5, .inr (4, [.int (nI 0), .ref (gE G), .int (nI 0)])), (q_8, .inr (10, [.ref b_9, .ref sr_11, .ref se_12, .int (nI 0), .int (nI 0), .int (nI 110)])), (b_9, .inr (5, [.ref mm_10])), (mm_10, .inl (gyI G, 16, .inl f_13)), (sr_11, .inl (gyI G, 64, .inl g_14)), (se_12, .inl (gyI G, 16, .inl hh_15))] := hD
  refine lv_aload_n hx hb dX3_init_42 rfl (lv_at hl 0 rfl) ?_
  refine va_new (D := gD G) (ci := 9) (fs := [.null, .null, .int 0]) (C := RX4) (T := TX4) (N := 3) hx hb hts fwX4 tyX4 tyX4_ok hown (hts _ q437) (hts _ q162) (hts _ q51) hK hP hD hS hA rfl (fun j hj => by rcases (show j = 0 ∨ j = 1 ∨ j = 2 by omega) with rfl | rfl | rfl <;> rfl) (Nat.le_of_ble_eq_true rfl) (Nat.le_of_ble_eq_true rfl) dX3_init_43 (fun q_18 H hP hD hS => ?_)
  have hP : va_P (gD G) vwCl [(pz, .inr (8, [.ref q_1, .ref q_3, .ref q_5, .ref q_8, .null, .int (nI 0), .int (nI 0)])), (q_1, .inl (gyI G, 16, .inl (fun _ => 0))), (q_3, .inl (gyI G, 16, .inl (fun _ => 0))), (q_5, .inr (4, [.int (nI 0), .ref (gE G), .int (nI 0)])), (q_8, .inr (10, [.ref b_9, .ref sr_11, .ref se_12, .int (nI 0), .int (nI 0), .int (nI 110)])), (b_9, .inr (5, [.ref mm_10])), (mm_10, .inl (gyI G, 16, .inl f_13)), (sr_11, .inl (gyI G, 64, .inl g_14)), (se_12, .inl (gyI G, 16, .inl hh_15)), (q_18, .inr (9, [.null, .null, .int (nI 0)]))] H := hP
  have hD : va_D A [(pz, .inr (8, [.ref q_1, .ref q_3, .ref q_5, .ref q_8, .null, .int (nI 0), .int (nI 0)])), (q_1, .inl (gyI G, 16, .inl (fun _ => 0))), (q_3, .inl (gyI G, 16, .inl (fun _ => 0))), (q_5, .inr (4, [.int (nI 0), .ref (gE G), .int (nI 0)])), (q_8, .inr (10, [.ref b_9, .ref sr_11, .ref se_12, .int (nI 0), .int (nI 0), .int (nI 110)])), (b_9, .inr (5, [.ref mm_10])), (mm_10, .inl (gyI G, 16, .inl f_13)), (sr_11, .inl (gyI G, 64, .inl g_14)), (se_12, .inl (gyI G, 16, .inl hh_15)), (q_18, .inr (9, [.null, .null, .int (nI 0)]))] := hD
  refine lv_dup hx hb dX3_init_46 rfl ?_
  refine fin_v hP hD hS hA [9] [0, 1, 2, 3, 4, 5, 6, 7, 8] (wr := [(pz, .inr (8, [.ref q_1, .ref q_3, .ref q_5, .ref q_8, .null, .int (nI 0), .int (nI 0)])), (q_1, .inl (gyI G, 16, .inl (fun _ => 0))), (q_3, .inl (gyI G, 16, .inl (fun _ => 0))), (q_5, .inr (4, [.int (nI 0), .ref (gE G), .int (nI 0)])), (q_8, .inr (10, [.ref b_9, .ref sr_11, .ref se_12, .int (nI 0), .int (nI 0), .int (nI 110)])), (b_9, .inr (5, [.ref mm_10])), (mm_10, .inl (gyI G, 16, .inl f_13)), (sr_11, .inl (gyI G, 64, .inl g_14)), (se_12, .inl (gyI G, 16, .inl hh_15))]) rfl rfl (by decide) (by decide) (va_runIN (As := []) (rest := [.ref q_18, .ref pz]) ⟨hx, hb, hml, hown, hts⟩ (c_X4_init l G q_18 H.size) ⟨(va_cnB 0 hts (gI q165) rfl rfl rfl (hE.1.1 _ nq438) (hts _ q51) (by decide +kernel) ⟨Nat.le_of_ble_eq_true rfl, Nat.le_of_ble_eq_true rfl⟩), rfl, hts _ q164⟩ (preS hK hE hP hD hS hA [9] rfl (by decide)) rfl rfl hl.1 rfl (lv_room (Nat.le_of_ble_eq_true rfl)) dX3_init_47 ⟨Nat.le_of_ble_eq_true rfl, Nat.le_of_ble_eq_true rfl⟩) (fun u9 hw_23 H locs hP hD hS => ?_)
  obtain ⟨tr_19, ff_20, f_21, g_22⟩ := u9
  have hP : va_P (gD G) vwCl [(pz, .inr (8, [.ref q_1, .ref q_3, .ref q_5, .ref q_8, .null, .int (nI 0), .int (nI 0)])), (q_1, .inl (gyI G, 16, .inl (fun _ => 0))), (q_3, .inl (gyI G, 16, .inl (fun _ => 0))), (q_5, .inr (4, [.int (nI 0), .ref (gE G), .int (nI 0)])), (q_8, .inr (10, [.ref b_9, .ref sr_11, .ref se_12, .int (nI 0), .int (nI 0), .int (nI 110)])), (b_9, .inr (5, [.ref mm_10])), (mm_10, .inl (gyI G, 16, .inl f_13)), (sr_11, .inl (gyI G, 64, .inl g_14)), (se_12, .inl (gyI G, 16, .inl hh_15)), (q_18, .inr (9, [.ref tr_19, .ref ff_20, .int (nI 0)])), (tr_19, .inl (gyI G, 16, .inl f_21)), (ff_20, .inl (gyI G, 16, .inl g_22))] H := hP
  have hD : va_D A [(pz, .inr (8, [.ref q_1, .ref q_3, .ref q_5, .ref q_8, .null, .int (nI 0), .int (nI 0)])), (q_1, .inl (gyI G, 16, .inl (fun _ => 0))), (q_3, .inl (gyI G, 16, .inl (fun _ => 0))), (q_5, .inr (4, [.int (nI 0), .ref (gE G), .int (nI 0)])), (q_8, .inr (10, [.ref b_9, .ref sr_11, .ref se_12, .int (nI 0), .int (nI 0), .int (nI 110)])), (b_9, .inr (5, [.ref mm_10])), (mm_10, .inl (gyI G, 16, .inl f_13)), (sr_11, .inl (gyI G, 64, .inl g_14)), (se_12, .inl (gyI G, 16, .inl hh_15)), (q_18, .inr (9, [.ref tr_19, .ref ff_20, .int (nI 0)])), (tr_19, .inl (gyI G, 16, .inl f_21)), (ff_20, .inl (gyI G, 16, .inl g_22))] := hD
  refine va_putF (D := gD G) (ci := 8) (v := .ref q_18) (ty := .object "Pegboardry$Search") (C := RX3) (T := TX3) (N := 7) hx hb hts fwX3 tyX3 tyX3_ok nmX3 hown hK hP hD hS 0 rfl rfl 4 (by decide) (hts _ q450) (fun _ h9 => h9) rfl hin rfl (by decide +kernel) rfl rfl (Nat.le_of_ble_eq_true rfl) dX3_init_50 (fun H locs hP hD hS => ?_)
  have hP : va_P (gD G) vwCl [(pz, .inr (8, [.ref q_1, .ref q_3, .ref q_5, .ref q_8, .ref q_18, .int (nI 0), .int (nI 0)])), (q_1, .inl (gyI G, 16, .inl (fun _ => 0))), (q_3, .inl (gyI G, 16, .inl (fun _ => 0))), (q_5, .inr (4, [.int (nI 0), .ref (gE G), .int (nI 0)])), (q_8, .inr (10, [.ref b_9, .ref sr_11, .ref se_12, .int (nI 0), .int (nI 0), .int (nI 110)])), (b_9, .inr (5, [.ref mm_10])), (mm_10, .inl (gyI G, 16, .inl f_13)), (sr_11, .inl (gyI G, 64, .inl g_14)), (se_12, .inl (gyI G, 16, .inl hh_15)), (q_18, .inr (9, [.ref tr_19, .ref ff_20, .int (nI 0)])), (tr_19, .inl (gyI G, 16, .inl f_21)), (ff_20, .inl (gyI G, 16, .inl g_22))] H := hP
  have hD : va_D A [(pz, .inr (8, [.ref q_1, .ref q_3, .ref q_5, .ref q_8, .ref q_18, .int (nI 0), .int (nI 0)])), (q_1, .inl (gyI G, 16, .inl (fun _ => 0))), (q_3, .inl (gyI G, 16, .inl (fun _ => 0))), (q_5, .inr (4, [.int (nI 0), .ref (gE G), .int (nI 0)])), (q_8, .inr (10, [.ref b_9, .ref sr_11, .ref se_12, .int (nI 0), .int (nI 0), .int (nI 110)])), (b_9, .inr (5, [.ref mm_10])), (mm_10, .inl (gyI G, 16, .inl f_13)), (sr_11, .inl (gyI G, 64, .inl g_14)), (se_12, .inl (gyI G, 16, .inl hh_15)), (q_18, .inr (9, [.ref tr_19, .ref ff_20, .int (nI 0)])), (tr_19, .inl (gyI G, 16, .inl f_21)), (ff_20, .inl (gyI G, 16, .inl g_22))] := hD
  refine lv_aload_n hx hb dX3_init_53 rfl (lv_at hl 0 rfl) ?_
  refine lv_iconst (v := nI 0) hx hb dX3_init_54 (by decide) ?_
  refine va_put (D := gD G) (ci := 8) (v := .int (nI 0)) (ty := .boolean) (C := RX3) (T := TX3) (N := 7) hx hb hts fwX3 tyX3 tyX3_ok nmX3 hown hK hP hD hS 0 rfl rfl 5 (by decide) (hts _ q451) (fun _ h9 => h9) rfl (by decide +kernel) (by decide) (by decide) (Nat.le_of_ble_eq_true rfl) dX3_init_55 (fun H locs hP hD hS => ?_)
  have hP : va_P (gD G) vwCl [(pz, .inr (8, [.ref q_1, .ref q_3, .ref q_5, .ref q_8, .ref q_18, .int (nI 0), .int (nI 0)])), (q_1, .inl (gyI G, 16, .inl (fun _ => 0))), (q_3, .inl (gyI G, 16, .inl (fun _ => 0))), (q_5, .inr (4, [.int (nI 0), .ref (gE G), .int (nI 0)])), (q_8, .inr (10, [.ref b_9, .ref sr_11, .ref se_12, .int (nI 0), .int (nI 0), .int (nI 110)])), (b_9, .inr (5, [.ref mm_10])), (mm_10, .inl (gyI G, 16, .inl f_13)), (sr_11, .inl (gyI G, 64, .inl g_14)), (se_12, .inl (gyI G, 16, .inl hh_15)), (q_18, .inr (9, [.ref tr_19, .ref ff_20, .int (nI 0)])), (tr_19, .inl (gyI G, 16, .inl f_21)), (ff_20, .inl (gyI G, 16, .inl g_22))] H := hP
  have hD : va_D A [(pz, .inr (8, [.ref q_1, .ref q_3, .ref q_5, .ref q_8, .ref q_18, .int (nI 0), .int (nI 0)])), (q_1, .inl (gyI G, 16, .inl (fun _ => 0))), (q_3, .inl (gyI G, 16, .inl (fun _ => 0))), (q_5, .inr (4, [.int (nI 0), .ref (gE G), .int (nI 0)])), (q_8, .inr (10, [.ref b_9, .ref sr_11, .ref se_12, .int (nI 0), .int (nI 0), .int (nI 110)])), (b_9, .inr (5, [.ref mm_10])), (mm_10, .inl (gyI G, 16, .inl f_13)), (sr_11, .inl (gyI G, 64, .inl g_14)), (se_12, .inl (gyI G, 16, .inl hh_15)), (q_18, .inr (9, [.ref tr_19, .ref ff_20, .int (nI 0)])), (tr_19, .inl (gyI G, 16, .inl f_21)), (ff_20, .inl (gyI G, 16, .inl g_22))] := hD
  refine lv_aload_n hx hb dX3_init_58 rfl (lv_at hl 0 rfl) ?_
  refine lv_iconst (v := nI 0) hx hb dX3_init_59 (by decide) ?_
  refine va_put (D := gD G) (ci := 8) (v := .int (nI 0)) (ty := .boolean) (C := RX3) (T := TX3) (N := 7) hx hb hts fwX3 tyX3 tyX3_ok nmX3 hown hK hP hD hS 0 rfl rfl 6 (by decide) (hts _ q452) (fun _ h9 => h9) rfl (by decide +kernel) (by decide) (by decide) (Nat.le_of_ble_eq_true rfl) dX3_init_60 (fun H locs hP hD hS => ?_)
  have hP : va_P (gD G) vwCl [(pz, .inr (8, [.ref q_1, .ref q_3, .ref q_5, .ref q_8, .ref q_18, .int (nI 0), .int (nI 0)])), (q_1, .inl (gyI G, 16, .inl (fun _ => 0))), (q_3, .inl (gyI G, 16, .inl (fun _ => 0))), (q_5, .inr (4, [.int (nI 0), .ref (gE G), .int (nI 0)])), (q_8, .inr (10, [.ref b_9, .ref sr_11, .ref se_12, .int (nI 0), .int (nI 0), .int (nI 110)])), (b_9, .inr (5, [.ref mm_10])), (mm_10, .inl (gyI G, 16, .inl f_13)), (sr_11, .inl (gyI G, 64, .inl g_14)), (se_12, .inl (gyI G, 16, .inl hh_15)), (q_18, .inr (9, [.ref tr_19, .ref ff_20, .int (nI 0)])), (tr_19, .inl (gyI G, 16, .inl f_21)), (ff_20, .inl (gyI G, 16, .inl g_22))] H := hP
  have hD : va_D A [(pz, .inr (8, [.ref q_1, .ref q_3, .ref q_5, .ref q_8, .ref q_18, .int (nI 0), .int (nI 0)])), (q_1, .inl (gyI G, 16, .inl (fun _ => 0))), (q_3, .inl (gyI G, 16, .inl (fun _ => 0))), (q_5, .inr (4, [.int (nI 0), .ref (gE G), .int (nI 0)])), (q_8, .inr (10, [.ref b_9, .ref sr_11, .ref se_12, .int (nI 0), .int (nI 0), .int (nI 110)])), (b_9, .inr (5, [.ref mm_10])), (mm_10, .inl (gyI G, 16, .inl f_13)), (sr_11, .inl (gyI G, 64, .inl g_14)), (se_12, .inl (gyI G, 16, .inl hh_15)), (q_18, .inr (9, [.ref tr_19, .ref ff_20, .int (nI 0)])), (tr_19, .inl (gyI G, 16, .inl f_21)), (ff_20, .inl (gyI G, 16, .inl g_22))] := hD
  have hP9 := hP.sub (ws' := [(pz, .inr (8, [.ref q_1, .ref q_3, .ref q_5, .ref q_8, .ref q_18, .int (nI 0), .int (nI 0)])), (q_1, .inl (gyI G, 16, .inl (fun _ => 0))), (q_5, .inr (4, [.int (nI 0), .ref (gE G), .int (nI 0)])), (q_8, .inr (10, [.ref b_9, .ref sr_11, .ref se_12, .int (nI 0), .int (nI 0), .int (nI 110)])), (b_9, .inr (5, [.ref mm_10])), (mm_10, .inl (gyI G, 16, .inl f_13)), (sr_11, .inl (gyI G, 64, .inl g_14)), (se_12, .inl (gyI G, 16, .inl hh_15))]) [0, 1, 3, 4, 5, 6, 7, 8] rfl
  have hD9 := hD.sub (ws' := [(pz, .inr (8, [.ref q_1, .ref q_3, .ref q_5, .ref q_8, .ref q_18, .int (nI 0), .int (nI 0)])), (q_1, .inl (gyI G, 16, .inl (fun _ => 0))), (q_5, .inr (4, [.int (nI 0), .ref (gE G), .int (nI 0)])), (q_8, .inr (10, [.ref b_9, .ref sr_11, .ref se_12, .int (nI 0), .int (nI 0), .int (nI 110)])), (b_9, .inr (5, [.ref mm_10])), (mm_10, .inl (gyI G, 16, .inl f_13)), (sr_11, .inl (gyI G, 64, .inl g_14)), (se_12, .inl (gyI G, 16, .inl hh_15))]) [0, 1, 3, 4, 5, 6, 7, 8] (by decide) rfl
  subst hQ
  exact W.vret hx hb hr (fun t ht hW => ⟨⟨(q_1, q_3, q_5, q_8, q_18, (fun _ => 0), b_9, mm_10, sr_11, se_12, f_13, g_14, hh_15), rfl, trivial, by rw [ht]; exact hP9, hD9⟩, hS.F ht⟩) hS.2.2 dX3_init_63
set_option maxHeartbeats 4000000 in
set_option maxRecDepth 100000 in
theorem c_X6_init (l : Launch) (G : GG) (ho : Nat) : Mv l G yX6_init cX6_init 1 ({ frames := 4, cells := 11, slots := 158, locals := 80 } : Room) [.ref ho] [(ho, .inr (11, [.null, .null, .null, .null, .null, .int (nI 0)]))] (fun (u : Nat × Nat × Nat × Nat) => True) (fun (u : Nat × Nat × Nat × Nat) => [(ho, .inr (11, [.ref u.1, .ref u.2.1, .ref u.2.2.1, .ref u.2.2.2, .null, .int (nI 0)])), (u.1, .inr (4, [.int (nI 0), .ref (gE G), .int (nI 0)]))]) := by
  intro sz
  refine Met.ofW (cc := cX6_init) (maxL := 1) (ret := none) (by decide) rfl ?_
  intro p e s m args below meth c s₁ B9 hml hv
  obtain ⟨rfl, hsz, hP, hK, hD0, hE⟩ := hv
  have hx := B9.exec
  have hb := B9.bytes
  have hr := B9.returns
  have hts : ∀ w ∈ WW, w.before ([.ref ho] : List Value).toArray s = true := fun w h => atoms_spec (ws := .code yX6_init cX6_init 1 none :: WW) B9.pre w (List.mem_cons_of_mem _ h)
  have hown : s.vm.findClass RX6 = some m.cls := findClass_of_methodNamed B9.named
  have hin : meth.name = "<init>" := (name_of_methodNamed B9.named B9.method).1
  subst hsz
  have hD := hD0.self (sz := s.heap.size)
  generalize hAe : va_A [(ho, .inr (11, [.null, .null, .null, .null, .null, .int (nI 0)]))] s.heap.size = A at hD hE ⊢
  have hA : ∀ q : Nat, s.heap.size ≤ q → A q := fun q h => by rw [← hAe]; exact Or.inr h
  have hl := lv_entry ([.ref ho]) (n := 1) (Nat.le_of_ble_eq_true rfl)
  rw [lg_entry_eq]
  generalize (lg_sl ([.ref ho]) ++ List.replicate (1 - (lg_sl ([.ref ho])).length) Slot.unset).toArray = ls at hl ⊢
  have hl : lv_has ls 1 [(0, .ref ho)] := hl
  refine qgen (fun Q hQ => ?_)
  refine hgen (fun H locs hP hD hS => ?_) hP hD
  refine lv_aload_n hx hb dX6_init_0 rfl (lv_at hl 0 rfl) ?_
  refine W.objInit hx hb hown (hts _ q85) (hts _ q86) (hts _ q87) rfl (by rw [hml]; exact hl.1) rfl dX6_init_1 (Nat.le_of_ble_eq_true rfl) (Nat.le_of_ble_eq_true rfl) ?_
  refine W.eq (g2 := F0 m 4 ls []) rfl ?_
  refine lv_aload_n hx hb dX6_init_4 rfl (lv_at hl 0 rfl) ?_
  refine va_new (D := gD G) (ci := 4) (fs := [.int 0, .null, .int 0]) (C := RJx4a65c) (T := TJx4a65c) (N := 3) hx hb hts fwJx4a65c tyJx4a65c tyJx4a65c_ok hown (hts _ q88) (hts _ q89) (hts _ q48) hK hP hD hS hA rfl (fun j hj => by rcases (show j = 0 ∨ j = 1 ∨ j = 2 by omega) with rfl | rfl | rfl <;> rfl) (Nat.le_of_ble_eq_true rfl) (Nat.le_of_ble_eq_true rfl) dX6_init_5 (fun q_1 H hP hD hS => ?_)
  have hP : va_P (gD G) vwCl [(ho, .inr (11, [.null, .null, .null, .null, .null, .int (nI 0)])), (q_1, .inr (4, [.int (nI 0), .null, .int (nI 0)]))] H := hP
  have hD : va_D A [(ho, .inr (11, [.null, .null, .null, .null, .null, .int (nI 0)])), (q_1, .inr (4, [.int (nI 0), .null, .int (nI 0)]))] := hD
  refine lv_dup hx hb dX6_init_8 rfl ?_
  refine fin_v hP hD hS hA [1] [0] (wr := [(ho, .inr (11, [.null, .null, .null, .null, .null, .int (nI 0)]))]) rfl rfl (by decide) (by decide) (va_runI (As := []) (rest := [.ref q_1, .ref ho]) ⟨hx, hb, hml, hown, hts⟩ (c_Jx4a65c_init_da8c8 l G q_1 H.size) (cwI 0 hts (gI q92) rfl rfl rfl (hts _ q48) (hts _ q90) (hts _ q91) rfl (by decide +kernel) ⟨Nat.le_of_ble_eq_true rfl, Nat.le_of_ble_eq_true rfl⟩) (preS hK hE hP hD hS hA [1] rfl (by decide)) rfl rfl hl.1 rfl (lv_room (Nat.le_of_ble_eq_true rfl)) dX6_init_9 ⟨Nat.le_of_ble_eq_true rfl, Nat.le_of_ble_eq_true rfl⟩) (fun u9 hw_2 H locs hP hD hS => ?_)
  have hP : va_P (gD G) vwCl [(ho, .inr (11, [.null, .null, .null, .null, .null, .int (nI 0)])), (q_1, .inr (4, [.int (nI 0), .ref (gE G), .int (nI 0)]))] H := hP
  have hD : va_D A [(ho, .inr (11, [.null, .null, .null, .null, .null, .int (nI 0)])), (q_1, .inr (4, [.int (nI 0), .ref (gE G), .int (nI 0)]))] := hD
  refine va_putF (D := gD G) (ci := 11) (v := .ref q_1) (ty := .object "java/util/ArrayList") (C := RX6) (T := TX6) (N := 6) hx hb hts fwX6 tyX6 tyX6_ok nmX6 hown hK hP hD hS 0 rfl rfl 0 (by decide) (hts _ q181) (fun _ h9 => h9) rfl hin rfl (by decide +kernel) rfl rfl (Nat.le_of_ble_eq_true rfl) dX6_init_12 (fun H locs hP hD hS => ?_)
  have hP : va_P (gD G) vwCl [(ho, .inr (11, [.ref q_1, .null, .null, .null, .null, .int (nI 0)])), (q_1, .inr (4, [.int (nI 0), .ref (gE G), .int (nI 0)]))] H := hP
  have hD : va_D A [(ho, .inr (11, [.ref q_1, .null, .null, .null, .null, .int (nI 0)])), (q_1, .inr (4, [.int (nI 0), .ref (gE G), .int (nI 0)]))] := hD
  refine lv_aload_n hx hb dX6_init_15 rfl (lv_at hl 0 rfl) ?_
  refine va_new (D := gD G) (ci := 10) (fs := [.null, .null, .null, .int 0, .int 0, .int 0]) (C := RX5) (T := TX5) (N := 6) hx hb hts fwX5 tyX5 tyX5_ok hown (hts _ q117) (hts _ q118) (hts _ q49) hK hP hD hS hA rfl (fun j hj => by rcases (show j = 0 ∨ j = 1 ∨ j = 2 ∨ j = 3 ∨ j = 4 ∨ j = 5 by omega) with rfl | rfl | rfl | rfl | rfl | rfl <;> rfl) (Nat.le_of_ble_eq_true rfl) (Nat.le_of_ble_eq_true rfl) dX6_init_16 (fun q_4 H hP hD hS => ?_)
  have hP : va_P (gD G) vwCl [(ho, .inr (11, [.ref q_1, .null, .null, .null, .null, .int (nI 0)])), (q_1, .inr (4, [.int (nI 0), .ref (gE G), .int (nI 0)])), (q_4, .inr (10, [.null, .null, .null, .int (nI 0), .int (nI 0), .int (nI 0)]))] H := hP
  have hD : va_D A [(ho, .inr (11, [.ref q_1, .null, .null, .null, .null, .int (nI 0)])), (q_1, .inr (4, [.int (nI 0), .ref (gE G), .int (nI 0)])), (q_4, .inr (10, [.null, .null, .null, .int (nI 0), .int (nI 0), .int (nI 0)]))] := hD
  refine lv_dup hx hb dX6_init_19 rfl ?_
  refine fin_v hP hD hS hA [2] [0, 1] (wr := [(ho, .inr (11, [.ref q_1, .null, .null, .null, .null, .int (nI 0)])), (q_1, .inr (4, [.int (nI 0), .ref (gE G), .int (nI 0)]))]) rfl rfl (by decide) (by decide) (va_runIN (As := []) (rest := [.ref q_4, .ref ho]) ⟨hx, hb, hml, hown, hts⟩ (c_X5_init l G q_4 H.size) ⟨(va_cnB 0 hts (gI q121) rfl rfl rfl (hE.1.1 _ nq119) (hts _ q49) (by decide +kernel) ⟨Nat.le_of_ble_eq_true rfl, Nat.le_of_ble_eq_true rfl⟩), rfl, hts _ q120⟩ (preS hK hE hP hD hS hA [2] rfl (by decide)) rfl rfl hl.1 rfl (lv_room (Nat.le_of_ble_eq_true rfl)) dX6_init_20 ⟨Nat.le_of_ble_eq_true rfl, Nat.le_of_ble_eq_true rfl⟩) (fun u9 hw_12 H locs hP hD hS => ?_)
  obtain ⟨b_5, mm_6, sr_7, se_8, f_9, g_10, hh_11⟩ := u9
  have hP : va_P (gD G) vwCl [(ho, .inr (11, [.ref q_1, .null, .null, .null, .null, .int (nI 0)])), (q_1, .inr (4, [.int (nI 0), .ref (gE G), .int (nI 0)])), (q_4, .inr (10, [.ref b_5, .ref sr_7, .ref se_8, .int (nI 0), .int (nI 0), .int (nI 110)])), (b_5, .inr (5, [.ref mm_6])), (mm_6, .inl (gyI G, 16, .inl f_9)), (sr_7, .inl (gyI G, 64, .inl g_10)), (se_8, .inl (gyI G, 16, .inl hh_11))] H := hP
  have hD : va_D A [(ho, .inr (11, [.ref q_1, .null, .null, .null, .null, .int (nI 0)])), (q_1, .inr (4, [.int (nI 0), .ref (gE G), .int (nI 0)])), (q_4, .inr (10, [.ref b_5, .ref sr_7, .ref se_8, .int (nI 0), .int (nI 0), .int (nI 110)])), (b_5, .inr (5, [.ref mm_6])), (mm_6, .inl (gyI G, 16, .inl f_9)), (sr_7, .inl (gyI G, 64, .inl g_10)), (se_8, .inl (gyI G, 16, .inl hh_11))] := hD
  refine va_putF (D := gD G) (ci := 11) (v := .ref q_4) (ty := .object "Pegboardry$Solver") (C := RX6) (T := TX6) (N := 6) hx hb hts fwX6 tyX6 tyX6_ok nmX6 hown hK hP hD hS 0 rfl rfl 1 (by decide) (hts _ q182) (fun _ h9 => h9) rfl hin rfl (by decide +kernel) rfl rfl (Nat.le_of_ble_eq_true rfl) dX6_init_23 (fun H locs hP hD hS => ?_)
  have hP : va_P (gD G) vwCl [(ho, .inr (11, [.ref q_1, .ref q_4, .null, .null, .null, .int (nI 0)])), (q_1, .inr (4, [.int (nI 0), .ref (gE G), .int (nI 0)])), (q_4, .inr (10, [.ref b_5, .ref sr_7, .ref se_8, .int (nI 0), .int (nI 0), .int (nI 110)])), (b_5, .inr (5, [.ref mm_6])), (mm_6, .inl (gyI G, 16, .inl f_9)), (sr_7, .inl (gyI G, 64, .inl g_10)), (se_8, .inl (gyI G, 16, .inl hh_11))] H := hP
  have hD : va_D A [(ho, .inr (11, [.ref q_1, .ref q_4, .null, .null, .null, .int (nI 0)])), (q_1, .inr (4, [.int (nI 0), .ref (gE G), .int (nI 0)])), (q_4, .inr (10, [.ref b_5, .ref sr_7, .ref se_8, .int (nI 0), .int (nI 0), .int (nI 110)])), (b_5, .inr (5, [.ref mm_6])), (mm_6, .inl (gyI G, 16, .inl f_9)), (sr_7, .inl (gyI G, 64, .inl g_10)), (se_8, .inl (gyI G, 16, .inl hh_11))] := hD
  refine lv_aload_n hx hb dX6_init_26 rfl (lv_at hl 0 rfl) ?_
  refine va_new (D := gD G) (ci := 9) (fs := [.null, .null, .int 0]) (C := RX4) (T := TX4) (N := 3) hx hb hts fwX4 tyX4 tyX4_ok hown (hts _ q161) (hts _ q162) (hts _ q51) hK hP hD hS hA rfl (fun j hj => by rcases (show j = 0 ∨ j = 1 ∨ j = 2 by omega) with rfl | rfl | rfl <;> rfl) (Nat.le_of_ble_eq_true rfl) (Nat.le_of_ble_eq_true rfl) dX6_init_27 (fun q_14 H hP hD hS => ?_)
  have hP : va_P (gD G) vwCl [(ho, .inr (11, [.ref q_1, .ref q_4, .null, .null, .null, .int (nI 0)])), (q_1, .inr (4, [.int (nI 0), .ref (gE G), .int (nI 0)])), (q_4, .inr (10, [.ref b_5, .ref sr_7, .ref se_8, .int (nI 0), .int (nI 0), .int (nI 110)])), (b_5, .inr (5, [.ref mm_6])), (mm_6, .inl (gyI G, 16, .inl f_9)), (sr_7, .inl (gyI G, 64, .inl g_10)), (se_8, .inl (gyI G, 16, .inl hh_11)), (q_14, .inr (9, [.null, .null, .int (nI 0)]))] H := hP
  have hD : va_D A [(ho, .inr (11, [.ref q_1, .ref q_4, .null, .null, .null, .int (nI 0)])), (q_1, .inr (4, [.int (nI 0), .ref (gE G), .int (nI 0)])), (q_4, .inr (10, [.ref b_5, .ref sr_7, .ref se_8, .int (nI 0), .int (nI 0), .int (nI 110)])), (b_5, .inr (5, [.ref mm_6])), (mm_6, .inl (gyI G, 16, .inl f_9)), (sr_7, .inl (gyI G, 64, .inl g_10)), (se_8, .inl (gyI G, 16, .inl hh_11)), (q_14, .inr (9, [.null, .null, .int (nI 0)]))] := hD
  refine lv_dup hx hb dX6_init_30 rfl ?_
  refine fin_v hP hD hS hA [7] [0, 1, 2, 3, 4, 5, 6] (wr := [(ho, .inr (11, [.ref q_1, .ref q_4, .null, .null, .null, .int (nI 0)])), (q_1, .inr (4, [.int (nI 0), .ref (gE G), .int (nI 0)])), (q_4, .inr (10, [.ref b_5, .ref sr_7, .ref se_8, .int (nI 0), .int (nI 0), .int (nI 110)])), (b_5, .inr (5, [.ref mm_6])), (mm_6, .inl (gyI G, 16, .inl f_9)), (sr_7, .inl (gyI G, 64, .inl g_10)), (se_8, .inl (gyI G, 16, .inl hh_11))]) rfl rfl (by decide) (by decide) (va_runIN (As := []) (rest := [.ref q_14, .ref ho]) ⟨hx, hb, hml, hown, hts⟩ (c_X4_init l G q_14 H.size) ⟨(va_cnB 0 hts (gI q165) rfl rfl rfl (hE.1.1 _ nq163) (hts _ q51) (by decide +kernel) ⟨Nat.le_of_ble_eq_true rfl, Nat.le_of_ble_eq_true rfl⟩), rfl, hts _ q164⟩ (preS hK hE hP hD hS hA [7] rfl (by decide)) rfl rfl hl.1 rfl (lv_room (Nat.le_of_ble_eq_true rfl)) dX6_init_31 ⟨Nat.le_of_ble_eq_true rfl, Nat.le_of_ble_eq_true rfl⟩) (fun u9 hw_19 H locs hP hD hS => ?_)
  obtain ⟨tr_15, ff_16, f_17, g_18⟩ := u9
  have hP : va_P (gD G) vwCl [(ho, .inr (11, [.ref q_1, .ref q_4, .null, .null, .null, .int (nI 0)])), (q_1, .inr (4, [.int (nI 0), .ref (gE G), .int (nI 0)])), (q_4, .inr (10, [.ref b_5, .ref sr_7, .ref se_8, .int (nI 0), .int (nI 0), .int (nI 110)])), (b_5, .inr (5, [.ref mm_6])), (mm_6, .inl (gyI G, 16, .inl f_9)), (sr_7, .inl (gyI G, 64, .inl g_10)), (se_8, .inl (gyI G, 16, .inl hh_11)), (q_14, .inr (9, [.ref tr_15, .ref ff_16, .int (nI 0)])), (tr_15, .inl (gyI G, 16, .inl f_17)), (ff_16, .inl (gyI G, 16, .inl g_18))] H := hP
  have hD : va_D A [(ho, .inr (11, [.ref q_1, .ref q_4, .null, .null, .null, .int (nI 0)])), (q_1, .inr (4, [.int (nI 0), .ref (gE G), .int (nI 0)])), (q_4, .inr (10, [.ref b_5, .ref sr_7, .ref se_8, .int (nI 0), .int (nI 0), .int (nI 110)])), (b_5, .inr (5, [.ref mm_6])), (mm_6, .inl (gyI G, 16, .inl f_9)), (sr_7, .inl (gyI G, 64, .inl g_10)), (se_8, .inl (gyI G, 16, .inl hh_11)), (q_14, .inr (9, [.ref tr_15, .ref ff_16, .int (nI 0)])), (tr_15, .inl (gyI G, 16, .inl f_17)), (ff_16, .inl (gyI G, 16, .inl g_18))] := hD
  refine va_putF (D := gD G) (ci := 11) (v := .ref q_14) (ty := .object "Pegboardry$Search") (C := RX6) (T := TX6) (N := 6) hx hb hts fwX6 tyX6 tyX6_ok nmX6 hown hK hP hD hS 0 rfl rfl 2 (by decide) (hts _ q183) (fun _ h9 => h9) rfl hin rfl (by decide +kernel) rfl rfl (Nat.le_of_ble_eq_true rfl) dX6_init_34 (fun H locs hP hD hS => ?_)
  have hP : va_P (gD G) vwCl [(ho, .inr (11, [.ref q_1, .ref q_4, .ref q_14, .null, .null, .int (nI 0)])), (q_1, .inr (4, [.int (nI 0), .ref (gE G), .int (nI 0)])), (q_4, .inr (10, [.ref b_5, .ref sr_7, .ref se_8, .int (nI 0), .int (nI 0), .int (nI 110)])), (b_5, .inr (5, [.ref mm_6])), (mm_6, .inl (gyI G, 16, .inl f_9)), (sr_7, .inl (gyI G, 64, .inl g_10)), (se_8, .inl (gyI G, 16, .inl hh_11)), (q_14, .inr (9, [.ref tr_15, .ref ff_16, .int (nI 0)])), (tr_15, .inl (gyI G, 16, .inl f_17)), (ff_16, .inl (gyI G, 16, .inl g_18))] H := hP
  have hD : va_D A [(ho, .inr (11, [.ref q_1, .ref q_4, .ref q_14, .null, .null, .int (nI 0)])), (q_1, .inr (4, [.int (nI 0), .ref (gE G), .int (nI 0)])), (q_4, .inr (10, [.ref b_5, .ref sr_7, .ref se_8, .int (nI 0), .int (nI 0), .int (nI 110)])), (b_5, .inr (5, [.ref mm_6])), (mm_6, .inl (gyI G, 16, .inl f_9)), (sr_7, .inl (gyI G, 64, .inl g_10)), (se_8, .inl (gyI G, 16, .inl hh_11)), (q_14, .inr (9, [.ref tr_15, .ref ff_16, .int (nI 0)])), (tr_15, .inl (gyI G, 16, .inl f_17)), (ff_16, .inl (gyI G, 16, .inl g_18))] := hD
  refine lv_aload_n hx hb dX6_init_37 rfl (lv_at hl 0 rfl) ?_
  refine va_new (D := gD G) (ci := 5) (fs := [.null]) (C := RX0) (T := TX0) (N := 1) hx hb hts fwX0 tyX0 tyX0_ok hown (hts _ q179) (hts _ q124) (hts _ q50) hK hP hD hS hA rfl (fun j hj => by rcases (show j = 0 by omega) with rfl <;> rfl) (Nat.le_of_ble_eq_true rfl) (Nat.le_of_ble_eq_true rfl) dX6_init_38 (fun q_21 H hP hD hS => ?_)
  have hP : va_P (gD G) vwCl [(ho, .inr (11, [.ref q_1, .ref q_4, .ref q_14, .null, .null, .int (nI 0)])), (q_1, .inr (4, [.int (nI 0), .ref (gE G), .int (nI 0)])), (q_4, .inr (10, [.ref b_5, .ref sr_7, .ref se_8, .int (nI 0), .int (nI 0), .int (nI 110)])), (b_5, .inr (5, [.ref mm_6])), (mm_6, .inl (gyI G, 16, .inl f_9)), (sr_7, .inl (gyI G, 64, .inl g_10)), (se_8, .inl (gyI G, 16, .inl hh_11)), (q_14, .inr (9, [.ref tr_15, .ref ff_16, .int (nI 0)])), (tr_15, .inl (gyI G, 16, .inl f_17)), (ff_16, .inl (gyI G, 16, .inl g_18)), (q_21, .inr (5, [.null]))] H := hP
  have hD : va_D A [(ho, .inr (11, [.ref q_1, .ref q_4, .ref q_14, .null, .null, .int (nI 0)])), (q_1, .inr (4, [.int (nI 0), .ref (gE G), .int (nI 0)])), (q_4, .inr (10, [.ref b_5, .ref sr_7, .ref se_8, .int (nI 0), .int (nI 0), .int (nI 110)])), (b_5, .inr (5, [.ref mm_6])), (mm_6, .inl (gyI G, 16, .inl f_9)), (sr_7, .inl (gyI G, 64, .inl g_10)), (se_8, .inl (gyI G, 16, .inl hh_11)), (q_14, .inr (9, [.ref tr_15, .ref ff_16, .int (nI 0)])), (tr_15, .inl (gyI G, 16, .inl f_17)), (ff_16, .inl (gyI G, 16, .inl g_18)), (q_21, .inr (5, [.null]))] := hD
  refine lv_dup hx hb dX6_init_41 rfl ?_
  refine fin_v hP hD hS hA [10] [0, 1, 2, 3, 4, 5, 6, 7, 8, 9] (wr := [(ho, .inr (11, [.ref q_1, .ref q_4, .ref q_14, .null, .null, .int (nI 0)])), (q_1, .inr (4, [.int (nI 0), .ref (gE G), .int (nI 0)])), (q_4, .inr (10, [.ref b_5, .ref sr_7, .ref se_8, .int (nI 0), .int (nI 0), .int (nI 110)])), (b_5, .inr (5, [.ref mm_6])), (mm_6, .inl (gyI G, 16, .inl f_9)), (sr_7, .inl (gyI G, 64, .inl g_10)), (se_8, .inl (gyI G, 16, .inl hh_11)), (q_14, .inr (9, [.ref tr_15, .ref ff_16, .int (nI 0)])), (tr_15, .inl (gyI G, 16, .inl f_17)), (ff_16, .inl (gyI G, 16, .inl g_18))]) rfl rfl (by decide) (by decide) (va_runIN (As := []) (rest := [.ref q_21, .ref ho]) ⟨hx, hb, hml, hown, hts⟩ (c_X0_init l G q_21 H.size) ⟨(va_cnB 0 hts (gI q127) rfl rfl rfl (hE.1.1 _ nq180) (hts _ q50) (by decide +kernel) ⟨Nat.le_of_ble_eq_true rfl, Nat.le_of_ble_eq_true rfl⟩), rfl, hts _ q126⟩ (preS hK hE hP hD hS hA [10] rfl (by decide)) rfl rfl hl.1 rfl (lv_room (Nat.le_of_ble_eq_true rfl)) dX6_init_42 ⟨Nat.le_of_ble_eq_true rfl, Nat.le_of_ble_eq_true rfl⟩) (fun u9 hw_24 H locs hP hD hS => ?_)
  obtain ⟨mm_22, f_23⟩ := u9
  have hP : va_P (gD G) vwCl [(ho, .inr (11, [.ref q_1, .ref q_4, .ref q_14, .null, .null, .int (nI 0)])), (q_1, .inr (4, [.int (nI 0), .ref (gE G), .int (nI 0)])), (q_4, .inr (10, [.ref b_5, .ref sr_7, .ref se_8, .int (nI 0), .int (nI 0), .int (nI 110)])), (b_5, .inr (5, [.ref mm_6])), (mm_6, .inl (gyI G, 16, .inl f_9)), (sr_7, .inl (gyI G, 64, .inl g_10)), (se_8, .inl (gyI G, 16, .inl hh_11)), (q_14, .inr (9, [.ref tr_15, .ref ff_16, .int (nI 0)])), (tr_15, .inl (gyI G, 16, .inl f_17)), (ff_16, .inl (gyI G, 16, .inl g_18)), (q_21, .inr (5, [.ref mm_22])), (mm_22, .inl (gyI G, 16, .inl f_23))] H := hP
  have hD : va_D A [(ho, .inr (11, [.ref q_1, .ref q_4, .ref q_14, .null, .null, .int (nI 0)])), (q_1, .inr (4, [.int (nI 0), .ref (gE G), .int (nI 0)])), (q_4, .inr (10, [.ref b_5, .ref sr_7, .ref se_8, .int (nI 0), .int (nI 0), .int (nI 110)])), (b_5, .inr (5, [.ref mm_6])), (mm_6, .inl (gyI G, 16, .inl f_9)), (sr_7, .inl (gyI G, 64, .inl g_10)), (se_8, .inl (gyI G, 16, .inl hh_11)), (q_14, .inr (9, [.ref tr_15, .ref ff_16, .int (nI 0)])), (tr_15, .inl (gyI G, 16, .inl f_17)), (ff_16, .inl (gyI G, 16, .inl g_18)), (q_21, .inr (5, [.ref mm_22])), (mm_22, .inl (gyI G, 16, .inl f_23))] := hD
  refine va_putF (D := gD G) (ci := 11) (v := .ref q_21) (ty := .object "Pegboardry$Board") (C := RX6) (T := TX6) (N := 6) hx hb hts fwX6 tyX6 tyX6_ok nmX6 hown hK hP hD hS 0 rfl rfl 3 (by decide) (hts _ q184) (fun _ h9 => h9) rfl hin rfl (by decide +kernel) rfl rfl (Nat.le_of_ble_eq_true rfl) dX6_init_45 (fun H locs hP hD hS => ?_)
  have hP : va_P (gD G) vwCl [(ho, .inr (11, [.ref q_1, .ref q_4, .ref q_14, .ref q_21, .null, .int (nI 0)])), (q_1, .inr (4, [.int (nI 0), .ref (gE G), .int (nI 0)])), (q_4, .inr (10, [.ref b_5, .ref sr_7, .ref se_8, .int (nI 0), .int (nI 0), .int (nI 110)])), (b_5, .inr (5, [.ref mm_6])), (mm_6, .inl (gyI G, 16, .inl f_9)), (sr_7, .inl (gyI G, 64, .inl g_10)), (se_8, .inl (gyI G, 16, .inl hh_11)), (q_14, .inr (9, [.ref tr_15, .ref ff_16, .int (nI 0)])), (tr_15, .inl (gyI G, 16, .inl f_17)), (ff_16, .inl (gyI G, 16, .inl g_18)), (q_21, .inr (5, [.ref mm_22])), (mm_22, .inl (gyI G, 16, .inl f_23))] H := hP
  have hD : va_D A [(ho, .inr (11, [.ref q_1, .ref q_4, .ref q_14, .ref q_21, .null, .int (nI 0)])), (q_1, .inr (4, [.int (nI 0), .ref (gE G), .int (nI 0)])), (q_4, .inr (10, [.ref b_5, .ref sr_7, .ref se_8, .int (nI 0), .int (nI 0), .int (nI 110)])), (b_5, .inr (5, [.ref mm_6])), (mm_6, .inl (gyI G, 16, .inl f_9)), (sr_7, .inl (gyI G, 64, .inl g_10)), (se_8, .inl (gyI G, 16, .inl hh_11)), (q_14, .inr (9, [.ref tr_15, .ref ff_16, .int (nI 0)])), (tr_15, .inl (gyI G, 16, .inl f_17)), (ff_16, .inl (gyI G, 16, .inl g_18)), (q_21, .inr (5, [.ref mm_22])), (mm_22, .inl (gyI G, 16, .inl f_23))] := hD
  refine lv_aload_n hx hb dX6_init_48 rfl (lv_at hl 0 rfl) ?_
  refine lv_null hx hb dX6_init_49 ?_
  refine va_put (D := gD G) (ci := 11) (v := .null) (ty := .object "Pegboardry$Puzzle") (C := RX6) (T := TX6) (N := 6) hx hb hts fwX6 tyX6 tyX6_ok nmX6 hown hK hP hD hS 0 rfl rfl 4 (by decide) (hts _ q185) (fun _ h9 => h9) rfl (by decide +kernel) rfl rfl (Nat.le_of_ble_eq_true rfl) dX6_init_50 (fun H locs hP hD hS => ?_)
  have hP : va_P (gD G) vwCl [(ho, .inr (11, [.ref q_1, .ref q_4, .ref q_14, .ref q_21, .null, .int (nI 0)])), (q_1, .inr (4, [.int (nI 0), .ref (gE G), .int (nI 0)])), (q_4, .inr (10, [.ref b_5, .ref sr_7, .ref se_8, .int (nI 0), .int (nI 0), .int (nI 110)])), (b_5, .inr (5, [.ref mm_6])), (mm_6, .inl (gyI G, 16, .inl f_9)), (sr_7, .inl (gyI G, 64, .inl g_10)), (se_8, .inl (gyI G, 16, .inl hh_11)), (q_14, .inr (9, [.ref tr_15, .ref ff_16, .int (nI 0)])), (tr_15, .inl (gyI G, 16, .inl f_17)), (ff_16, .inl (gyI G, 16, .inl g_18)), (q_21, .inr (5, [.ref mm_22])), (mm_22, .inl (gyI G, 16, .inl f_23))] H := hP
  have hD : va_D A [(ho, .inr (11, [.ref q_1, .ref q_4, .ref q_14, .ref q_21, .null, .int (nI 0)])), (q_1, .inr (4, [.int (nI 0), .ref (gE G), .int (nI 0)])), (q_4, .inr (10, [.ref b_5, .ref sr_7, .ref se_8, .int (nI 0), .int (nI 0), .int (nI 110)])), (b_5, .inr (5, [.ref mm_6])), (mm_6, .inl (gyI G, 16, .inl f_9)), (sr_7, .inl (gyI G, 64, .inl g_10)), (se_8, .inl (gyI G, 16, .inl hh_11)), (q_14, .inr (9, [.ref tr_15, .ref ff_16, .int (nI 0)])), (tr_15, .inl (gyI G, 16, .inl f_17)), (ff_16, .inl (gyI G, 16, .inl g_18)), (q_21, .inr (5, [.ref mm_22])), (mm_22, .inl (gyI G, 16, .inl f_23))] := hD
  refine lv_aload_n hx hb dX6_init_53 rfl (lv_at hl 0 rfl) ?_
  refine lv_iconst (v := nI 0) hx hb dX6_init_54 (by decide) ?_
  refine va_put (D := gD G) (ci := 11) (v := .int (nI 0)) (ty := .int) (C := RX6) (T := TX6) (N := 6) hx hb hts fwX6 tyX6 tyX6_ok nmX6 hown hK hP hD hS 0 rfl rfl 5 (by decide) (hts _ q186) (fun _ h9 => h9) rfl (by decide +kernel) rfl rfl (Nat.le_of_ble_eq_true rfl) dX6_init_55 (fun H locs hP hD hS => ?_)
  have hP : va_P (gD G) vwCl [(ho, .inr (11, [.ref q_1, .ref q_4, .ref q_14, .ref q_21, .null, .int (nI 0)])), (q_1, .inr (4, [.int (nI 0), .ref (gE G), .int (nI 0)])), (q_4, .inr (10, [.ref b_5, .ref sr_7, .ref se_8, .int (nI 0), .int (nI 0), .int (nI 110)])), (b_5, .inr (5, [.ref mm_6])), (mm_6, .inl (gyI G, 16, .inl f_9)), (sr_7, .inl (gyI G, 64, .inl g_10)), (se_8, .inl (gyI G, 16, .inl hh_11)), (q_14, .inr (9, [.ref tr_15, .ref ff_16, .int (nI 0)])), (tr_15, .inl (gyI G, 16, .inl f_17)), (ff_16, .inl (gyI G, 16, .inl g_18)), (q_21, .inr (5, [.ref mm_22])), (mm_22, .inl (gyI G, 16, .inl f_23))] H := hP
  have hD : va_D A [(ho, .inr (11, [.ref q_1, .ref q_4, .ref q_14, .ref q_21, .null, .int (nI 0)])), (q_1, .inr (4, [.int (nI 0), .ref (gE G), .int (nI 0)])), (q_4, .inr (10, [.ref b_5, .ref sr_7, .ref se_8, .int (nI 0), .int (nI 0), .int (nI 110)])), (b_5, .inr (5, [.ref mm_6])), (mm_6, .inl (gyI G, 16, .inl f_9)), (sr_7, .inl (gyI G, 64, .inl g_10)), (se_8, .inl (gyI G, 16, .inl hh_11)), (q_14, .inr (9, [.ref tr_15, .ref ff_16, .int (nI 0)])), (tr_15, .inl (gyI G, 16, .inl f_17)), (ff_16, .inl (gyI G, 16, .inl g_18)), (q_21, .inr (5, [.ref mm_22])), (mm_22, .inl (gyI G, 16, .inl f_23))] := hD
  have hP9 := hP.sub (ws' := [(ho, .inr (11, [.ref q_1, .ref q_4, .ref q_14, .ref q_21, .null, .int (nI 0)])), (q_1, .inr (4, [.int (nI 0), .ref (gE G), .int (nI 0)]))]) [0, 1] rfl
  have hD9 := hD.sub (ws' := [(ho, .inr (11, [.ref q_1, .ref q_4, .ref q_14, .ref q_21, .null, .int (nI 0)])), (q_1, .inr (4, [.int (nI 0), .ref (gE G), .int (nI 0)]))]) [0, 1] (by decide) rfl
  subst hQ
  exact W.vret hx hb hr (fun t ht hW => ⟨⟨(q_1, q_4, q_14, q_21), rfl, trivial, by rw [ht]; exact hP9, hD9⟩, hS.F ht⟩) hS.2.2 dX6_init_58
set_option maxHeartbeats 4000000 in
set_option maxRecDepth 100000 in
theorem c_X6_puzzle (l : Launch) (G : GG) (ho : Nat) (al : Nat) (hs : Nat) (ts : Nat) (pb : Nat) (lr : Int32) (md : Int32) : Mi l G yX6_puzzle cX6_puzzle 1 (some .int) ({ frames := 5, cells := 13, slots := 190, locals := 127 } : Room) [.ref ho] [(ho, .inr (11, [.ref al, .ref hs, .ref ts, .ref pb, .null, .int lr])), (al, .inr (4, [.int md, .ref (gE G), .int (nI 0)]))] (fun (r : Int32) (u : Int32 × Nat × Nat × Nat × Nat × Nat × Nat × Nat × (Nat → Int32) × Nat × Nat × Nat × Nat × (Nat → Int32) × (Nat → Int32) × (Nat → Int32)) => r = nI 0) (fun (u : Int32 × Nat × Nat × Nat × Nat × Nat × Nat × Nat × (Nat → Int32) × Nat × Nat × Nat × Nat × (Nat → Int32) × (Nat → Int32) × (Nat → Int32)) => [(ho, .inr (11, [.ref al, .ref hs, .ref ts, .ref pb, .null, .int lr])), (al, .inr (4, [.int u.1, .ref u.2.1, .int (nI 1)])), (u.2.1, .inl (gyO G, 10, .inr (.inr (.inr (.inr (va_up (fun _ => none) 0 (some u.2.2.1))))))), (u.2.2.1, .inr (8, [.ref u.2.2.2.1, .ref u.2.2.2.2.1, .ref u.2.2.2.2.2.1, .ref u.2.2.2.2.2.2.1, .ref u.2.2.2.2.2.2.2.1, .int (nI 0), .int (nI 0)])), (u.2.2.2.1, .inl (gyI G, 16, .inl u.2.2.2.2.2.2.2.2.1)), (u.2.2.2.2.2.1, .inr (4, [.int (nI 0), .ref (gE G), .int (nI 0)])), (u.2.2.2.2.2.2.1, .inr (10, [.ref u.2.2.2.2.2.2.2.2.2.1, .ref u.2.2.2.2.2.2.2.2.2.2.2.1, .ref u.2.2.2.2.2.2.2.2.2.2.2.2.1, .int (nI 0), .int (nI 0), .int (nI 110)])), (u.2.2.2.2.2.2.2.2.2.1, .inr (5, [.ref u.2.2.2.2.2.2.2.2.2.2.1])), (u.2.2.2.2.2.2.2.2.2.2.1, .inl (gyI G, 16, .inl u.2.2.2.2.2.2.2.2.2.2.2.2.2.1)), (u.2.2.2.2.2.2.2.2.2.2.2.1, .inl (gyI G, 64, .inl u.2.2.2.2.2.2.2.2.2.2.2.2.2.2.1)), (u.2.2.2.2.2.2.2.2.2.2.2.2.1, .inl (gyI G, 16, .inl u.2.2.2.2.2.2.2.2.2.2.2.2.2.2.2))]) := by
  intro sz
  refine Met.ofW (cc := cX6_puzzle) (maxL := 1) (ret := (some .int)) (by decide) rfl ?_
  intro p e s m args below meth c s₁ B9 hml hv
  obtain ⟨rfl, hsz, hP, hK, hD0, hE⟩ := hv
  have hx := B9.exec
  have hb := B9.bytes
  have hr := B9.returns
  have hts : ∀ w ∈ WW, w.before ([.ref ho] : List Value).toArray s = true := fun w h => atoms_spec (ws := .code yX6_puzzle cX6_puzzle 1 (some .int) :: WW) B9.pre w (List.mem_cons_of_mem _ h)
  have hown : s.vm.findClass RX6 = some m.cls := findClass_of_methodNamed B9.named
  subst hsz
  have hD := hD0.self (sz := s.heap.size)
  generalize hAe : va_A [(ho, .inr (11, [.ref al, .ref hs, .ref ts, .ref pb, .null, .int lr])), (al, .inr (4, [.int md, .ref (gE G), .int (nI 0)]))] s.heap.size = A at hD hE ⊢
  have hA : ∀ q : Nat, s.heap.size ≤ q → A q := fun q h => by rw [← hAe]; exact Or.inr h
  have hl := lv_entry ([.ref ho]) (n := 1) (Nat.le_of_ble_eq_true rfl)
  rw [lg_entry_eq]
  generalize (lg_sl ([.ref ho]) ++ List.replicate (1 - (lg_sl ([.ref ho])).length) Slot.unset).toArray = ls at hl ⊢
  have hl : lv_has ls 1 [(0, .ref ho)] := hl
  refine qgen (fun Q hQ => ?_)
  refine hgen (fun H locs hP hD hS => ?_) hP hD
  refine lv_aload_n hx hb dX6_puzzle_0 rfl (lv_at hl 0 rfl) ?_
  refine va_get (D := gD G) (ci := 11) (v := .ref al) (C := RX6) (T := TX6) (N := 6) hx hb hts fwX6 hown hK hP 0 rfl rfl 0 (by decide) (hts _ q181) (fun _ h9 => h9) rfl dX6_puzzle_1 ?_
  refine fin_i hP hD hS hA [1] [0] (wr := [(ho, .inr (11, [.ref al, .ref hs, .ref ts, .ref pb, .null, .int lr]))]) rfl rfl (by decide) (by decide) (va_runV (As := []) (rest := []) ⟨hx, hb, hml, hown, hts⟩ (c_Jx4a65c_size_8abf5 l G al md (gE G) 0 H.size) (cwV 0 hts (gV q208 q209 q210 q48 q211) rfl rfl rfl (by decide +kernel) ⟨Nat.le_of_ble_eq_true rfl, Nat.le_of_ble_eq_true rfl⟩) (preV (q0 := 1) (ci := 4) hK hE hP hD hS hA [1] rfl (by decide) rfl rfl) rfl rfl hl.1 rfl (lv_room (Nat.le_of_ble_eq_true rfl)) dX6_puzzle_4 ⟨Nat.le_of_ble_eq_true rfl, Nat.le_of_ble_eq_true rfl⟩) (fun r_2 u9 hw_1 H locs hP hD hS => ?_)
  subst hw_1
  have hP : va_P (gD G) vwCl [(ho, .inr (11, [.ref al, .ref hs, .ref ts, .ref pb, .null, .int lr])), (al, .inr (4, [.int md, .ref (gE G), .int (nI 0)]))] H := hP
  have hD : va_D A [(ho, .inr (11, [.ref al, .ref hs, .ref ts, .ref pb, .null, .int lr])), (al, .inr (4, [.int md, .ref (gE G), .int (nI 0)]))] := hD
  refine lv_bipush (v := nI 8) hx hb dX6_puzzle_7 (by decide) ?_
  refine lv_icmp_lt (tgt := 22) hx hb dX6_puzzle_9 (by decide) (fun c_3 => ?_) (fun c_3 => ?_)
  · skip
    have c_3 : 0 < 8 := (nI_ltI (a := 0) (b := 8) (by omega) (by omega)).mp c_3
    refine lv_aload_n hx hb dX6_puzzle_22 rfl (lv_at hl 0 rfl) ?_
    refine va_get (D := gD G) (ci := 11) (v := .ref al) (C := RX6) (T := TX6) (N := 6) hx hb hts fwX6 hown hK hP 0 rfl rfl 0 (by decide) (hts _ q181) (fun _ h9 => h9) rfl dX6_puzzle_23 ?_
    refine va_new (D := gD G) (ci := 8) (fs := [.null, .null, .null, .null, .null, .int 0, .int 0]) (C := RX3) (T := TX3) (N := 7) hx hb hts fwX3 tyX3 tyX3_ok hown (hts _ q226) (hts _ q235) (hts _ q57) hK hP hD hS hA rfl (fun j hj => by rcases (show j = 0 ∨ j = 1 ∨ j = 2 ∨ j = 3 ∨ j = 4 ∨ j = 5 ∨ j = 6 by omega) with rfl | rfl | rfl | rfl | rfl | rfl | rfl <;> rfl) (Nat.le_of_ble_eq_true rfl) (Nat.le_of_ble_eq_true rfl) dX6_puzzle_26 (fun q_4 H hP hD hS => ?_)
    have hP : va_P (gD G) vwCl [(ho, .inr (11, [.ref al, .ref hs, .ref ts, .ref pb, .null, .int lr])), (al, .inr (4, [.int md, .ref (gE G), .int (nI 0)])), (q_4, .inr (8, [.null, .null, .null, .null, .null, .int (nI 0), .int (nI 0)]))] H := hP
    have hD : va_D A [(ho, .inr (11, [.ref al, .ref hs, .ref ts, .ref pb, .null, .int lr])), (al, .inr (4, [.int md, .ref (gE G), .int (nI 0)])), (q_4, .inr (8, [.null, .null, .null, .null, .null, .int (nI 0), .int (nI 0)]))] := hD
    refine lv_dup hx hb dX6_puzzle_29 rfl ?_
    refine fin_v hP hD hS hA [2] [0, 1] (wr := [(ho, .inr (11, [.ref al, .ref hs, .ref ts, .ref pb, .null, .int lr])), (al, .inr (4, [.int md, .ref (gE G), .int (nI 0)]))]) rfl rfl (by decide) (by decide) (va_runIN (As := []) (rest := [.ref q_4, .ref al]) ⟨hx, hb, hml, hown, hts⟩ (c_X3_init l G q_4 H.size) ⟨(va_cnB 0 hts (gI q431) rfl rfl rfl (hE.1.1 _ nq429) (hts _ q57) (by decide +kernel) ⟨Nat.le_of_ble_eq_true rfl, Nat.le_of_ble_eq_true rfl⟩), rfl, hts _ q430⟩ (preS hK hE hP hD hS hA [2] rfl (by decide)) rfl rfl hl.1 rfl (lv_room (Nat.le_of_ble_eq_true rfl)) dX6_puzzle_30 ⟨Nat.le_of_ble_eq_true rfl, Nat.le_of_ble_eq_true rfl⟩) (fun u9 hw_18 H locs hP hD hS => ?_)
    obtain ⟨gr_5, mr_6, cl_7, so_8, sh_9, gv_10, b_11, mm_12, sr_13, se_14, f_15, g_16, hh_17⟩ := u9
    have hP : va_P (gD G) vwCl [(ho, .inr (11, [.ref al, .ref hs, .ref ts, .ref pb, .null, .int lr])), (al, .inr (4, [.int md, .ref (gE G), .int (nI 0)])), (q_4, .inr (8, [.ref gr_5, .ref mr_6, .ref cl_7, .ref so_8, .ref sh_9, .int (nI 0), .int (nI 0)])), (gr_5, .inl (gyI G, 16, .inl gv_10)), (cl_7, .inr (4, [.int (nI 0), .ref (gE G), .int (nI 0)])), (so_8, .inr (10, [.ref b_11, .ref sr_13, .ref se_14, .int (nI 0), .int (nI 0), .int (nI 110)])), (b_11, .inr (5, [.ref mm_12])), (mm_12, .inl (gyI G, 16, .inl f_15)), (sr_13, .inl (gyI G, 64, .inl g_16)), (se_14, .inl (gyI G, 16, .inl hh_17))] H := hP
    have hD : va_D A [(ho, .inr (11, [.ref al, .ref hs, .ref ts, .ref pb, .null, .int lr])), (al, .inr (4, [.int md, .ref (gE G), .int (nI 0)])), (q_4, .inr (8, [.ref gr_5, .ref mr_6, .ref cl_7, .ref so_8, .ref sh_9, .int (nI 0), .int (nI 0)])), (gr_5, .inl (gyI G, 16, .inl gv_10)), (cl_7, .inr (4, [.int (nI 0), .ref (gE G), .int (nI 0)])), (so_8, .inr (10, [.ref b_11, .ref sr_13, .ref se_14, .int (nI 0), .int (nI 0), .int (nI 110)])), (b_11, .inr (5, [.ref mm_12])), (mm_12, .inl (gyI G, 16, .inl f_15)), (sr_13, .inl (gyI G, 64, .inl g_16)), (se_14, .inl (gyI G, 16, .inl hh_17))] := hD
    refine fin_i hP hD hS hA [1] [0, 2, 3, 4, 5, 6, 7, 8, 9] (wr := [(ho, .inr (11, [.ref al, .ref hs, .ref ts, .ref pb, .null, .int lr])), (q_4, .inr (8, [.ref gr_5, .ref mr_6, .ref cl_7, .ref so_8, .ref sh_9, .int (nI 0), .int (nI 0)])), (gr_5, .inl (gyI G, 16, .inl gv_10)), (cl_7, .inr (4, [.int (nI 0), .ref (gE G), .int (nI 0)])), (so_8, .inr (10, [.ref b_11, .ref sr_13, .ref se_14, .int (nI 0), .int (nI 0), .int (nI 110)])), (b_11, .inr (5, [.ref mm_12])), (mm_12, .inl (gyI G, 16, .inl f_15)), (sr_13, .inl (gyI G, 64, .inl g_16)), (se_14, .inl (gyI G, 16, .inl hh_17))]) rfl rfl (by decide) (by decide) (va_runV (As := [.ref q_4]) (rest := []) ⟨hx, hb, hml, hown, hts⟩ (c_add_first l (gSet G (fun y => y = q_4)) al md q_4 (by omega) H.size) (cwV 1 hts (gV q468 q469 q470 q48 q471) rfl rfl rfl (by decide +kernel) ⟨Nat.le_of_ble_eq_true rfl, Nat.le_of_ble_eq_true rfl⟩) (preVG (ob_cell (q0 := 2) (ci := 8) hK hP hD rfl rfl (vb_asgC (hE.1.1 _ nq1386)) [1] rfl (by decide)) (q0 := 1) (ci := 4) hK hE hP hD hS hA [1] rfl (by decide) rfl rfl) rfl rfl hl.1 rfl (lv_room (Nat.le_of_ble_eq_true rfl)) dX6_puzzle_33 ⟨Nat.le_of_ble_eq_true rfl, Nat.le_of_ble_eq_true rfl⟩) (fun r_23 u9 hw_22 H locs hP hD hS => ?_)
    obtain ⟨md2_20, ed2_21⟩ := u9
    have hP : va_P (gD G) vwCl [(ho, .inr (11, [.ref al, .ref hs, .ref ts, .ref pb, .null, .int lr])), (q_4, .inr (8, [.ref gr_5, .ref mr_6, .ref cl_7, .ref so_8, .ref sh_9, .int (nI 0), .int (nI 0)])), (gr_5, .inl (gyI G, 16, .inl gv_10)), (cl_7, .inr (4, [.int (nI 0), .ref (gE G), .int (nI 0)])), (so_8, .inr (10, [.ref b_11, .ref sr_13, .ref se_14, .int (nI 0), .int (nI 0), .int (nI 110)])), (b_11, .inr (5, [.ref mm_12])), (mm_12, .inl (gyI G, 16, .inl f_15)), (sr_13, .inl (gyI G, 64, .inl g_16)), (se_14, .inl (gyI G, 16, .inl hh_17)), (al, .inr (4, [.int md2_20, .ref ed2_21, .int (nI 1)])), (ed2_21, .inl (gyO G, 10, .inr (.inr (.inr (.inr (va_up (fun _ => none) 0 (some q_4)))))))] H := hP
    have hD : va_D A [(ho, .inr (11, [.ref al, .ref hs, .ref ts, .ref pb, .null, .int lr])), (q_4, .inr (8, [.ref gr_5, .ref mr_6, .ref cl_7, .ref so_8, .ref sh_9, .int (nI 0), .int (nI 0)])), (gr_5, .inl (gyI G, 16, .inl gv_10)), (cl_7, .inr (4, [.int (nI 0), .ref (gE G), .int (nI 0)])), (so_8, .inr (10, [.ref b_11, .ref sr_13, .ref se_14, .int (nI 0), .int (nI 0), .int (nI 110)])), (b_11, .inr (5, [.ref mm_12])), (mm_12, .inl (gyI G, 16, .inl f_15)), (sr_13, .inl (gyI G, 64, .inl g_16)), (se_14, .inl (gyI G, 16, .inl hh_17)), (al, .inr (4, [.int md2_20, .ref ed2_21, .int (nI 1)])), (ed2_21, .inl (gyO G, 10, .inr (.inr (.inr (.inr (va_up (fun _ => none) 0 (some q_4)))))))] := hD
    refine lv_pop hx hb dX6_puzzle_36 rfl ?_
    refine lv_aload_n hx hb dX6_puzzle_37 rfl (lv_at hl 0 rfl) ?_
    refine va_get (D := gD G) (ci := 11) (v := .ref al) (C := RX6) (T := TX6) (N := 6) hx hb hts fwX6 hown hK hP 0 rfl rfl 0 (by decide) (hts _ q181) (fun _ h9 => h9) rfl dX6_puzzle_38 ?_
    refine fin_i hP hD hS hA [9] [0, 1, 2, 3, 4, 5, 6, 7, 8, 10] (wr := [(ho, .inr (11, [.ref al, .ref hs, .ref ts, .ref pb, .null, .int lr])), (q_4, .inr (8, [.ref gr_5, .ref mr_6, .ref cl_7, .ref so_8, .ref sh_9, .int (nI 0), .int (nI 0)])), (gr_5, .inl (gyI G, 16, .inl gv_10)), (cl_7, .inr (4, [.int (nI 0), .ref (gE G), .int (nI 0)])), (so_8, .inr (10, [.ref b_11, .ref sr_13, .ref se_14, .int (nI 0), .int (nI 0), .int (nI 110)])), (b_11, .inr (5, [.ref mm_12])), (mm_12, .inl (gyI G, 16, .inl f_15)), (sr_13, .inl (gyI G, 64, .inl g_16)), (se_14, .inl (gyI G, 16, .inl hh_17)), (ed2_21, .inl (gyO G, 10, .inr (.inr (.inr (.inr (va_up (fun _ => none) 0 (some q_4)))))))]) rfl rfl (by decide) (by decide) (va_runV (As := []) (rest := []) ⟨hx, hb, hml, hown, hts⟩ (c_Jx4a65c_size_8abf5 l G al md2_20 ed2_21 1 H.size) (cwV 0 hts (gV q208 q209 q210 q48 q211) rfl rfl rfl (by decide +kernel) ⟨Nat.le_of_ble_eq_true rfl, Nat.le_of_ble_eq_true rfl⟩) (preV (q0 := 9) (ci := 4) hK hE hP hD hS hA [9] rfl (by decide) rfl rfl) rfl rfl hl.1 rfl (lv_room (Nat.le_of_ble_eq_true rfl)) dX6_puzzle_41 ⟨Nat.le_of_ble_eq_true rfl, Nat.le_of_ble_eq_true rfl⟩) (fun r_25 u9 hw_24 H locs hP hD hS => ?_)
    subst hw_24
    have hP : va_P (gD G) vwCl [(ho, .inr (11, [.ref al, .ref hs, .ref ts, .ref pb, .null, .int lr])), (q_4, .inr (8, [.ref gr_5, .ref mr_6, .ref cl_7, .ref so_8, .ref sh_9, .int (nI 0), .int (nI 0)])), (gr_5, .inl (gyI G, 16, .inl gv_10)), (cl_7, .inr (4, [.int (nI 0), .ref (gE G), .int (nI 0)])), (so_8, .inr (10, [.ref b_11, .ref sr_13, .ref se_14, .int (nI 0), .int (nI 0), .int (nI 110)])), (b_11, .inr (5, [.ref mm_12])), (mm_12, .inl (gyI G, 16, .inl f_15)), (sr_13, .inl (gyI G, 64, .inl g_16)), (se_14, .inl (gyI G, 16, .inl hh_17)), (ed2_21, .inl (gyO G, 10, .inr (.inr (.inr (.inr (va_up (fun _ => none) 0 (some q_4))))))), (al, .inr (4, [.int md2_20, .ref ed2_21, .int (nI 1)]))] H := hP
    have hD : va_D A [(ho, .inr (11, [.ref al, .ref hs, .ref ts, .ref pb, .null, .int lr])), (q_4, .inr (8, [.ref gr_5, .ref mr_6, .ref cl_7, .ref so_8, .ref sh_9, .int (nI 0), .int (nI 0)])), (gr_5, .inl (gyI G, 16, .inl gv_10)), (cl_7, .inr (4, [.int (nI 0), .ref (gE G), .int (nI 0)])), (so_8, .inr (10, [.ref b_11, .ref sr_13, .ref se_14, .int (nI 0), .int (nI 0), .int (nI 110)])), (b_11, .inr (5, [.ref mm_12])), (mm_12, .inl (gyI G, 16, .inl f_15)), (sr_13, .inl (gyI G, 64, .inl g_16)), (se_14, .inl (gyI G, 16, .inl hh_17)), (ed2_21, .inl (gyO G, 10, .inr (.inr (.inr (.inr (va_up (fun _ => none) 0 (some q_4))))))), (al, .inr (4, [.int md2_20, .ref ed2_21, .int (nI 1)]))] := hD
    refine lv_iconst (v := nI 1) hx hb dX6_puzzle_44 (by decide) ?_
    refine lv_isub hx hb dX6_puzzle_45 ?_
    refine lv_toe (show _ = nI 0 by decide) ?_
    have hP9 := hP.sub (ws' := [(ho, .inr (11, [.ref al, .ref hs, .ref ts, .ref pb, .null, .int lr])), (al, .inr (4, [.int md2_20, .ref ed2_21, .int (nI 1)])), (ed2_21, .inl (gyO G, 10, .inr (.inr (.inr (.inr (va_up (fun _ => none) 0 (some q_4))))))), (q_4, .inr (8, [.ref gr_5, .ref mr_6, .ref cl_7, .ref so_8, .ref sh_9, .int (nI 0), .int (nI 0)])), (gr_5, .inl (gyI G, 16, .inl gv_10)), (cl_7, .inr (4, [.int (nI 0), .ref (gE G), .int (nI 0)])), (so_8, .inr (10, [.ref b_11, .ref sr_13, .ref se_14, .int (nI 0), .int (nI 0), .int (nI 110)])), (b_11, .inr (5, [.ref mm_12])), (mm_12, .inl (gyI G, 16, .inl f_15)), (sr_13, .inl (gyI G, 64, .inl g_16)), (se_14, .inl (gyI G, 16, .inl hh_17))]) [0, 10, 9, 1, 2, 3, 4, 5, 6, 7, 8] rfl
    have hD9 := hD.sub (ws' := [(ho, .inr (11, [.ref al, .ref hs, .ref ts, .ref pb, .null, .int lr])), (al, .inr (4, [.int md2_20, .ref ed2_21, .int (nI 1)])), (ed2_21, .inl (gyO G, 10, .inr (.inr (.inr (.inr (va_up (fun _ => none) 0 (some q_4))))))), (q_4, .inr (8, [.ref gr_5, .ref mr_6, .ref cl_7, .ref so_8, .ref sh_9, .int (nI 0), .int (nI 0)])), (gr_5, .inl (gyI G, 16, .inl gv_10)), (cl_7, .inr (4, [.int (nI 0), .ref (gE G), .int (nI 0)])), (so_8, .inr (10, [.ref b_11, .ref sr_13, .ref se_14, .int (nI 0), .int (nI 0), .int (nI 110)])), (b_11, .inr (5, [.ref mm_12])), (mm_12, .inl (gyI G, 16, .inl f_15)), (sr_13, .inl (gyI G, 64, .inl g_16)), (se_14, .inl (gyI G, 16, .inl hh_17))]) [0, 10, 9, 1, 2, 3, 4, 5, 6, 7, 8] (by decide) rfl
    subst hQ
    exact W.iret (v := nI 0) hx hb hr (fun t ht hW => ⟨⟨nI 0, (md2_20, ed2_21, q_4, gr_5, mr_6, cl_7, so_8, sh_9, gv_10, b_11, mm_12, sr_13, se_14, f_15, g_16, hh_17), rfl, rfl, by rw [ht]; exact hP9, hD9⟩, hS.F ht⟩) hS.2.2 dX6_puzzle_46
  · skip
    have c_3 : ¬ 0 < 8 := fun z => c_3 ((nI_ltI (a := 0) (b := 8) (by omega) (by omega)).mpr z)
    exact absurd c_3 (by decide)
set_option maxHeartbeats 4000000 in
set_option maxRecDepth 100000 in
theorem c_X1_init (l : Launch) (G : GG) (cg : Nat) : Mv l G yX1_init cX1_init 5 ({ frames := 1, cells := 1, slots := 2, locals := 20 } : Room) [.ref cg, .int (nI 49152), .int (nI 16)] [(cg, .inr (6, [.null, .int (nI 0)]))] (fun (u : Nat × (Nat → Int32)) => inB 2 16 u.2) (fun (u : Nat × (Nat → Int32)) => [(cg, .inr (6, [.ref u.1, .int (nI 16)])), (u.1, .inl (gyI G, 2, .inl u.2))]) := by
  intro sz
  refine Met.ofW (cc := cX1_init) (maxL := 5) (ret := none) (by decide) rfl ?_
  intro p e s m args below meth c s₁ B9 hml hv
  obtain ⟨rfl, hsz, hP, hK, hD0, hE⟩ := hv
  have hx := B9.exec
  have hb := B9.bytes
  have hr := B9.returns
  have hts : ∀ w ∈ WW, w.before ([.ref cg, .int (nI 49152), .int (nI 16)] : List Value).toArray s = true := fun w h => atoms_spec (ws := .code yX1_init cX1_init 5 none :: WW) B9.pre w (List.mem_cons_of_mem _ h)
  have hown : s.vm.findClass RX1 = some m.cls := findClass_of_methodNamed B9.named
  have hin : meth.name = "<init>" := (name_of_methodNamed B9.named B9.method).1
  subst hsz
  have hD := hD0.self (sz := s.heap.size)
  generalize hAe : va_A [(cg, .inr (6, [.null, .int (nI 0)]))] s.heap.size = A at hD hE ⊢
  have hA : ∀ q : Nat, s.heap.size ≤ q → A q := fun q h => by rw [← hAe]; exact Or.inr h
  have hl := lv_entry ([.ref cg, .int (nI 49152), .int (nI 16)]) (n := 5) (Nat.le_of_ble_eq_true rfl)
  rw [lg_entry_eq]
  generalize (lg_sl ([.ref cg, .int (nI 49152), .int (nI 16)]) ++ List.replicate (5 - (lg_sl ([.ref cg, .int (nI 49152), .int (nI 16)])).length) Slot.unset).toArray = ls at hl ⊢
  have hl : lv_has ls 5 [(0, .ref cg), (1, .int (nI 49152)), (2, .int (nI 16))] := hl
  refine qgen (fun Q hQ => ?_)
  refine hgen (fun H locs hP hD hS => ?_) hP hD
  refine lv_aload_n hx hb dX1_init_0 rfl (lv_at hl 0 rfl) ?_
  refine W.objInit hx hb hown (hts _ q642) (hts _ q86) (hts _ q87) rfl (by rw [hml]; exact hl.1) rfl dX1_init_1 (Nat.le_of_ble_eq_true rfl) (Nat.le_of_ble_eq_true rfl) ?_
  refine W.eq (g2 := F0 m 4 ls []) rfl ?_
  refine lv_aload_n hx hb dX1_init_4 rfl (lv_at hl 0 rfl) ?_
  refine lv_iload_n hx hb dX1_init_5 rfl (lv_at hl 1 rfl) ?_
  refine fin_i hP hD hS hA [] [0] (wr := [(cg, .inr (6, [.null, .int (nI 0)]))]) rfl rfl (by decide) (by decide) (va_runS (As := [.int (nI 49152)]) (rest := [.ref cg]) ⟨hx, hb, hml, hown, hts⟩ (c_bits_49152 l G H.size) (va_cwS 1 hts (gSt q643 q277 q70 q278) rfl rfl rfl (by decide +kernel) ⟨Nat.le_of_ble_eq_true rfl, Nat.le_of_ble_eq_true rfl⟩) (preS hK hE hP hD hS hA [] rfl (by decide)) rfl rfl hl.1 rfl (lv_room (Nat.le_of_ble_eq_true rfl)) dX1_init_6 ⟨Nat.le_of_ble_eq_true rfl, Nat.le_of_ble_eq_true rfl⟩) (fun r_2 u9 hw_1 H locs hP hD hS => ?_)
  subst hw_1
  have hP : va_P (gD G) vwCl [(cg, .inr (6, [.null, .int (nI 0)]))] H := hP
  have hD : va_D A [(cg, .inr (6, [.null, .int (nI 0)]))] := hD
  refine va_newa (D := gD G) (atype := .int) (ty := .int) (a0 := (2, .inl (fun _ => 0))) hx hb (hts _ q135) rfl hK hP hD hS hA (fun _ => rfl) (nI_pos (by omega)) (nI_clamp (by omega)) (Nat.le_of_ble_eq_true rfl) (Nat.le_of_ble_eq_true rfl) (Nat.le_of_ble_eq_true rfl) dX1_init_9 (fun q_3 cA_4 H hKn hP hD hS => ?_)
  obtain rfl := ty_one_I hK hKn
  have hb_5 : inB 2 16 (fun _ => (0 : Int32)) := inB.zero (by decide)
  have hP : va_P (gD G) vwCl [(cg, .inr (6, [.null, .int (nI 0)])), (q_3, .inl (gyI G, 2, .inl (fun _ => 0)))] H := hP
  have hD : va_D A [(cg, .inr (6, [.null, .int (nI 0)])), (q_3, .inl (gyI G, 2, .inl (fun _ => 0)))] := hD
  refine va_putF (D := gD G) (ci := 6) (v := .ref q_3) (ty := .array .int) (C := RX1) (T := TX1) (N := 2) hx hb hts fwX1 tyX1 tyX1_ok nmX1 hown hK hP hD hS 0 rfl rfl 0 (by decide) (hts _ q644) (fun _ h9 => h9) rfl hin rfl (by decide +kernel) rfl rfl (Nat.le_of_ble_eq_true rfl) dX1_init_11 (fun H locs hP hD hS => ?_)
  have hP : va_P (gD G) vwCl [(cg, .inr (6, [.ref q_3, .int (nI 0)])), (q_3, .inl (gyI G, 2, .inl (fun _ => 0)))] H := hP
  have hD : va_D A [(cg, .inr (6, [.ref q_3, .int (nI 0)])), (q_3, .inl (gyI G, 2, .inl (fun _ => 0)))] := hD
  refine lv_aload_n hx hb dX1_init_14 rfl (lv_at hl 0 rfl) ?_
  refine lv_iload_n hx hb dX1_init_15 rfl (lv_at hl 2 rfl) ?_
  refine va_putF (D := gD G) (ci := 6) (v := .int (nI 16)) (ty := .int) (C := RX1) (T := TX1) (N := 2) hx hb hts fwX1 tyX1 tyX1_ok nmX1 hown hK hP hD hS 0 rfl rfl 1 (by decide) (hts _ q645) (fun _ h9 => h9) rfl hin rfl (by decide +kernel) rfl rfl (Nat.le_of_ble_eq_true rfl) dX1_init_16 (fun H locs hP hD hS => ?_)
  have hP : va_P (gD G) vwCl [(cg, .inr (6, [.ref q_3, .int (nI 16)])), (q_3, .inl (gyI G, 2, .inl (fun _ => 0)))] H := hP
  have hD : va_D A [(cg, .inr (6, [.ref q_3, .int (nI 16)])), (q_3, .inl (gyI G, 2, .inl (fun _ => 0)))] := hD
  refine lv_iconst (v := nI 0) hx hb dX1_init_19 (by decide) ?_
  refine lv_istore_n (lv' := [(3, .int (nI 0)), (0, .ref cg), (1, .int (nI 49152)), (2, .int (nI 16))]) hx hb dX1_init_20 rfl hl (by decide) rfl (fun ls hl => ?_)
  refine lv_iconst (v := nI 0) hx hb dX1_init_21 (by decide) ?_
  refine lv_istore (lv' := [(4, .int (nI 0)), (3, .int (nI 0)), (0, .ref cg), (1, .int (nI 49152)), (2, .int (nI 16))]) hx hb dX1_init_22 hl (by decide) rfl (fun ls hl => ?_)
  have cut_24_1 : ∀ (n9 : Nat) (i : Nat) (pl : Nat) (kf : Nat → Int32) (hi : i ≤ 16) (hpl : pl ≤ 2) (hkf : inB 2 16 kf) (hm9 : 16 - i < n9) (H : Heap) (locs : List Loc), va_P (gD G) vwCl [(cg, .inr (6, [.ref q_3, .int (nI 16)])), (q_3, .inl (gyI G, 2, .inl kf))] H → va_D A [(cg, .inr (6, [.ref q_3, .int (nI 16)])), (q_3, .inl (gyI G, 2, .inl kf))] → va_S A s.heap H locs → ∀ (ls : Array Slot), lv_has ls 5 [(0, .ref cg), (1, .int (nI 49152)), (2, .int (nI 16)), (3, .int (nI pl)), (4, .int (nI i))] → W p l e ({ frames := 1, cells := 1, slots := 2, locals := 20 } : Room) s m ([.ref cg, .int (nI 49152), .int (nI 16)] : List Value).toArray below meth c H locs 1 2 Q (F0 m 24 ls []) := by
    intro n9
    induction n9 with
    | zero =>
      intro i pl kf hi hpl hkf hm9
      exact absurd hm9 (Nat.not_lt_zero _)
    | succ n9 ih_24_1 =>
      intro i pl kf hi hpl hkf hm9 H locs hP hD hS ls hl
      refine lv_iload hx hb dX1_init_24 (lv_at hl 4 rfl) ?_
      refine lv_bipush (v := nI 16) hx hb dX1_init_26 (by decide) ?_
      refine lv_icmp_ge (tgt := 66) hx hb dX1_init_28 (by decide) (fun c_6 => ?_) (fun c_6 => ?_)
      · skip
        have c_6 : 16 ≤ i := (nI_leI (a := 16) (b := i) (by omega) (by omega)).mp c_6
        have hP9 := hP.sub (ws' := [(cg, .inr (6, [.ref q_3, .int (nI 16)])), (q_3, .inl (gyI G, 2, .inl kf))]) [0, 1] rfl
        have hD9 := hD.sub (ws' := [(cg, .inr (6, [.ref q_3, .int (nI 16)])), (q_3, .inl (gyI G, 2, .inl kf))]) [0, 1] (by decide) rfl
        subst hQ
        exact W.vret hx hb hr (fun t ht hW => ⟨⟨(q_3, kf), rfl, hkf, by rw [ht]; exact hP9, hD9⟩, hS.F ht⟩) hS.2.2 dX1_init_66
      · skip
        have c_6 : ¬ 16 ≤ i := fun z => c_6 ((nI_leI (a := 16) (b := i) (by omega) (by omega)).mpr z)
        refine lv_iload_n hx hb dX1_init_31 rfl (lv_at hl 3 rfl) ?_
        refine lv_aload_n hx hb dX1_init_32 rfl (lv_at hl 0 rfl) ?_
        refine va_get (D := gD G) (ci := 6) (v := .ref q_3) (C := RX1) (T := TX1) (N := 2) hx hb hts fwX1 hown hK hP 0 rfl rfl 0 (by decide) (hts _ q644) (fun _ h9 => h9) rfl dX1_init_33 ?_
        refine va_alen (D := gD G) (v := nI 2) hx hb hK hP 1 0 rfl rfl rfl dX1_init_36 ?_
        refine lv_icmp_ge (tgt := 66) hx hb dX1_init_37 (by decide) (fun c_7 => ?_) (fun c_7 => ?_)
        · skip
          have c_7 : 2 ≤ pl := (nI_leI (a := 2) (b := pl) (by omega) (by omega)).mp c_7
          have hP9 := hP.sub (ws' := [(cg, .inr (6, [.ref q_3, .int (nI 16)])), (q_3, .inl (gyI G, 2, .inl kf))]) [0, 1] rfl
          have hD9 := hD.sub (ws' := [(cg, .inr (6, [.ref q_3, .int (nI 16)])), (q_3, .inl (gyI G, 2, .inl kf))]) [0, 1] (by decide) rfl
          subst hQ
          exact W.vret hx hb hr (fun t ht hW => ⟨⟨(q_3, kf), rfl, hkf, by rw [ht]; exact hP9, hD9⟩, hS.F ht⟩) hS.2.2 dX1_init_66
        · skip
          have c_7 : ¬ 2 ≤ pl := fun z => c_7 ((nI_leI (a := 2) (b := pl) (by omega) (by omega)).mpr z)
          refine lv_iload_n hx hb dX1_init_40 rfl (lv_at hl 1 rfl) ?_
          refine lv_iload hx hb dX1_init_41 (lv_at hl 4 rfl) ?_
          refine lv_ishr hx hb dX1_init_43 ?_
          refine lv_topi (fun w_8 ew_8 => ?_)
          refine lv_iconst (v := nI 1) hx hb dX1_init_44 (by decide) ?_
          refine lv_iand hx hb dX1_init_45 ?_
          refine lv_topi (fun w_9 ew_9 => ?_)
          refine lv_if_eq (tgt := 60) hx hb dX1_init_46 (by decide) (fun c_10 => ?_) (fun c_10 => ?_)
          · skip
            refine lv_iinc (v := nI (i + 1)) (lv' := [(4, .int (nI (i + 1))), (0, .ref cg), (1, .int (nI 49152)), (2, .int (nI 16)), (3, .int (nI pl))]) hx hb dX1_init_60 hl (k := 4) rfl (nI_add i 1) (by decide) rfl (fun ls hl => ?_)
            refine lv_goto (tgt := 24) hx hb dX1_init_63 (by decide) ?_
            exact ih_24_1 (i + 1) pl kf (by omega) (by omega) (by omega) (by omega) _ _ (hP.sub [0, 1] rfl) (hD.sub [0, 1] (by decide) rfl) hS ls (lv_sub hl [1, 2, 3, 4, 0] rfl)
          · skip
            refine lv_aload_n hx hb dX1_init_49 rfl (lv_at hl 0 rfl) ?_
            refine va_get (D := gD G) (ci := 6) (v := .ref q_3) (C := RX1) (T := TX1) (N := 2) hx hb hts fwX1 hown hK hP 0 rfl rfl 0 (by decide) (hts _ q644) (fun _ h9 => h9) rfl dX1_init_50 ?_
            refine lv_iload_n hx hb dX1_init_53 rfl (lv_at hl 3 rfl) ?_
            refine lv_iload hx hb dX1_init_54 (lv_at hl 4 rfl) ?_
            refine va_iast (D := gD G) (cA := gyI G) (n := 2) (f := kf) hx hb hK hP hD hS 1 0 rfl rfl (vp_in_nI (n := pl) (N := 2) (by omega) (by omega)) dX1_init_56 (fun H locs hP hD hS => ?_)
            have hb_12 : inB 2 16 (upd kf (nI pl).toNatClampNeg (nI i)) := hkf.upd (n := i) (by omega) rfl
            generalize upd kf (nI pl).toNatClampNeg (nI i) = f_11 at hP hD hb_12
            have hP : va_P (gD G) vwCl [(cg, .inr (6, [.ref q_3, .int (nI 16)])), (q_3, .inl (gyI G, 2, .inl f_11))] H := hP
            have hD : va_D A [(cg, .inr (6, [.ref q_3, .int (nI 16)])), (q_3, .inl (gyI G, 2, .inl f_11))] := hD
            refine lv_iinc (v := nI (pl + 1)) (lv' := [(3, .int (nI (pl + 1))), (0, .ref cg), (1, .int (nI 49152)), (2, .int (nI 16)), (4, .int (nI i))]) hx hb dX1_init_57 hl (k := 3) rfl (nI_add pl 1) (by decide) rfl (fun ls hl => ?_)
            refine lv_iinc (v := nI (i + 1)) (lv' := [(4, .int (nI (i + 1))), (3, .int (nI (pl + 1))), (0, .ref cg), (1, .int (nI 49152)), (2, .int (nI 16))]) hx hb dX1_init_60 hl (k := 4) rfl (nI_add i 1) (by decide) rfl (fun ls hl => ?_)
            refine lv_goto (tgt := 24) hx hb dX1_init_63 (by decide) ?_
            exact ih_24_1 (i + 1) (pl + 1) f_11 (by omega) (by omega) hb_12 (by omega) _ _ (hP.sub [0, 1] rfl) (hD.sub [0, 1] (by decide) rfl) hS ls (lv_sub hl [2, 3, 4, 1, 0] rfl)
  exact cut_24_1 (16 - 0 + 1) 0 0 (fun _ => 0) (by omega) (by omega) hb_5 (Nat.lt_succ_self _) _ _ (hP.sub [0, 1] rfl) (hD.sub [0, 1] (by decide) rfl) hS ls (lv_sub hl [2, 3, 4, 1, 0] rfl)
set_option maxHeartbeats 4000000 in
set_option maxRecDepth 100000 in
theorem c_X6_puzzleAt (l : Launch) (G : GG) (ho : Nat) (al : Nat) (hs : Nat) (ts : Nat) (pb : Nat) (lr : Int32) (mdh : Int32) (edh : Nat) (fa : Nat → Option Nat) (pz : Nat) (gr : Nat) (mr : Nat) (cl : Nat) (so : Nat) (sh : Nat) (s1 : Nat) (s2 : Int32) (hfa : fa 0 = some pz) : Mr l G yX6_puzzleAt cX6_puzzleAt 2 (some (.object "Pegboardry$Puzzle")) ({ frames := 3, cells := 0, slots := 0, locals := 64 } : Room) [.ref ho, .int (nI 0)] [(ho, .inr (11, [.ref al, .ref hs, .ref ts, .ref pb, .null, .int lr])), (al, .inr (4, [.int mdh, .ref edh, .int (nI 1)])), (edh, .inl (gyO G, 10, .inr (.inr (.inr (.inr fa))))), (pz, .inr (8, [.ref gr, .ref mr, .ref cl, .ref so, .ref sh, .int (nI s1), .int s2]))] (fun (u : Unit) (r : Nat) => r = pz) (fun (u : Unit) (r : Nat) => [(ho, .inr (11, [.ref al, .ref hs, .ref ts, .ref pb, .null, .int lr])), (al, .inr (4, [.int mdh, .ref edh, .int (nI 1)])), (edh, .inl (gyO G, 10, .inr (.inr (.inr (.inr fa))))), (pz, .inr (8, [.ref gr, .ref mr, .ref cl, .ref so, .ref sh, .int (nI s1), .int s2]))]) := by
  intro sz
  refine Met.ofW (cc := cX6_puzzleAt) (maxL := 2) (ret := (some (.object "Pegboardry$Puzzle"))) (by decide) rfl ?_
  intro p e s m args below meth c s₁ B9 hml hv
  obtain ⟨rfl, hsz, hP, hK, hD0, hE⟩ := hv
  have hx := B9.exec
  have hb := B9.bytes
  have hr := B9.returns
  have hts : ∀ w ∈ WW, w.before ([.ref ho, .int (nI 0)] : List Value).toArray s = true := fun w h => atoms_spec (ws := .code yX6_puzzleAt cX6_puzzleAt 2 (some (.object "Pegboardry$Puzzle")) :: WW) B9.pre w (List.mem_cons_of_mem _ h)
  have hown : s.vm.findClass RX6 = some m.cls := findClass_of_methodNamed B9.named
  subst hsz
  have hD := hD0.self (sz := s.heap.size)
  generalize hAe : va_A [(ho, .inr (11, [.ref al, .ref hs, .ref ts, .ref pb, .null, .int lr])), (al, .inr (4, [.int mdh, .ref edh, .int (nI 1)])), (edh, .inl (gyO G, 10, .inr (.inr (.inr (.inr fa))))), (pz, .inr (8, [.ref gr, .ref mr, .ref cl, .ref so, .ref sh, .int (nI s1), .int s2]))] s.heap.size = A at hD hE ⊢
  have hA : ∀ q : Nat, s.heap.size ≤ q → A q := fun q h => by rw [← hAe]; exact Or.inr h
  have hl := lv_entry ([.ref ho, .int (nI 0)]) (n := 2) (Nat.le_of_ble_eq_true rfl)
  rw [lg_entry_eq]
  generalize (lg_sl ([.ref ho, .int (nI 0)]) ++ List.replicate (2 - (lg_sl ([.ref ho, .int (nI 0)])).length) Slot.unset).toArray = ls at hl ⊢
  have hl : lv_has ls 2 [(0, .ref ho), (1, .int (nI 0))] := hl
  refine qgen (fun Q hQ => ?_)
  refine hgen (fun H locs hP hD hS => ?_) hP hD
  refine lv_iload_n hx hb dX6_puzzleAt_0 rfl (lv_at hl 1 rfl) ?_
  refine lv_if_lt (tgt := 15) hx hb dX6_puzzleAt_1 (by decide) (fun c_1 => ?_) (fun c_1 => ?_)
  · skip
    have c_1 : 0 < 0 := (nI_ltI (a := 0) (b := 0) (by omega) (by omega)).mp c_1
    exact absurd c_1 (by decide)
  · skip
    have c_1 : ¬ 0 < 0 := fun z => c_1 ((nI_ltI (a := 0) (b := 0) (by omega) (by omega)).mpr z)
    refine lv_iload_n hx hb dX6_puzzleAt_4 rfl (lv_at hl 1 rfl) ?_
    refine lv_aload_n hx hb dX6_puzzleAt_5 rfl (lv_at hl 0 rfl) ?_
    refine va_get (D := gD G) (ci := 11) (v := .ref al) (C := RX6) (T := TX6) (N := 6) hx hb hts fwX6 hown hK hP 0 rfl rfl 0 (by decide) (hts _ q181) (fun _ h9 => h9) rfl dX6_puzzleAt_6 ?_
    refine fin_i hP hD hS hA [1] [0, 2, 3] (wr := [(ho, .inr (11, [.ref al, .ref hs, .ref ts, .ref pb, .null, .int lr])), (edh, .inl (gyO G, 10, .inr (.inr (.inr (.inr fa))))), (pz, .inr (8, [.ref gr, .ref mr, .ref cl, .ref so, .ref sh, .int (nI s1), .int s2]))]) rfl rfl (by decide) (by decide) (va_runV (As := []) (rest := [.int (nI 0)]) ⟨hx, hb, hml, hown, hts⟩ (c_Jx4a65c_size_8abf5 l G al mdh edh 1 H.size) (cwV 0 hts (gV q208 q209 q210 q48 q211) rfl rfl rfl (by decide +kernel) ⟨Nat.le_of_ble_eq_true rfl, Nat.le_of_ble_eq_true rfl⟩) (preV (q0 := 1) (ci := 4) hK hE hP hD hS hA [1] rfl (by decide) rfl rfl) rfl rfl hl.1 rfl (lv_room (Nat.le_of_ble_eq_true rfl)) dX6_puzzleAt_9 ⟨Nat.le_of_ble_eq_true rfl, Nat.le_of_ble_eq_true rfl⟩) (fun r_3 u9 hw_2 H locs hP hD hS => ?_)
    subst hw_2
    have hP : va_P (gD G) vwCl [(ho, .inr (11, [.ref al, .ref hs, .ref ts, .ref pb, .null, .int lr])), (edh, .inl (gyO G, 10, .inr (.inr (.inr (.inr fa))))), (pz, .inr (8, [.ref gr, .ref mr, .ref cl, .ref so, .ref sh, .int (nI s1), .int s2])), (al, .inr (4, [.int mdh, .ref edh, .int (nI 1)]))] H := hP
    have hD : va_D A [(ho, .inr (11, [.ref al, .ref hs, .ref ts, .ref pb, .null, .int lr])), (edh, .inl (gyO G, 10, .inr (.inr (.inr (.inr fa))))), (pz, .inr (8, [.ref gr, .ref mr, .ref cl, .ref so, .ref sh, .int (nI s1), .int s2])), (al, .inr (4, [.int mdh, .ref edh, .int (nI 1)]))] := hD
    refine lv_icmp_lt (tgt := 25) hx hb dX6_puzzleAt_12 (by decide) (fun c_4 => ?_) (fun c_4 => ?_)
    · skip
      have c_4 : 0 < 1 := (nI_ltI (a := 0) (b := 1) (by omega) (by omega)).mp c_4
      refine lv_aload_n hx hb dX6_puzzleAt_25 rfl (lv_at hl 0 rfl) ?_
      refine va_get (D := gD G) (ci := 11) (v := .ref al) (C := RX6) (T := TX6) (N := 6) hx hb hts fwX6 hown hK hP 0 rfl rfl 0 (by decide) (hts _ q181) (fun _ h9 => h9) rfl dX6_puzzleAt_26 ?_
      refine lv_iload_n hx hb dX6_puzzleAt_29 rfl (lv_at hl 1 rfl) ?_
      refine fin_r hP hD hS hA [3, 1] [0, 2] (wr := [(ho, .inr (11, [.ref al, .ref hs, .ref ts, .ref pb, .null, .int lr])), (pz, .inr (8, [.ref gr, .ref mr, .ref cl, .ref so, .ref sh, .int (nI s1), .int s2]))]) rfl rfl (by decide) (by decide) (va_runV (As := [.int (nI 0)]) (rest := []) ⟨hx, hb, hml, hown, hts⟩ (c_Jx4a65c_get_915e3 l G al mdh edh 1 10 fa 0 pz (by omega) (by omega) (by omega) hfa H.size) (cwV 1 hts (gV q212 q213 q214 q48 q215) rfl rfl rfl (by decide +kernel) ⟨Nat.le_of_ble_eq_true rfl, Nat.le_of_ble_eq_true rfl⟩) (preV (q0 := 3) (ci := 4) hK hE hP hD hS hA [3, 1] rfl (by decide) rfl rfl) rfl rfl hl.1 rfl (lv_room (Nat.le_of_ble_eq_true rfl)) dX6_puzzleAt_30 ⟨Nat.le_of_ble_eq_true rfl, Nat.le_of_ble_eq_true rfl⟩) (fun u9 r_6 hw_5 H locs hP hD hS => ?_)
      have hr_7 := hw_5
      have hr_7 : r_6 = pz := hr_7
      have hP : va_P (gD G) vwCl [(ho, .inr (11, [.ref al, .ref hs, .ref ts, .ref pb, .null, .int lr])), (pz, .inr (8, [.ref gr, .ref mr, .ref cl, .ref so, .ref sh, .int (nI s1), .int s2])), (al, .inr (4, [.int mdh, .ref edh, .int (nI 1)])), (edh, .inl (gyO G, 10, .inr (.inr (.inr (.inr fa)))))] H := hP
      have hD : va_D A [(ho, .inr (11, [.ref al, .ref hs, .ref ts, .ref pb, .null, .int lr])), (pz, .inr (8, [.ref gr, .ref mr, .ref cl, .ref so, .ref sh, .int (nI s1), .int s2])), (al, .inr (4, [.int mdh, .ref edh, .int (nI 1)])), (edh, .inl (gyO G, 10, .inr (.inr (.inr (.inr fa)))))] := hD
      refine lv_ter hr_7 ?_
      refine va_castE (nm := "Pegboardry$Puzzle") hx hb hown (hts _ q226) (va_recv hK hP (show vwCl[8]? = some (RX3, TX3, 7) from rfl) (show ([(ho, .inr (11, [.ref al, .ref hs, .ref ts, .ref pb, .null, .int lr])), (pz, .inr (8, [.ref gr, .ref mr, .ref cl, .ref so, .ref sh, .int (nI s1), .int s2])), (al, .inr (4, [.int mdh, .ref edh, .int (nI 1)])), (edh, .inl (gyO G, 10, .inr (.inr (.inr (.inr fa)))))] : va_W)[1]? = some (pz, .inr (8, [.ref gr, .ref mr, .ref cl, .ref so, .ref sh, .int (nI s1), .int s2])) from rfl)) dX6_puzzleAt_33 ?_
      have hP9 := hP.sub (ws' := [(ho, .inr (11, [.ref al, .ref hs, .ref ts, .ref pb, .null, .int lr])), (al, .inr (4, [.int mdh, .ref edh, .int (nI 1)])), (edh, .inl (gyO G, 10, .inr (.inr (.inr (.inr fa))))), (pz, .inr (8, [.ref gr, .ref mr, .ref cl, .ref so, .ref sh, .int (nI s1), .int s2]))]) [0, 2, 3, 1] rfl
      have hD9 := hD.sub (ws' := [(ho, .inr (11, [.ref al, .ref hs, .ref ts, .ref pb, .null, .int lr])), (al, .inr (4, [.int mdh, .ref edh, .int (nI 1)])), (edh, .inl (gyO G, 10, .inr (.inr (.inr (.inr fa))))), (pz, .inr (8, [.ref gr, .ref mr, .ref cl, .ref so, .ref sh, .int (nI s1), .int s2]))]) [0, 2, 3, 1] (by decide) rfl
      subst hQ
      exact W.aret (v := .ref pz) hx hb hr (Or.inl ⟨_, rfl⟩) (Or.inr ⟨_, rfl⟩) (fun t ht hW => ⟨⟨(), pz, rfl, trivial, (show pz = pz by omega), by rw [ht]; exact hP9, hD9⟩, hS.F ht⟩) hS.2.2 dX6_puzzleAt_36
    · skip
      have c_4 : ¬ 0 < 1 := fun z => c_4 ((nI_ltI (a := 0) (b := 1) (by omega) (by omega)).mpr z)
      exact absurd c_4 (by decide)
set_option maxHeartbeats 4000000 in
set_option maxRecDepth 100000 in
theorem c_putCage_0 (l : Launch) (G : GG) (pz : Nat) (gr : Nat) (mr : Nat) (cl : Nat) (so : Nat) (sh : Nat) (s1 : Nat) (s2 : Int32) (mdc : Int32) (cg : Nat) (rw : Nat) : Mv l G yX3_putCage cX3_putCage 2 ({ frames := 5, cells := 1, slots := 10, locals := 127 } : Room) [.ref pz, .ref cg] [(pz, .inr (8, [.ref gr, .ref mr, .ref cl, .ref so, .ref sh, .int (nI s1), .int s2])), (cl, .inr (4, [.int mdc, .ref (gE G), .int (nI 0)])), (cg, .inr (6, [.ref rw, .int (nI 16)]))] (fun (u : Int32 × Nat) => True) (fun (u : Int32 × Nat) => [(pz, .inr (8, [.ref gr, .ref mr, .ref cl, .ref so, .ref sh, .int (nI 0), .int (nI 0)])), (cl, .inr (4, [.int u.1, .ref u.2, .int (nI 1)])), (u.2, .inl (gyO G, 10, .inr (.inr (.inr (.inr (va_up (fun _ => none) 0 (some cg))))))), (cg, .inr (6, [.ref rw, .int (nI 16)]))]) := by
  intro sz
  refine Met.ofW (cc := cX3_putCage) (maxL := 2) (ret := none) (by decide) rfl ?_
  intro p e s m args below meth c s₁ B9 hml hv
  obtain ⟨rfl, hsz, hP, hK, hD0, hE⟩ := hv
  have hx := B9.exec
  have hb := B9.bytes
  have hr := B9.returns
  have hts : ∀ w ∈ WW, w.before ([.ref pz, .ref cg] : List Value).toArray s = true := fun w h => atoms_spec (ws := .code yX3_putCage cX3_putCage 2 none :: WW) B9.pre w (List.mem_cons_of_mem _ h)
  have hown : s.vm.findClass RX3 = some m.cls := findClass_of_methodNamed B9.named
  subst hsz
  have hD := hD0.self (sz := s.heap.size)
  generalize hAe : va_A [(pz, .inr (8, [.ref gr, .ref mr, .ref cl, .ref so, .ref sh, .int (nI s1), .int s2])), (cl, .inr (4, [.int mdc, .ref (gE G), .int (nI 0)])), (cg, .inr (6, [.ref rw, .int (nI 16)]))] s.heap.size = A at hD hE ⊢
  have hA : ∀ q : Nat, s.heap.size ≤ q → A q := fun q h => by rw [← hAe]; exact Or.inr h
  have hl := lv_entry ([.ref pz, .ref cg]) (n := 2) (Nat.le_of_ble_eq_true rfl)
  rw [lg_entry_eq]
  generalize (lg_sl ([.ref pz, .ref cg]) ++ List.replicate (2 - (lg_sl ([.ref pz, .ref cg])).length) Slot.unset).toArray = ls at hl ⊢
  have hl : lv_has ls 2 [(0, .ref pz), (1, .ref cg)] := hl
  refine qgen (fun Q hQ => ?_)
  refine hgen (fun H locs hP hD hS => ?_) hP hD
  refine lv_aload_n hx hb dX3_putCage_0 rfl (lv_at hl 0 rfl) ?_
  refine va_get (D := gD G) (ci := 8) (v := .ref cl) (C := RX3) (T := TX3) (N := 7) hx hb hts fwX3 hown hK hP 0 rfl rfl 2 (by decide) (hts _ q445) (fun _ h9 => h9) rfl dX3_putCage_1 ?_
  refine lv_aload_n hx hb dX3_putCage_4 rfl (lv_at hl 1 rfl) ?_
  refine fin_i hP hD hS hA [1] [0, 2] (wr := [(pz, .inr (8, [.ref gr, .ref mr, .ref cl, .ref so, .ref sh, .int (nI s1), .int s2])), (cg, .inr (6, [.ref rw, .int (nI 16)]))]) rfl rfl (by decide) (by decide) (va_runV (As := [.ref cg]) (rest := []) ⟨hx, hb, hml, hown, hts⟩ (c_add_first l (gSet G (fun y => y = cg)) cl mdc cg (by omega) H.size) (cwV 1 hts (gV q656 q469 q470 q48 q471) rfl rfl rfl (by decide +kernel) ⟨Nat.le_of_ble_eq_true rfl, Nat.le_of_ble_eq_true rfl⟩) (preVG (ob_cell (q0 := 2) (ci := 6) hK hP hD rfl rfl (vb_asgC (hE.1.1 _ nq1392)) [1] rfl (by decide)) (q0 := 1) (ci := 4) hK hE hP hD hS hA [1] rfl (by decide) rfl rfl) rfl rfl hl.1 rfl (lv_room (Nat.le_of_ble_eq_true rfl)) dX3_putCage_5 ⟨Nat.le_of_ble_eq_true rfl, Nat.le_of_ble_eq_true rfl⟩) (fun r_4 u9 hw_3 H locs hP hD hS => ?_)
  obtain ⟨md2_1, ed2_2⟩ := u9
  have hP : va_P (gD G) vwCl [(pz, .inr (8, [.ref gr, .ref mr, .ref cl, .ref so, .ref sh, .int (nI s1), .int s2])), (cg, .inr (6, [.ref rw, .int (nI 16)])), (cl, .inr (4, [.int md2_1, .ref ed2_2, .int (nI 1)])), (ed2_2, .inl (gyO G, 10, .inr (.inr (.inr (.inr (va_up (fun _ => none) 0 (some cg)))))))] H := hP
  have hD : va_D A [(pz, .inr (8, [.ref gr, .ref mr, .ref cl, .ref so, .ref sh, .int (nI s1), .int s2])), (cg, .inr (6, [.ref rw, .int (nI 16)])), (cl, .inr (4, [.int md2_1, .ref ed2_2, .int (nI 1)])), (ed2_2, .inl (gyO G, 10, .inr (.inr (.inr (.inr (va_up (fun _ => none) 0 (some cg)))))))] := hD
  refine lv_pop hx hb dX3_putCage_8 rfl ?_
  refine lv_aload_n hx hb dX3_putCage_9 rfl (lv_at hl 0 rfl) ?_
  refine lv_iconst (v := nI 0) hx hb dX3_putCage_10 (by decide) ?_
  refine va_put (D := gD G) (ci := 8) (v := .int (nI 0)) (ty := .boolean) (C := RX3) (T := TX3) (N := 7) hx hb hts fwX3 tyX3 tyX3_ok nmX3 hown hK hP hD hS 0 rfl rfl 5 (by decide) (hts _ q451) (fun _ h9 => h9) rfl (by decide +kernel) (by decide) (by decide) (Nat.le_of_ble_eq_true rfl) dX3_putCage_11 (fun H locs hP hD hS => ?_)
  have hP : va_P (gD G) vwCl [(pz, .inr (8, [.ref gr, .ref mr, .ref cl, .ref so, .ref sh, .int (nI 0), .int s2])), (cg, .inr (6, [.ref rw, .int (nI 16)])), (cl, .inr (4, [.int md2_1, .ref ed2_2, .int (nI 1)])), (ed2_2, .inl (gyO G, 10, .inr (.inr (.inr (.inr (va_up (fun _ => none) 0 (some cg)))))))] H := hP
  have hD : va_D A [(pz, .inr (8, [.ref gr, .ref mr, .ref cl, .ref so, .ref sh, .int (nI 0), .int s2])), (cg, .inr (6, [.ref rw, .int (nI 16)])), (cl, .inr (4, [.int md2_1, .ref ed2_2, .int (nI 1)])), (ed2_2, .inl (gyO G, 10, .inr (.inr (.inr (.inr (va_up (fun _ => none) 0 (some cg)))))))] := hD
  refine lv_aload_n hx hb dX3_putCage_14 rfl (lv_at hl 0 rfl) ?_
  refine lv_iconst (v := nI 0) hx hb dX3_putCage_15 (by decide) ?_
  refine va_put (D := gD G) (ci := 8) (v := .int (nI 0)) (ty := .boolean) (C := RX3) (T := TX3) (N := 7) hx hb hts fwX3 tyX3 tyX3_ok nmX3 hown hK hP hD hS 0 rfl rfl 6 (by decide) (hts _ q452) (fun _ h9 => h9) rfl (by decide +kernel) (by decide) (by decide) (Nat.le_of_ble_eq_true rfl) dX3_putCage_16 (fun H locs hP hD hS => ?_)
  have hP : va_P (gD G) vwCl [(pz, .inr (8, [.ref gr, .ref mr, .ref cl, .ref so, .ref sh, .int (nI 0), .int (nI 0)])), (cg, .inr (6, [.ref rw, .int (nI 16)])), (cl, .inr (4, [.int md2_1, .ref ed2_2, .int (nI 1)])), (ed2_2, .inl (gyO G, 10, .inr (.inr (.inr (.inr (va_up (fun _ => none) 0 (some cg)))))))] H := hP
  have hD : va_D A [(pz, .inr (8, [.ref gr, .ref mr, .ref cl, .ref so, .ref sh, .int (nI 0), .int (nI 0)])), (cg, .inr (6, [.ref rw, .int (nI 16)])), (cl, .inr (4, [.int md2_1, .ref ed2_2, .int (nI 1)])), (ed2_2, .inl (gyO G, 10, .inr (.inr (.inr (.inr (va_up (fun _ => none) 0 (some cg)))))))] := hD
  have hP9 := hP.sub (ws' := [(pz, .inr (8, [.ref gr, .ref mr, .ref cl, .ref so, .ref sh, .int (nI 0), .int (nI 0)])), (cl, .inr (4, [.int md2_1, .ref ed2_2, .int (nI 1)])), (ed2_2, .inl (gyO G, 10, .inr (.inr (.inr (.inr (va_up (fun _ => none) 0 (some cg))))))), (cg, .inr (6, [.ref rw, .int (nI 16)]))]) [0, 2, 3, 1] rfl
  have hD9 := hD.sub (ws' := [(pz, .inr (8, [.ref gr, .ref mr, .ref cl, .ref so, .ref sh, .int (nI 0), .int (nI 0)])), (cl, .inr (4, [.int md2_1, .ref ed2_2, .int (nI 1)])), (ed2_2, .inl (gyO G, 10, .inr (.inr (.inr (.inr (va_up (fun _ => none) 0 (some cg))))))), (cg, .inr (6, [.ref rw, .int (nI 16)]))]) [0, 2, 3, 1] (by decide) rfl
  subst hQ
  exact W.vret hx hb hr (fun t ht hW => ⟨⟨(md2_1, ed2_2), rfl, trivial, by rw [ht]; exact hP9, hD9⟩, hS.F ht⟩) hS.2.2 dX3_putCage_19
set_option maxHeartbeats 4000000 in
set_option maxRecDepth 100000 in
theorem c_addCage_0 (l : Launch) (G : GG) (ho : Nat) (al : Nat) (hs : Nat) (ts : Nat) (pb : Nat) (lr : Int32) (mdh : Int32) (edh : Nat) (fa : Nat → Option Nat) (pz : Nat) (gr : Nat) (mr : Nat) (cl : Nat) (so : Nat) (sh : Nat) (s1 : Nat) (s2 : Int32) (mdc : Int32) (hfa : fa 0 = some pz) : Mi l G yX6_addCage cX6_addCage 5 (some .int) ({ frames := 6, cells := 3, slots := 14, locals := 148 } : Room) [.ref ho, .int (nI 0), .int (nI 49152), .int (nI 16)] [(ho, .inr (11, [.ref al, .ref hs, .ref ts, .ref pb, .null, .int lr])), (al, .inr (4, [.int mdh, .ref edh, .int (nI 1)])), (edh, .inl (gyO G, 10, .inr (.inr (.inr (.inr fa))))), (pz, .inr (8, [.ref gr, .ref mr, .ref cl, .ref so, .ref sh, .int (nI s1), .int s2])), (cl, .inr (4, [.int mdc, .ref (gE G), .int (nI 0)]))] (fun (r : Int32) (u : Int32 × Nat × Nat × Nat × (Nat → Int32)) => r = nI (1) ∧ inB 2 16 u.2.2.2.2) (fun (u : Int32 × Nat × Nat × Nat × (Nat → Int32)) => [(ho, .inr (11, [.ref al, .ref hs, .ref ts, .ref pb, .null, .int lr])), (al, .inr (4, [.int mdh, .ref edh, .int (nI 1)])), (edh, .inl (gyO G, 10, .inr (.inr (.inr (.inr fa))))), (pz, .inr (8, [.ref gr, .ref mr, .ref cl, .ref so, .ref sh, .int (nI 0), .int (nI 0)])), (cl, .inr (4, [.int u.1, .ref u.2.1, .int (nI 1)])), (u.2.1, .inl (gyO G, 10, .inr (.inr (.inr (.inr (va_up (fun _ => none) 0 (some u.2.2.1))))))), (u.2.2.1, .inr (6, [.ref u.2.2.2.1, .int (nI 16)])), (u.2.2.2.1, .inl (gyI G, 2, .inl u.2.2.2.2))]) := by
  intro sz
  refine Met.ofW (cc := cX6_addCage) (maxL := 5) (ret := (some .int)) (by decide) rfl ?_
  intro p e s m args below meth c s₁ B9 hml hv
  obtain ⟨rfl, hsz, hP, hK, hD0, hE⟩ := hv
  have hx := B9.exec
  have hb := B9.bytes
  have hr := B9.returns
  have hts : ∀ w ∈ WW, w.before ([.ref ho, .int (nI 0), .int (nI 49152), .int (nI 16)] : List Value).toArray s = true := fun w h => atoms_spec (ws := .code yX6_addCage cX6_addCage 5 (some .int) :: WW) B9.pre w (List.mem_cons_of_mem _ h)
  have hown : s.vm.findClass RX6 = some m.cls := findClass_of_methodNamed B9.named
  subst hsz
  have hD := hD0.self (sz := s.heap.size)
  generalize hAe : va_A [(ho, .inr (11, [.ref al, .ref hs, .ref ts, .ref pb, .null, .int lr])), (al, .inr (4, [.int mdh, .ref edh, .int (nI 1)])), (edh, .inl (gyO G, 10, .inr (.inr (.inr (.inr fa))))), (pz, .inr (8, [.ref gr, .ref mr, .ref cl, .ref so, .ref sh, .int (nI s1), .int s2])), (cl, .inr (4, [.int mdc, .ref (gE G), .int (nI 0)]))] s.heap.size = A at hD hE ⊢
  have hA : ∀ q : Nat, s.heap.size ≤ q → A q := fun q h => by rw [← hAe]; exact Or.inr h
  have hl := lv_entry ([.ref ho, .int (nI 0), .int (nI 49152), .int (nI 16)]) (n := 5) (Nat.le_of_ble_eq_true rfl)
  rw [lg_entry_eq]
  generalize (lg_sl ([.ref ho, .int (nI 0), .int (nI 49152), .int (nI 16)]) ++ List.replicate (5 - (lg_sl ([.ref ho, .int (nI 0), .int (nI 49152), .int (nI 16)])).length) Slot.unset).toArray = ls at hl ⊢
  have hl : lv_has ls 5 [(0, .ref ho), (1, .int (nI 0)), (2, .int (nI 49152)), (3, .int (nI 16))] := hl
  refine qgen (fun Q hQ => ?_)
  refine hgen (fun H locs hP hD hS => ?_) hP hD
  refine lv_aload_n hx hb dX6_addCage_0 rfl (lv_at hl 0 rfl) ?_
  refine lv_iload_n hx hb dX6_addCage_1 rfl (lv_at hl 1 rfl) ?_
  refine fin_r hP hD hS hA [0, 1, 2, 3] [4] (wr := [(cl, .inr (4, [.int mdc, .ref (gE G), .int (nI 0)]))]) rfl rfl (by decide) (by decide) (va_runV (As := [.int (nI 0)]) (rest := []) ⟨hx, hb, hml, hown, hts⟩ (c_X6_puzzleAt l G ho al hs ts pb lr mdh edh fa pz gr mr cl so sh s1 s2 hfa H.size) (cwV 1 hts (gV q566 q568 q23 q45 q569) rfl rfl rfl (by decide +kernel) ⟨Nat.le_of_ble_eq_true rfl, Nat.le_of_ble_eq_true rfl⟩) (preV (q0 := 0) (ci := 11) hK hE hP hD hS hA [0, 1, 2, 3] rfl (by decide) rfl rfl) rfl rfl hl.1 rfl (lv_room (Nat.le_of_ble_eq_true rfl)) dX6_addCage_2 ⟨Nat.le_of_ble_eq_true rfl, Nat.le_of_ble_eq_true rfl⟩) (fun u9 r_2 hw_1 H locs hP hD hS => ?_)
  have hr_3 := hw_1
  have hr_3 : r_2 = pz := hr_3
  have hP : va_P (gD G) vwCl [(cl, .inr (4, [.int mdc, .ref (gE G), .int (nI 0)])), (ho, .inr (11, [.ref al, .ref hs, .ref ts, .ref pb, .null, .int lr])), (al, .inr (4, [.int mdh, .ref edh, .int (nI 1)])), (edh, .inl (gyO G, 10, .inr (.inr (.inr (.inr fa))))), (pz, .inr (8, [.ref gr, .ref mr, .ref cl, .ref so, .ref sh, .int (nI s1), .int s2]))] H := hP
  have hD : va_D A [(cl, .inr (4, [.int mdc, .ref (gE G), .int (nI 0)])), (ho, .inr (11, [.ref al, .ref hs, .ref ts, .ref pb, .null, .int lr])), (al, .inr (4, [.int mdh, .ref edh, .int (nI 1)])), (edh, .inl (gyO G, 10, .inr (.inr (.inr (.inr fa))))), (pz, .inr (8, [.ref gr, .ref mr, .ref cl, .ref so, .ref sh, .int (nI s1), .int s2]))] := hD
  refine lv_ter hr_3 ?_
  refine lv_astore (lv' := [(4, .ref pz), (0, .ref ho), (1, .int (nI 0)), (2, .int (nI 49152)), (3, .int (nI 16))]) hx hb dX6_addCage_5 hl (by decide) rfl (fun ls hl => ?_)
  refine lv_iload_n hx hb dX6_addCage_7 rfl (lv_at hl 4 rfl) ?_
  refine lv_iconst (v := nI 2) hx hb dX6_addCage_8 (by decide) ?_
  refine lv_icmp_lt (tgt := 18) hx hb dX6_addCage_9 (by decide) (fun c_4 => ?_) (fun c_4 => ?_)
  · skip
    have c_4 : 16 < 2 := (nI_ltI (a := 16) (b := 2) (by omega) (by omega)).mp c_4
    exact absurd c_4 (by decide)
  · skip
    have c_4 : ¬ 16 < 2 := fun z => c_4 ((nI_ltI (a := 16) (b := 2) (by omega) (by omega)).mpr z)
    refine lv_iload_n hx hb dX6_addCage_12 rfl (lv_at hl 4 rfl) ?_
    refine lv_bipush (v := nI 16) hx hb dX6_addCage_13 (by decide) ?_
    refine lv_icmp_le (tgt := 28) hx hb dX6_addCage_15 (by decide) (fun c_5 => ?_) (fun c_5 => ?_)
    · skip
      have c_5 : 16 ≤ 16 := (nI_leI (a := 16) (b := 16) (by omega) (by omega)).mp c_5
      refine lv_iload_n hx hb dX6_addCage_28 rfl (lv_at hl 3 rfl) ?_
      refine lv_if_lt (tgt := 54) hx hb dX6_addCage_29 (by decide) (fun c_6 => ?_) (fun c_6 => ?_)
      · skip
        have c_6 : 49152 < 0 := (nI_ltI (a := 49152) (b := 0) (by omega) (by omega)).mp c_6
        exact absurd c_6 (by decide)
      · skip
        have c_6 : ¬ 49152 < 0 := fun z => c_6 ((nI_ltI (a := 49152) (b := 0) (by omega) (by omega)).mpr z)
        refine lv_iload_n hx hb dX6_addCage_32 rfl (lv_at hl 3 rfl) ?_
        refine lv_ldc (v := nI 65536) hx hb hown (hts _ q619) dX6_addCage_33 ?_
        refine lv_icmp_ge (tgt := 54) hx hb dX6_addCage_35 (by decide) (fun c_7 => ?_) (fun c_7 => ?_)
        · skip
          have c_7 : 65536 ≤ 49152 := (nI_leI (a := 65536) (b := 49152) (by omega) (by omega)).mp c_7
          exact absurd c_7 (by decide)
        · skip
          have c_7 : ¬ 65536 ≤ 49152 := fun z => c_7 ((nI_leI (a := 65536) (b := 49152) (by omega) (by omega)).mpr z)
          refine lv_iload_n hx hb dX6_addCage_38 rfl (lv_at hl 3 rfl) ?_
          refine fin_i hP hD hS hA [] [0, 1, 2, 3, 4] (wr := [(cl, .inr (4, [.int mdc, .ref (gE G), .int (nI 0)])), (ho, .inr (11, [.ref al, .ref hs, .ref ts, .ref pb, .null, .int lr])), (al, .inr (4, [.int mdh, .ref edh, .int (nI 1)])), (edh, .inl (gyO G, 10, .inr (.inr (.inr (.inr fa))))), (pz, .inr (8, [.ref gr, .ref mr, .ref cl, .ref so, .ref sh, .int (nI s1), .int s2]))]) rfl rfl (by decide) (by decide) (va_runS (As := [.int (nI 49152)]) (rest := []) ⟨hx, hb, hml, hown, hts⟩ (c_bits_49152 l G H.size) (va_cwS 1 hts (gSt q620 q277 q70 q278) rfl rfl rfl (by decide +kernel) ⟨Nat.le_of_ble_eq_true rfl, Nat.le_of_ble_eq_true rfl⟩) (preS hK hE hP hD hS hA [] rfl (by decide)) rfl rfl hl.1 rfl (lv_room (Nat.le_of_ble_eq_true rfl)) dX6_addCage_39 ⟨Nat.le_of_ble_eq_true rfl, Nat.le_of_ble_eq_true rfl⟩) (fun r_9 u9 hw_8 H locs hP hD hS => ?_)
          subst hw_8
          have hP : va_P (gD G) vwCl [(cl, .inr (4, [.int mdc, .ref (gE G), .int (nI 0)])), (ho, .inr (11, [.ref al, .ref hs, .ref ts, .ref pb, .null, .int lr])), (al, .inr (4, [.int mdh, .ref edh, .int (nI 1)])), (edh, .inl (gyO G, 10, .inr (.inr (.inr (.inr fa))))), (pz, .inr (8, [.ref gr, .ref mr, .ref cl, .ref so, .ref sh, .int (nI s1), .int s2]))] H := hP
          have hD : va_D A [(cl, .inr (4, [.int mdc, .ref (gE G), .int (nI 0)])), (ho, .inr (11, [.ref al, .ref hs, .ref ts, .ref pb, .null, .int lr])), (al, .inr (4, [.int mdh, .ref edh, .int (nI 1)])), (edh, .inl (gyO G, 10, .inr (.inr (.inr (.inr fa))))), (pz, .inr (8, [.ref gr, .ref mr, .ref cl, .ref so, .ref sh, .int (nI s1), .int s2]))] := hD
          refine lv_iconst (v := nI 2) hx hb dX6_addCage_42 (by decide) ?_
          refine lv_icmp_lt (tgt := 54) hx hb dX6_addCage_43 (by decide) (fun c_10 => ?_) (fun c_10 => ?_)
          · skip
            have c_10 : 2 < 2 := (nI_ltI (a := 2) (b := 2) (by omega) (by omega)).mp c_10
            exact absurd c_10 (by decide)
          · skip
            have c_10 : ¬ 2 < 2 := fun z => c_10 ((nI_ltI (a := 2) (b := 2) (by omega) (by omega)).mpr z)
            refine lv_iload_n hx hb dX6_addCage_46 rfl (lv_at hl 3 rfl) ?_
            refine fin_i hP hD hS hA [] [0, 1, 2, 3, 4] (wr := [(cl, .inr (4, [.int mdc, .ref (gE G), .int (nI 0)])), (ho, .inr (11, [.ref al, .ref hs, .ref ts, .ref pb, .null, .int lr])), (al, .inr (4, [.int mdh, .ref edh, .int (nI 1)])), (edh, .inl (gyO G, 10, .inr (.inr (.inr (.inr fa))))), (pz, .inr (8, [.ref gr, .ref mr, .ref cl, .ref so, .ref sh, .int (nI s1), .int s2]))]) rfl rfl (by decide) (by decide) (va_runS (As := [.int (nI 49152)]) (rest := []) ⟨hx, hb, hml, hown, hts⟩ (c_bits_49152 l G H.size) (va_cwS 1 hts (gSt q620 q277 q70 q278) rfl rfl rfl (by decide +kernel) ⟨Nat.le_of_ble_eq_true rfl, Nat.le_of_ble_eq_true rfl⟩) (preS hK hE hP hD hS hA [] rfl (by decide)) rfl rfl hl.1 rfl (lv_room (Nat.le_of_ble_eq_true rfl)) dX6_addCage_47 ⟨Nat.le_of_ble_eq_true rfl, Nat.le_of_ble_eq_true rfl⟩) (fun r_12 u9 hw_11 H locs hP hD hS => ?_)
            subst hw_11
            have hP : va_P (gD G) vwCl [(cl, .inr (4, [.int mdc, .ref (gE G), .int (nI 0)])), (ho, .inr (11, [.ref al, .ref hs, .ref ts, .ref pb, .null, .int lr])), (al, .inr (4, [.int mdh, .ref edh, .int (nI 1)])), (edh, .inl (gyO G, 10, .inr (.inr (.inr (.inr fa))))), (pz, .inr (8, [.ref gr, .ref mr, .ref cl, .ref so, .ref sh, .int (nI s1), .int s2]))] H := hP
            have hD : va_D A [(cl, .inr (4, [.int mdc, .ref (gE G), .int (nI 0)])), (ho, .inr (11, [.ref al, .ref hs, .ref ts, .ref pb, .null, .int lr])), (al, .inr (4, [.int mdh, .ref edh, .int (nI 1)])), (edh, .inl (gyO G, 10, .inr (.inr (.inr (.inr fa))))), (pz, .inr (8, [.ref gr, .ref mr, .ref cl, .ref so, .ref sh, .int (nI s1), .int s2]))] := hD
            refine lv_iconst (v := nI 4) hx hb dX6_addCage_50 (by decide) ?_
            refine lv_icmp_le (tgt := 64) hx hb dX6_addCage_51 (by decide) (fun c_13 => ?_) (fun c_13 => ?_)
            · skip
              have c_13 : 2 ≤ 4 := (nI_leI (a := 2) (b := 4) (by omega) (by omega)).mp c_13
              refine lv_aload hx hb dX6_addCage_64 (lv_at hl 0 rfl) ?_
              refine va_getN (D := gD G) (ci := 8) (v := .ref cl) (C := RX3) (T := TX3) (N := 7) hx hb hts fwX3 hown hK hP 4 rfl rfl 2 (by decide) (va_Nw.use rfl (hE.1.1 _ nq447)) (fun _ h9 => h9) rfl dX6_addCage_66 ?_
              refine fin_i hP hD hS hA [0] [1, 2, 3, 4] (wr := [(ho, .inr (11, [.ref al, .ref hs, .ref ts, .ref pb, .null, .int lr])), (al, .inr (4, [.int mdh, .ref edh, .int (nI 1)])), (edh, .inl (gyO G, 10, .inr (.inr (.inr (.inr fa))))), (pz, .inr (8, [.ref gr, .ref mr, .ref cl, .ref so, .ref sh, .int (nI s1), .int s2]))]) rfl rfl (by decide) (by decide) (va_runV (As := []) (rest := []) ⟨hx, hb, hml, hown, hts⟩ (c_Jx4a65c_size_8abf5 l G cl mdc (gE G) 0 H.size) (cwV 0 hts (gV q208 q209 q210 q48 q211) rfl rfl rfl (by decide +kernel) ⟨Nat.le_of_ble_eq_true rfl, Nat.le_of_ble_eq_true rfl⟩) (preV (q0 := 0) (ci := 4) hK hE hP hD hS hA [0] rfl (by decide) rfl rfl) rfl rfl hl.1 rfl (lv_room (Nat.le_of_ble_eq_true rfl)) dX6_addCage_69 ⟨Nat.le_of_ble_eq_true rfl, Nat.le_of_ble_eq_true rfl⟩) (fun r_15 u9 hw_14 H locs hP hD hS => ?_)
              subst hw_14
              have hP : va_P (gD G) vwCl [(ho, .inr (11, [.ref al, .ref hs, .ref ts, .ref pb, .null, .int lr])), (al, .inr (4, [.int mdh, .ref edh, .int (nI 1)])), (edh, .inl (gyO G, 10, .inr (.inr (.inr (.inr fa))))), (pz, .inr (8, [.ref gr, .ref mr, .ref cl, .ref so, .ref sh, .int (nI s1), .int s2])), (cl, .inr (4, [.int mdc, .ref (gE G), .int (nI 0)]))] H := hP
              have hD : va_D A [(ho, .inr (11, [.ref al, .ref hs, .ref ts, .ref pb, .null, .int lr])), (al, .inr (4, [.int mdh, .ref edh, .int (nI 1)])), (edh, .inl (gyO G, 10, .inr (.inr (.inr (.inr fa))))), (pz, .inr (8, [.ref gr, .ref mr, .ref cl, .ref so, .ref sh, .int (nI s1), .int s2])), (cl, .inr (4, [.int mdc, .ref (gE G), .int (nI 0)]))] := hD
              refine lv_bipush (v := nI 6) hx hb dX6_addCage_72 (by decide) ?_
              refine lv_icmp_lt (tgt := 87) hx hb dX6_addCage_74 (by decide) (fun c_16 => ?_) (fun c_16 => ?_)
              · skip
                have c_16 : 0 < 6 := (nI_ltI (a := 0) (b := 6) (by omega) (by omega)).mp c_16
                refine lv_aload hx hb dX6_addCage_87 (lv_at hl 0 rfl) ?_
                refine va_new (D := gD G) (ci := 6) (fs := [.null, .int 0]) (C := RX1) (T := TX1) (N := 2) hx hb hts fwX1 tyX1 tyX1_ok hown (hts _ q638) (hts _ q292) (hts _ q72) hK hP hD hS hA rfl (fun j hj => by rcases (show j = 0 ∨ j = 1 by omega) with rfl | rfl <;> rfl) (Nat.le_of_ble_eq_true rfl) (Nat.le_of_ble_eq_true rfl) dX6_addCage_89 (fun q_17 H hP hD hS => ?_)
                have hP : va_P (gD G) vwCl [(ho, .inr (11, [.ref al, .ref hs, .ref ts, .ref pb, .null, .int lr])), (al, .inr (4, [.int mdh, .ref edh, .int (nI 1)])), (edh, .inl (gyO G, 10, .inr (.inr (.inr (.inr fa))))), (pz, .inr (8, [.ref gr, .ref mr, .ref cl, .ref so, .ref sh, .int (nI s1), .int s2])), (cl, .inr (4, [.int mdc, .ref (gE G), .int (nI 0)])), (q_17, .inr (6, [.null, .int (nI 0)]))] H := hP
                have hD : va_D A [(ho, .inr (11, [.ref al, .ref hs, .ref ts, .ref pb, .null, .int lr])), (al, .inr (4, [.int mdh, .ref edh, .int (nI 1)])), (edh, .inl (gyO G, 10, .inr (.inr (.inr (.inr fa))))), (pz, .inr (8, [.ref gr, .ref mr, .ref cl, .ref so, .ref sh, .int (nI s1), .int s2])), (cl, .inr (4, [.int mdc, .ref (gE G), .int (nI 0)])), (q_17, .inr (6, [.null, .int (nI 0)]))] := hD
                refine lv_dup hx hb dX6_addCage_92 rfl ?_
                refine lv_iload_n hx hb dX6_addCage_93 rfl (lv_at hl 3 rfl) ?_
                refine lv_iload_n hx hb dX6_addCage_94 rfl (lv_at hl 4 rfl) ?_
                refine fin_v hP hD hS hA [5] [0, 1, 2, 3, 4] (wr := [(ho, .inr (11, [.ref al, .ref hs, .ref ts, .ref pb, .null, .int lr])), (al, .inr (4, [.int mdh, .ref edh, .int (nI 1)])), (edh, .inl (gyO G, 10, .inr (.inr (.inr (.inr fa))))), (pz, .inr (8, [.ref gr, .ref mr, .ref cl, .ref so, .ref sh, .int (nI s1), .int s2])), (cl, .inr (4, [.int mdc, .ref (gE G), .int (nI 0)]))]) rfl rfl (by decide) (by decide) (va_runIN (As := [.int (nI 49152), .int (nI 16)]) (rest := [.ref q_17, .ref pz]) ⟨hx, hb, hml, hown, hts⟩ (c_X1_init l G q_17 H.size) ⟨(va_cnB 2 hts (gI q641) rfl rfl rfl (hE.1.1 _ nq639) (hts _ q72) (by decide +kernel) ⟨Nat.le_of_ble_eq_true rfl, Nat.le_of_ble_eq_true rfl⟩), rfl, hts _ q640⟩ (preS hK hE hP hD hS hA [5] rfl (by decide)) rfl rfl hl.1 rfl (lv_room (Nat.le_of_ble_eq_true rfl)) dX6_addCage_95 ⟨Nat.le_of_ble_eq_true rfl, Nat.le_of_ble_eq_true rfl⟩) (fun u9 hw_20 H locs hP hD hS => ?_)
                obtain ⟨rw_18, kf_19⟩ := u9
                have hkf_22 := hw_20
                have hkf_22 : inB 2 16 kf_19 := hkf_22
                have hP : va_P (gD G) vwCl [(ho, .inr (11, [.ref al, .ref hs, .ref ts, .ref pb, .null, .int lr])), (al, .inr (4, [.int mdh, .ref edh, .int (nI 1)])), (edh, .inl (gyO G, 10, .inr (.inr (.inr (.inr fa))))), (pz, .inr (8, [.ref gr, .ref mr, .ref cl, .ref so, .ref sh, .int (nI s1), .int s2])), (cl, .inr (4, [.int mdc, .ref (gE G), .int (nI 0)])), (q_17, .inr (6, [.ref rw_18, .int (nI 16)])), (rw_18, .inl (gyI G, 2, .inl kf_19))] H := hP
                have hD : va_D A [(ho, .inr (11, [.ref al, .ref hs, .ref ts, .ref pb, .null, .int lr])), (al, .inr (4, [.int mdh, .ref edh, .int (nI 1)])), (edh, .inl (gyO G, 10, .inr (.inr (.inr (.inr fa))))), (pz, .inr (8, [.ref gr, .ref mr, .ref cl, .ref so, .ref sh, .int (nI s1), .int s2])), (cl, .inr (4, [.int mdc, .ref (gE G), .int (nI 0)])), (q_17, .inr (6, [.ref rw_18, .int (nI 16)])), (rw_18, .inl (gyI G, 2, .inl kf_19))] := hD
                refine fin_v hP hD hS hA [3, 4, 5] [0, 1, 2, 6] (wr := [(ho, .inr (11, [.ref al, .ref hs, .ref ts, .ref pb, .null, .int lr])), (al, .inr (4, [.int mdh, .ref edh, .int (nI 1)])), (edh, .inl (gyO G, 10, .inr (.inr (.inr (.inr fa))))), (rw_18, .inl (gyI G, 2, .inl kf_19))]) rfl rfl (by decide) (by decide) (va_runVN (As := [.ref q_17]) (rest := []) ⟨hx, hb, hml, hown, hts⟩ (c_putCage_0 l G pz gr mr cl so sh s1 s2 mdc q_17 rw_18 H.size) ⟨(va_cnB 1 hts (gI q655) rfl rfl rfl (hE.1.1 _ nq652) (hts _ q57) (by decide +kernel) ⟨Nat.le_of_ble_eq_true rfl, Nat.le_of_ble_eq_true rfl⟩), hts _ q654, hts _ q25⟩ (preV (q0 := 3) (ci := 8) hK hE hP hD hS hA [3, 4, 5] rfl (by decide) rfl rfl) rfl rfl hl.1 rfl (lv_room (Nat.le_of_ble_eq_true rfl)) dX6_addCage_98 ⟨Nat.le_of_ble_eq_true rfl, Nat.le_of_ble_eq_true rfl⟩) (fun u9 hw_25 H locs hP hD hS => ?_)
                obtain ⟨md2_23, ed2_24⟩ := u9
                have hP : va_P (gD G) vwCl [(ho, .inr (11, [.ref al, .ref hs, .ref ts, .ref pb, .null, .int lr])), (al, .inr (4, [.int mdh, .ref edh, .int (nI 1)])), (edh, .inl (gyO G, 10, .inr (.inr (.inr (.inr fa))))), (rw_18, .inl (gyI G, 2, .inl kf_19)), (pz, .inr (8, [.ref gr, .ref mr, .ref cl, .ref so, .ref sh, .int (nI 0), .int (nI 0)])), (cl, .inr (4, [.int md2_23, .ref ed2_24, .int (nI 1)])), (ed2_24, .inl (gyO G, 10, .inr (.inr (.inr (.inr (va_up (fun _ => none) 0 (some q_17))))))), (q_17, .inr (6, [.ref rw_18, .int (nI 16)]))] H := hP
                have hD : va_D A [(ho, .inr (11, [.ref al, .ref hs, .ref ts, .ref pb, .null, .int lr])), (al, .inr (4, [.int mdh, .ref edh, .int (nI 1)])), (edh, .inl (gyO G, 10, .inr (.inr (.inr (.inr fa))))), (rw_18, .inl (gyI G, 2, .inl kf_19)), (pz, .inr (8, [.ref gr, .ref mr, .ref cl, .ref so, .ref sh, .int (nI 0), .int (nI 0)])), (cl, .inr (4, [.int md2_23, .ref ed2_24, .int (nI 1)])), (ed2_24, .inl (gyO G, 10, .inr (.inr (.inr (.inr (va_up (fun _ => none) 0 (some q_17))))))), (q_17, .inr (6, [.ref rw_18, .int (nI 16)]))] := hD
                refine lv_aload hx hb dX6_addCage_101 (lv_at hl 0 rfl) ?_
                refine va_getN (D := gD G) (ci := 8) (v := .ref cl) (C := RX3) (T := TX3) (N := 7) hx hb hts fwX3 hown hK hP 4 rfl rfl 2 (by decide) (va_Nw.use rfl (hE.1.1 _ nq447)) (fun _ h9 => h9) rfl dX6_addCage_103 ?_
                refine fin_i hP hD hS hA [5] [0, 1, 2, 3, 4, 6, 7] (wr := [(ho, .inr (11, [.ref al, .ref hs, .ref ts, .ref pb, .null, .int lr])), (al, .inr (4, [.int mdh, .ref edh, .int (nI 1)])), (edh, .inl (gyO G, 10, .inr (.inr (.inr (.inr fa))))), (rw_18, .inl (gyI G, 2, .inl kf_19)), (pz, .inr (8, [.ref gr, .ref mr, .ref cl, .ref so, .ref sh, .int (nI 0), .int (nI 0)])), (ed2_24, .inl (gyO G, 10, .inr (.inr (.inr (.inr (va_up (fun _ => none) 0 (some q_17))))))), (q_17, .inr (6, [.ref rw_18, .int (nI 16)]))]) rfl rfl (by decide) (by decide) (va_runV (As := []) (rest := []) ⟨hx, hb, hml, hown, hts⟩ (c_Jx4a65c_size_8abf5 l G cl md2_23 ed2_24 1 H.size) (cwV 0 hts (gV q208 q209 q210 q48 q211) rfl rfl rfl (by decide +kernel) ⟨Nat.le_of_ble_eq_true rfl, Nat.le_of_ble_eq_true rfl⟩) (preV (q0 := 5) (ci := 4) hK hE hP hD hS hA [5] rfl (by decide) rfl rfl) rfl rfl hl.1 rfl (lv_room (Nat.le_of_ble_eq_true rfl)) dX6_addCage_106 ⟨Nat.le_of_ble_eq_true rfl, Nat.le_of_ble_eq_true rfl⟩) (fun r_28 u9 hw_27 H locs hP hD hS => ?_)
                subst hw_27
                have hP : va_P (gD G) vwCl [(ho, .inr (11, [.ref al, .ref hs, .ref ts, .ref pb, .null, .int lr])), (al, .inr (4, [.int mdh, .ref edh, .int (nI 1)])), (edh, .inl (gyO G, 10, .inr (.inr (.inr (.inr fa))))), (rw_18, .inl (gyI G, 2, .inl kf_19)), (pz, .inr (8, [.ref gr, .ref mr, .ref cl, .ref so, .ref sh, .int (nI 0), .int (nI 0)])), (ed2_24, .inl (gyO G, 10, .inr (.inr (.inr (.inr (va_up (fun _ => none) 0 (some q_17))))))), (q_17, .inr (6, [.ref rw_18, .int (nI 16)])), (cl, .inr (4, [.int md2_23, .ref ed2_24, .int (nI 1)]))] H := hP
                have hD : va_D A [(ho, .inr (11, [.ref al, .ref hs, .ref ts, .ref pb, .null, .int lr])), (al, .inr (4, [.int mdh, .ref edh, .int (nI 1)])), (edh, .inl (gyO G, 10, .inr (.inr (.inr (.inr fa))))), (rw_18, .inl (gyI G, 2, .inl kf_19)), (pz, .inr (8, [.ref gr, .ref mr, .ref cl, .ref so, .ref sh, .int (nI 0), .int (nI 0)])), (ed2_24, .inl (gyO G, 10, .inr (.inr (.inr (.inr (va_up (fun _ => none) 0 (some q_17))))))), (q_17, .inr (6, [.ref rw_18, .int (nI 16)])), (cl, .inr (4, [.int md2_23, .ref ed2_24, .int (nI 1)]))] := hD
                have hP9 := hP.sub (ws' := [(ho, .inr (11, [.ref al, .ref hs, .ref ts, .ref pb, .null, .int lr])), (al, .inr (4, [.int mdh, .ref edh, .int (nI 1)])), (edh, .inl (gyO G, 10, .inr (.inr (.inr (.inr fa))))), (pz, .inr (8, [.ref gr, .ref mr, .ref cl, .ref so, .ref sh, .int (nI 0), .int (nI 0)])), (cl, .inr (4, [.int md2_23, .ref ed2_24, .int (nI 1)])), (ed2_24, .inl (gyO G, 10, .inr (.inr (.inr (.inr (va_up (fun _ => none) 0 (some q_17))))))), (q_17, .inr (6, [.ref rw_18, .int (nI 16)])), (rw_18, .inl (gyI G, 2, .inl kf_19))]) [0, 1, 2, 4, 7, 5, 6, 3] rfl
                have hD9 := hD.sub (ws' := [(ho, .inr (11, [.ref al, .ref hs, .ref ts, .ref pb, .null, .int lr])), (al, .inr (4, [.int mdh, .ref edh, .int (nI 1)])), (edh, .inl (gyO G, 10, .inr (.inr (.inr (.inr fa))))), (pz, .inr (8, [.ref gr, .ref mr, .ref cl, .ref so, .ref sh, .int (nI 0), .int (nI 0)])), (cl, .inr (4, [.int md2_23, .ref ed2_24, .int (nI 1)])), (ed2_24, .inl (gyO G, 10, .inr (.inr (.inr (.inr (va_up (fun _ => none) 0 (some q_17))))))), (q_17, .inr (6, [.ref rw_18, .int (nI 16)])), (rw_18, .inl (gyI G, 2, .inl kf_19))]) [0, 1, 2, 4, 7, 5, 6, 3] (by decide) rfl
                subst hQ
                exact W.iret (v := nI 1) hx hb hr (fun t ht hW => ⟨⟨nI 1, (md2_23, ed2_24, q_17, rw_18, kf_19), rfl, ⟨rfl, hkf_22⟩, by rw [ht]; exact hP9, hD9⟩, hS.F ht⟩) hS.2.2 dX6_addCage_109
              · skip
                have c_16 : ¬ 0 < 6 := fun z => c_16 ((nI_ltI (a := 0) (b := 6) (by omega) (by omega)).mpr z)
                exact absurd c_16 (by decide)
            · skip
              have c_13 : ¬ 2 ≤ 4 := fun z => c_13 ((nI_leI (a := 2) (b := 4) (by omega) (by omega)).mpr z)
              exact absurd c_13 (by decide)
    · skip
      have c_5 : ¬ 16 ≤ 16 := fun z => c_5 ((nI_leI (a := 16) (b := 16) (by omega) (by omega)).mpr z)
      exact absurd c_5 (by decide)
set_option maxHeartbeats 4000000 in
set_option maxRecDepth 100000 in
theorem c_putCage_n (l : Launch) (G : GG) (pz : Nat) (gr : Nat) (mr : Nat) (cl : Nat) (so : Nat) (sh : Nat) (s1 : Nat) (s2 : Int32) (mdc : Int32) (edc : Nat) (n : Nat) (gc : Nat → Option Nat) (cg : Nat) (rw : Nat) (hn : n < 6) : Mv l G yX3_putCage cX3_putCage 2 ({ frames := 2, cells := 0, slots := 0, locals := 44 } : Room) [.ref pz, .ref cg] [(pz, .inr (8, [.ref gr, .ref mr, .ref cl, .ref so, .ref sh, .int (nI s1), .int s2])), (cl, .inr (4, [.int mdc, .ref edc, .int (nI n)])), (edc, .inl (gyO G, 10, .inr (.inr (.inr (.inr gc))))), (cg, .inr (6, [.ref rw, .int (nI 16)]))] (fun (u : Int32) => True) (fun (u : Int32) => [(pz, .inr (8, [.ref gr, .ref mr, .ref cl, .ref so, .ref sh, .int (nI 0), .int (nI 0)])), (cl, .inr (4, [.int u, .ref edc, .int (nI (n + 1))])), (edc, .inl (gyO G, 10, .inr (.inr (.inr (.inr (va_up gc n (some cg))))))), (cg, .inr (6, [.ref rw, .int (nI 16)]))]) := by
  intro sz
  refine Met.ofW (cc := cX3_putCage) (maxL := 2) (ret := none) (by decide) rfl ?_
  intro p e s m args below meth c s₁ B9 hml hv
  obtain ⟨rfl, hsz, hP, hK, hD0, hE⟩ := hv
  have hx := B9.exec
  have hb := B9.bytes
  have hr := B9.returns
  have hts : ∀ w ∈ WW, w.before ([.ref pz, .ref cg] : List Value).toArray s = true := fun w h => atoms_spec (ws := .code yX3_putCage cX3_putCage 2 none :: WW) B9.pre w (List.mem_cons_of_mem _ h)
  have hown : s.vm.findClass RX3 = some m.cls := findClass_of_methodNamed B9.named
  subst hsz
  have hD := hD0.self (sz := s.heap.size)
  generalize hAe : va_A [(pz, .inr (8, [.ref gr, .ref mr, .ref cl, .ref so, .ref sh, .int (nI s1), .int s2])), (cl, .inr (4, [.int mdc, .ref edc, .int (nI n)])), (edc, .inl (gyO G, 10, .inr (.inr (.inr (.inr gc))))), (cg, .inr (6, [.ref rw, .int (nI 16)]))] s.heap.size = A at hD hE ⊢
  have hA : ∀ q : Nat, s.heap.size ≤ q → A q := fun q h => by rw [← hAe]; exact Or.inr h
  have hl := lv_entry ([.ref pz, .ref cg]) (n := 2) (Nat.le_of_ble_eq_true rfl)
  rw [lg_entry_eq]
  generalize (lg_sl ([.ref pz, .ref cg]) ++ List.replicate (2 - (lg_sl ([.ref pz, .ref cg])).length) Slot.unset).toArray = ls at hl ⊢
  have hl : lv_has ls 2 [(0, .ref pz), (1, .ref cg)] := hl
  refine qgen (fun Q hQ => ?_)
  refine hgen (fun H locs hP hD hS => ?_) hP hD
  refine lv_aload_n hx hb dX3_putCage_0 rfl (lv_at hl 0 rfl) ?_
  refine va_get (D := gD G) (ci := 8) (v := .ref cl) (C := RX3) (T := TX3) (N := 7) hx hb hts fwX3 hown hK hP 0 rfl rfl 2 (by decide) (hts _ q445) (fun _ h9 => h9) rfl dX3_putCage_1 ?_
  refine lv_aload_n hx hb dX3_putCage_4 rfl (lv_at hl 1 rfl) ?_
  refine fin_i hP hD hS hA [1, 2] [0, 3] (wr := [(pz, .inr (8, [.ref gr, .ref mr, .ref cl, .ref so, .ref sh, .int (nI s1), .int s2])), (cg, .inr (6, [.ref rw, .int (nI 16)]))]) rfl rfl (by decide) (by decide) (va_runV (As := [.ref cg]) (rest := []) ⟨hx, hb, hml, hown, hts⟩ (c_add_room l (gSet G (fun y => y = cg)) cl mdc edc n gc cg (by omega) (by omega) H.size) (cwV 1 hts (gV q656 q469 q470 q48 q471) rfl rfl rfl (by decide +kernel) ⟨Nat.le_of_ble_eq_true rfl, Nat.le_of_ble_eq_true rfl⟩) (preVG (ob_cell (q0 := 3) (ci := 6) hK hP hD rfl rfl (vb_asgC (hE.1.1 _ nq1392)) [1, 2] rfl (by decide)) (q0 := 1) (ci := 4) hK hE hP hD hS hA [1, 2] rfl (by decide) rfl rfl) rfl rfl hl.1 rfl (lv_room (Nat.le_of_ble_eq_true rfl)) dX3_putCage_5 ⟨Nat.le_of_ble_eq_true rfl, Nat.le_of_ble_eq_true rfl⟩) (fun r_3 u9 hw_2 H locs hP hD hS => ?_)
  obtain ⟨md2_1, rfl⟩ : ∃ z, z = u9 := ⟨_, rfl⟩
  have hP : va_P (gD G) vwCl [(pz, .inr (8, [.ref gr, .ref mr, .ref cl, .ref so, .ref sh, .int (nI s1), .int s2])), (cg, .inr (6, [.ref rw, .int (nI 16)])), (cl, .inr (4, [.int md2_1, .ref edc, .int (nI (n + 1))])), (edc, .inl (gyO G, 10, .inr (.inr (.inr (.inr (va_up gc n (some cg)))))))] H := hP
  have hD : va_D A [(pz, .inr (8, [.ref gr, .ref mr, .ref cl, .ref so, .ref sh, .int (nI s1), .int s2])), (cg, .inr (6, [.ref rw, .int (nI 16)])), (cl, .inr (4, [.int md2_1, .ref edc, .int (nI (n + 1))])), (edc, .inl (gyO G, 10, .inr (.inr (.inr (.inr (va_up gc n (some cg)))))))] := hD
  refine lv_pop hx hb dX3_putCage_8 rfl ?_
  refine lv_aload_n hx hb dX3_putCage_9 rfl (lv_at hl 0 rfl) ?_
  refine lv_iconst (v := nI 0) hx hb dX3_putCage_10 (by decide) ?_
  refine va_put (D := gD G) (ci := 8) (v := .int (nI 0)) (ty := .boolean) (C := RX3) (T := TX3) (N := 7) hx hb hts fwX3 tyX3 tyX3_ok nmX3 hown hK hP hD hS 0 rfl rfl 5 (by decide) (hts _ q451) (fun _ h9 => h9) rfl (by decide +kernel) (by decide) (by decide) (Nat.le_of_ble_eq_true rfl) dX3_putCage_11 (fun H locs hP hD hS => ?_)
  have hP : va_P (gD G) vwCl [(pz, .inr (8, [.ref gr, .ref mr, .ref cl, .ref so, .ref sh, .int (nI 0), .int s2])), (cg, .inr (6, [.ref rw, .int (nI 16)])), (cl, .inr (4, [.int md2_1, .ref edc, .int (nI (n + 1))])), (edc, .inl (gyO G, 10, .inr (.inr (.inr (.inr (va_up gc n (some cg)))))))] H := hP
  have hD : va_D A [(pz, .inr (8, [.ref gr, .ref mr, .ref cl, .ref so, .ref sh, .int (nI 0), .int s2])), (cg, .inr (6, [.ref rw, .int (nI 16)])), (cl, .inr (4, [.int md2_1, .ref edc, .int (nI (n + 1))])), (edc, .inl (gyO G, 10, .inr (.inr (.inr (.inr (va_up gc n (some cg)))))))] := hD
  refine lv_aload_n hx hb dX3_putCage_14 rfl (lv_at hl 0 rfl) ?_
  refine lv_iconst (v := nI 0) hx hb dX3_putCage_15 (by decide) ?_
  refine va_put (D := gD G) (ci := 8) (v := .int (nI 0)) (ty := .boolean) (C := RX3) (T := TX3) (N := 7) hx hb hts fwX3 tyX3 tyX3_ok nmX3 hown hK hP hD hS 0 rfl rfl 6 (by decide) (hts _ q452) (fun _ h9 => h9) rfl (by decide +kernel) (by decide) (by decide) (Nat.le_of_ble_eq_true rfl) dX3_putCage_16 (fun H locs hP hD hS => ?_)
  have hP : va_P (gD G) vwCl [(pz, .inr (8, [.ref gr, .ref mr, .ref cl, .ref so, .ref sh, .int (nI 0), .int (nI 0)])), (cg, .inr (6, [.ref rw, .int (nI 16)])), (cl, .inr (4, [.int md2_1, .ref edc, .int (nI (n + 1))])), (edc, .inl (gyO G, 10, .inr (.inr (.inr (.inr (va_up gc n (some cg)))))))] H := hP
  have hD : va_D A [(pz, .inr (8, [.ref gr, .ref mr, .ref cl, .ref so, .ref sh, .int (nI 0), .int (nI 0)])), (cg, .inr (6, [.ref rw, .int (nI 16)])), (cl, .inr (4, [.int md2_1, .ref edc, .int (nI (n + 1))])), (edc, .inl (gyO G, 10, .inr (.inr (.inr (.inr (va_up gc n (some cg)))))))] := hD
  have hP9 := hP.sub (ws' := [(pz, .inr (8, [.ref gr, .ref mr, .ref cl, .ref so, .ref sh, .int (nI 0), .int (nI 0)])), (cl, .inr (4, [.int md2_1, .ref edc, .int (nI (n + 1))])), (edc, .inl (gyO G, 10, .inr (.inr (.inr (.inr (va_up gc n (some cg))))))), (cg, .inr (6, [.ref rw, .int (nI 16)]))]) [0, 2, 3, 1] rfl
  have hD9 := hD.sub (ws' := [(pz, .inr (8, [.ref gr, .ref mr, .ref cl, .ref so, .ref sh, .int (nI 0), .int (nI 0)])), (cl, .inr (4, [.int md2_1, .ref edc, .int (nI (n + 1))])), (edc, .inl (gyO G, 10, .inr (.inr (.inr (.inr (va_up gc n (some cg))))))), (cg, .inr (6, [.ref rw, .int (nI 16)]))]) [0, 2, 3, 1] (by decide) rfl
  subst hQ
  exact W.vret hx hb hr (fun t ht hW => ⟨⟨md2_1, rfl, trivial, by rw [ht]; exact hP9, hD9⟩, hS.F ht⟩) hS.2.2 dX3_putCage_19
set_option maxHeartbeats 4000000 in
set_option maxRecDepth 100000 in
theorem c_addCage_n (l : Launch) (G : GG) (ho : Nat) (al : Nat) (hs : Nat) (ts : Nat) (pb : Nat) (lr : Int32) (mdh : Int32) (edh : Nat) (fa : Nat → Option Nat) (pz : Nat) (gr : Nat) (mr : Nat) (cl : Nat) (so : Nat) (sh : Nat) (s1 : Nat) (s2 : Int32) (mdc : Int32) (edc : Nat) (n : Nat) (gc : Nat → Option Nat) (hfa : fa 0 = some pz) (hn : n < 6) : Mi l G yX6_addCage cX6_addCage 5 (some .int) ({ frames := 4, cells := 3, slots := 14, locals := 85 } : Room) [.ref ho, .int (nI 0), .int (nI 49152), .int (nI 16)] [(ho, .inr (11, [.ref al, .ref hs, .ref ts, .ref pb, .null, .int lr])), (al, .inr (4, [.int mdh, .ref edh, .int (nI 1)])), (edh, .inl (gyO G, 10, .inr (.inr (.inr (.inr fa))))), (pz, .inr (8, [.ref gr, .ref mr, .ref cl, .ref so, .ref sh, .int (nI s1), .int s2])), (cl, .inr (4, [.int mdc, .ref edc, .int (nI n)])), (edc, .inl (gyO G, 10, .inr (.inr (.inr (.inr gc)))))] (fun (r : Int32) (u : Int32 × Nat × Nat × (Nat → Int32)) => r = nI (n + 1) ∧ inB 2 16 u.2.2.2) (fun (u : Int32 × Nat × Nat × (Nat → Int32)) => [(ho, .inr (11, [.ref al, .ref hs, .ref ts, .ref pb, .null, .int lr])), (al, .inr (4, [.int mdh, .ref edh, .int (nI 1)])), (edh, .inl (gyO G, 10, .inr (.inr (.inr (.inr fa))))), (pz, .inr (8, [.ref gr, .ref mr, .ref cl, .ref so, .ref sh, .int (nI 0), .int (nI 0)])), (cl, .inr (4, [.int u.1, .ref edc, .int (nI (n + 1))])), (edc, .inl (gyO G, 10, .inr (.inr (.inr (.inr (va_up gc n (some u.2.1))))))), (u.2.1, .inr (6, [.ref u.2.2.1, .int (nI 16)])), (u.2.2.1, .inl (gyI G, 2, .inl u.2.2.2))]) := by
  intro sz
  refine Met.ofW (cc := cX6_addCage) (maxL := 5) (ret := (some .int)) (by decide) rfl ?_
  intro p e s m args below meth c s₁ B9 hml hv
  obtain ⟨rfl, hsz, hP, hK, hD0, hE⟩ := hv
  have hx := B9.exec
  have hb := B9.bytes
  have hr := B9.returns
  have hts : ∀ w ∈ WW, w.before ([.ref ho, .int (nI 0), .int (nI 49152), .int (nI 16)] : List Value).toArray s = true := fun w h => atoms_spec (ws := .code yX6_addCage cX6_addCage 5 (some .int) :: WW) B9.pre w (List.mem_cons_of_mem _ h)
  have hown : s.vm.findClass RX6 = some m.cls := findClass_of_methodNamed B9.named
  subst hsz
  have hD := hD0.self (sz := s.heap.size)
  generalize hAe : va_A [(ho, .inr (11, [.ref al, .ref hs, .ref ts, .ref pb, .null, .int lr])), (al, .inr (4, [.int mdh, .ref edh, .int (nI 1)])), (edh, .inl (gyO G, 10, .inr (.inr (.inr (.inr fa))))), (pz, .inr (8, [.ref gr, .ref mr, .ref cl, .ref so, .ref sh, .int (nI s1), .int s2])), (cl, .inr (4, [.int mdc, .ref edc, .int (nI n)])), (edc, .inl (gyO G, 10, .inr (.inr (.inr (.inr gc)))))] s.heap.size = A at hD hE ⊢
  have hA : ∀ q : Nat, s.heap.size ≤ q → A q := fun q h => by rw [← hAe]; exact Or.inr h
  have hl := lv_entry ([.ref ho, .int (nI 0), .int (nI 49152), .int (nI 16)]) (n := 5) (Nat.le_of_ble_eq_true rfl)
  rw [lg_entry_eq]
  generalize (lg_sl ([.ref ho, .int (nI 0), .int (nI 49152), .int (nI 16)]) ++ List.replicate (5 - (lg_sl ([.ref ho, .int (nI 0), .int (nI 49152), .int (nI 16)])).length) Slot.unset).toArray = ls at hl ⊢
  have hl : lv_has ls 5 [(0, .ref ho), (1, .int (nI 0)), (2, .int (nI 49152)), (3, .int (nI 16))] := hl
  refine qgen (fun Q hQ => ?_)
  refine hgen (fun H locs hP hD hS => ?_) hP hD
  refine lv_aload_n hx hb dX6_addCage_0 rfl (lv_at hl 0 rfl) ?_
  refine lv_iload_n hx hb dX6_addCage_1 rfl (lv_at hl 1 rfl) ?_
  refine fin_r hP hD hS hA [0, 1, 2, 3] [4, 5] (wr := [(cl, .inr (4, [.int mdc, .ref edc, .int (nI n)])), (edc, .inl (gyO G, 10, .inr (.inr (.inr (.inr gc)))))]) rfl rfl (by decide) (by decide) (va_runV (As := [.int (nI 0)]) (rest := []) ⟨hx, hb, hml, hown, hts⟩ (c_X6_puzzleAt l G ho al hs ts pb lr mdh edh fa pz gr mr cl so sh s1 s2 hfa H.size) (cwV 1 hts (gV q566 q568 q23 q45 q569) rfl rfl rfl (by decide +kernel) ⟨Nat.le_of_ble_eq_true rfl, Nat.le_of_ble_eq_true rfl⟩) (preV (q0 := 0) (ci := 11) hK hE hP hD hS hA [0, 1, 2, 3] rfl (by decide) rfl rfl) rfl rfl hl.1 rfl (lv_room (Nat.le_of_ble_eq_true rfl)) dX6_addCage_2 ⟨Nat.le_of_ble_eq_true rfl, Nat.le_of_ble_eq_true rfl⟩) (fun u9 r_2 hw_1 H locs hP hD hS => ?_)
  have hr_3 := hw_1
  have hr_3 : r_2 = pz := hr_3
  have hP : va_P (gD G) vwCl [(cl, .inr (4, [.int mdc, .ref edc, .int (nI n)])), (edc, .inl (gyO G, 10, .inr (.inr (.inr (.inr gc))))), (ho, .inr (11, [.ref al, .ref hs, .ref ts, .ref pb, .null, .int lr])), (al, .inr (4, [.int mdh, .ref edh, .int (nI 1)])), (edh, .inl (gyO G, 10, .inr (.inr (.inr (.inr fa))))), (pz, .inr (8, [.ref gr, .ref mr, .ref cl, .ref so, .ref sh, .int (nI s1), .int s2]))] H := hP
  have hD : va_D A [(cl, .inr (4, [.int mdc, .ref edc, .int (nI n)])), (edc, .inl (gyO G, 10, .inr (.inr (.inr (.inr gc))))), (ho, .inr (11, [.ref al, .ref hs, .ref ts, .ref pb, .null, .int lr])), (al, .inr (4, [.int mdh, .ref edh, .int (nI 1)])), (edh, .inl (gyO G, 10, .inr (.inr (.inr (.inr fa))))), (pz, .inr (8, [.ref gr, .ref mr, .ref cl, .ref so, .ref sh, .int (nI s1), .int s2]))] := hD
  refine lv_ter hr_3 ?_
  refine lv_astore (lv' := [(4, .ref pz), (0, .ref ho), (1, .int (nI 0)), (2, .int (nI 49152)), (3, .int (nI 16))]) hx hb dX6_addCage_5 hl (by decide) rfl (fun ls hl => ?_)
  refine lv_iload_n hx hb dX6_addCage_7 rfl (lv_at hl 4 rfl) ?_
  refine lv_iconst (v := nI 2) hx hb dX6_addCage_8 (by decide) ?_
  refine lv_icmp_lt (tgt := 18) hx hb dX6_addCage_9 (by decide) (fun c_4 => ?_) (fun c_4 => ?_)
  · skip
    have c_4 : 16 < 2 := (nI_ltI (a := 16) (b := 2) (by omega) (by omega)).mp c_4
    exact absurd c_4 (by decide)
  · skip
    have c_4 : ¬ 16 < 2 := fun z => c_4 ((nI_ltI (a := 16) (b := 2) (by omega) (by omega)).mpr z)
    refine lv_iload_n hx hb dX6_addCage_12 rfl (lv_at hl 4 rfl) ?_
    refine lv_bipush (v := nI 16) hx hb dX6_addCage_13 (by decide) ?_
    refine lv_icmp_le (tgt := 28) hx hb dX6_addCage_15 (by decide) (fun c_5 => ?_) (fun c_5 => ?_)
    · skip
      have c_5 : 16 ≤ 16 := (nI_leI (a := 16) (b := 16) (by omega) (by omega)).mp c_5
      refine lv_iload_n hx hb dX6_addCage_28 rfl (lv_at hl 3 rfl) ?_
      refine lv_if_lt (tgt := 54) hx hb dX6_addCage_29 (by decide) (fun c_6 => ?_) (fun c_6 => ?_)
      · skip
        have c_6 : 49152 < 0 := (nI_ltI (a := 49152) (b := 0) (by omega) (by omega)).mp c_6
        exact absurd c_6 (by decide)
      · skip
        have c_6 : ¬ 49152 < 0 := fun z => c_6 ((nI_ltI (a := 49152) (b := 0) (by omega) (by omega)).mpr z)
        refine lv_iload_n hx hb dX6_addCage_32 rfl (lv_at hl 3 rfl) ?_
        refine lv_ldc (v := nI 65536) hx hb hown (hts _ q619) dX6_addCage_33 ?_
        refine lv_icmp_ge (tgt := 54) hx hb dX6_addCage_35 (by decide) (fun c_7 => ?_) (fun c_7 => ?_)
        · skip
          have c_7 : 65536 ≤ 49152 := (nI_leI (a := 65536) (b := 49152) (by omega) (by omega)).mp c_7
          exact absurd c_7 (by decide)
        · skip
          have c_7 : ¬ 65536 ≤ 49152 := fun z => c_7 ((nI_leI (a := 65536) (b := 49152) (by omega) (by omega)).mpr z)
          refine lv_iload_n hx hb dX6_addCage_38 rfl (lv_at hl 3 rfl) ?_
          refine fin_i hP hD hS hA [] [0, 1, 2, 3, 4, 5] (wr := [(cl, .inr (4, [.int mdc, .ref edc, .int (nI n)])), (edc, .inl (gyO G, 10, .inr (.inr (.inr (.inr gc))))), (ho, .inr (11, [.ref al, .ref hs, .ref ts, .ref pb, .null, .int lr])), (al, .inr (4, [.int mdh, .ref edh, .int (nI 1)])), (edh, .inl (gyO G, 10, .inr (.inr (.inr (.inr fa))))), (pz, .inr (8, [.ref gr, .ref mr, .ref cl, .ref so, .ref sh, .int (nI s1), .int s2]))]) rfl rfl (by decide) (by decide) (va_runS (As := [.int (nI 49152)]) (rest := []) ⟨hx, hb, hml, hown, hts⟩ (c_bits_49152 l G H.size) (va_cwS 1 hts (gSt q620 q277 q70 q278) rfl rfl rfl (by decide +kernel) ⟨Nat.le_of_ble_eq_true rfl, Nat.le_of_ble_eq_true rfl⟩) (preS hK hE hP hD hS hA [] rfl (by decide)) rfl rfl hl.1 rfl (lv_room (Nat.le_of_ble_eq_true rfl)) dX6_addCage_39 ⟨Nat.le_of_ble_eq_true rfl, Nat.le_of_ble_eq_true rfl⟩) (fun r_9 u9 hw_8 H locs hP hD hS => ?_)
          subst hw_8
          have hP : va_P (gD G) vwCl [(cl, .inr (4, [.int mdc, .ref edc, .int (nI n)])), (edc, .inl (gyO G, 10, .inr (.inr (.inr (.inr gc))))), (ho, .inr (11, [.ref al, .ref hs, .ref ts, .ref pb, .null, .int lr])), (al, .inr (4, [.int mdh, .ref edh, .int (nI 1)])), (edh, .inl (gyO G, 10, .inr (.inr (.inr (.inr fa))))), (pz, .inr (8, [.ref gr, .ref mr, .ref cl, .ref so, .ref sh, .int (nI s1), .int s2]))] H := hP
          have hD : va_D A [(cl, .inr (4, [.int mdc, .ref edc, .int (nI n)])), (edc, .inl (gyO G, 10, .inr (.inr (.inr (.inr gc))))), (ho, .inr (11, [.ref al, .ref hs, .ref ts, .ref pb, .null, .int lr])), (al, .inr (4, [.int mdh, .ref edh, .int (nI 1)])), (edh, .inl (gyO G, 10, .inr (.inr (.inr (.inr fa))))), (pz, .inr (8, [.ref gr, .ref mr, .ref cl, .ref so, .ref sh, .int (nI s1), .int s2]))] := hD
          refine lv_iconst (v := nI 2) hx hb dX6_addCage_42 (by decide) ?_
          refine lv_icmp_lt (tgt := 54) hx hb dX6_addCage_43 (by decide) (fun c_10 => ?_) (fun c_10 => ?_)
          · skip
            have c_10 : 2 < 2 := (nI_ltI (a := 2) (b := 2) (by omega) (by omega)).mp c_10
            exact absurd c_10 (by decide)
          · skip
            have c_10 : ¬ 2 < 2 := fun z => c_10 ((nI_ltI (a := 2) (b := 2) (by omega) (by omega)).mpr z)
            refine lv_iload_n hx hb dX6_addCage_46 rfl (lv_at hl 3 rfl) ?_
            refine fin_i hP hD hS hA [] [0, 1, 2, 3, 4, 5] (wr := [(cl, .inr (4, [.int mdc, .ref edc, .int (nI n)])), (edc, .inl (gyO G, 10, .inr (.inr (.inr (.inr gc))))), (ho, .inr (11, [.ref al, .ref hs, .ref ts, .ref pb, .null, .int lr])), (al, .inr (4, [.int mdh, .ref edh, .int (nI 1)])), (edh, .inl (gyO G, 10, .inr (.inr (.inr (.inr fa))))), (pz, .inr (8, [.ref gr, .ref mr, .ref cl, .ref so, .ref sh, .int (nI s1), .int s2]))]) rfl rfl (by decide) (by decide) (va_runS (As := [.int (nI 49152)]) (rest := []) ⟨hx, hb, hml, hown, hts⟩ (c_bits_49152 l G H.size) (va_cwS 1 hts (gSt q620 q277 q70 q278) rfl rfl rfl (by decide +kernel) ⟨Nat.le_of_ble_eq_true rfl, Nat.le_of_ble_eq_true rfl⟩) (preS hK hE hP hD hS hA [] rfl (by decide)) rfl rfl hl.1 rfl (lv_room (Nat.le_of_ble_eq_true rfl)) dX6_addCage_47 ⟨Nat.le_of_ble_eq_true rfl, Nat.le_of_ble_eq_true rfl⟩) (fun r_12 u9 hw_11 H locs hP hD hS => ?_)
            subst hw_11
            have hP : va_P (gD G) vwCl [(cl, .inr (4, [.int mdc, .ref edc, .int (nI n)])), (edc, .inl (gyO G, 10, .inr (.inr (.inr (.inr gc))))), (ho, .inr (11, [.ref al, .ref hs, .ref ts, .ref pb, .null, .int lr])), (al, .inr (4, [.int mdh, .ref edh, .int (nI 1)])), (edh, .inl (gyO G, 10, .inr (.inr (.inr (.inr fa))))), (pz, .inr (8, [.ref gr, .ref mr, .ref cl, .ref so, .ref sh, .int (nI s1), .int s2]))] H := hP
            have hD : va_D A [(cl, .inr (4, [.int mdc, .ref edc, .int (nI n)])), (edc, .inl (gyO G, 10, .inr (.inr (.inr (.inr gc))))), (ho, .inr (11, [.ref al, .ref hs, .ref ts, .ref pb, .null, .int lr])), (al, .inr (4, [.int mdh, .ref edh, .int (nI 1)])), (edh, .inl (gyO G, 10, .inr (.inr (.inr (.inr fa))))), (pz, .inr (8, [.ref gr, .ref mr, .ref cl, .ref so, .ref sh, .int (nI s1), .int s2]))] := hD
            refine lv_iconst (v := nI 4) hx hb dX6_addCage_50 (by decide) ?_
            refine lv_icmp_le (tgt := 64) hx hb dX6_addCage_51 (by decide) (fun c_13 => ?_) (fun c_13 => ?_)
            · skip
              have c_13 : 2 ≤ 4 := (nI_leI (a := 2) (b := 4) (by omega) (by omega)).mp c_13
              refine lv_aload hx hb dX6_addCage_64 (lv_at hl 0 rfl) ?_
              refine va_getN (D := gD G) (ci := 8) (v := .ref cl) (C := RX3) (T := TX3) (N := 7) hx hb hts fwX3 hown hK hP 5 rfl rfl 2 (by decide) (va_Nw.use rfl (hE.1.1 _ nq447)) (fun _ h9 => h9) rfl dX6_addCage_66 ?_
              refine fin_i hP hD hS hA [0] [1, 2, 3, 4, 5] (wr := [(edc, .inl (gyO G, 10, .inr (.inr (.inr (.inr gc))))), (ho, .inr (11, [.ref al, .ref hs, .ref ts, .ref pb, .null, .int lr])), (al, .inr (4, [.int mdh, .ref edh, .int (nI 1)])), (edh, .inl (gyO G, 10, .inr (.inr (.inr (.inr fa))))), (pz, .inr (8, [.ref gr, .ref mr, .ref cl, .ref so, .ref sh, .int (nI s1), .int s2]))]) rfl rfl (by decide) (by decide) (va_runV (As := []) (rest := []) ⟨hx, hb, hml, hown, hts⟩ (c_Jx4a65c_size_8abf5 l G cl mdc edc n H.size) (cwV 0 hts (gV q208 q209 q210 q48 q211) rfl rfl rfl (by decide +kernel) ⟨Nat.le_of_ble_eq_true rfl, Nat.le_of_ble_eq_true rfl⟩) (preV (q0 := 0) (ci := 4) hK hE hP hD hS hA [0] rfl (by decide) rfl rfl) rfl rfl hl.1 rfl (lv_room (Nat.le_of_ble_eq_true rfl)) dX6_addCage_69 ⟨Nat.le_of_ble_eq_true rfl, Nat.le_of_ble_eq_true rfl⟩) (fun r_15 u9 hw_14 H locs hP hD hS => ?_)
              subst hw_14
              have hP : va_P (gD G) vwCl [(edc, .inl (gyO G, 10, .inr (.inr (.inr (.inr gc))))), (ho, .inr (11, [.ref al, .ref hs, .ref ts, .ref pb, .null, .int lr])), (al, .inr (4, [.int mdh, .ref edh, .int (nI 1)])), (edh, .inl (gyO G, 10, .inr (.inr (.inr (.inr fa))))), (pz, .inr (8, [.ref gr, .ref mr, .ref cl, .ref so, .ref sh, .int (nI s1), .int s2])), (cl, .inr (4, [.int mdc, .ref edc, .int (nI n)]))] H := hP
              have hD : va_D A [(edc, .inl (gyO G, 10, .inr (.inr (.inr (.inr gc))))), (ho, .inr (11, [.ref al, .ref hs, .ref ts, .ref pb, .null, .int lr])), (al, .inr (4, [.int mdh, .ref edh, .int (nI 1)])), (edh, .inl (gyO G, 10, .inr (.inr (.inr (.inr fa))))), (pz, .inr (8, [.ref gr, .ref mr, .ref cl, .ref so, .ref sh, .int (nI s1), .int s2])), (cl, .inr (4, [.int mdc, .ref edc, .int (nI n)]))] := hD
              refine lv_bipush (v := nI 6) hx hb dX6_addCage_72 (by decide) ?_
              refine lv_icmp_lt (tgt := 87) hx hb dX6_addCage_74 (by decide) (fun c_16 => ?_) (fun c_16 => ?_)
              · skip
                have c_16 : n < 6 := (nI_ltI (a := n) (b := 6) (by omega) (by omega)).mp c_16
                refine lv_aload hx hb dX6_addCage_87 (lv_at hl 0 rfl) ?_
                refine va_new (D := gD G) (ci := 6) (fs := [.null, .int 0]) (C := RX1) (T := TX1) (N := 2) hx hb hts fwX1 tyX1 tyX1_ok hown (hts _ q638) (hts _ q292) (hts _ q72) hK hP hD hS hA rfl (fun j hj => by rcases (show j = 0 ∨ j = 1 by omega) with rfl | rfl <;> rfl) (Nat.le_of_ble_eq_true rfl) (Nat.le_of_ble_eq_true rfl) dX6_addCage_89 (fun q_17 H hP hD hS => ?_)
                have hP : va_P (gD G) vwCl [(edc, .inl (gyO G, 10, .inr (.inr (.inr (.inr gc))))), (ho, .inr (11, [.ref al, .ref hs, .ref ts, .ref pb, .null, .int lr])), (al, .inr (4, [.int mdh, .ref edh, .int (nI 1)])), (edh, .inl (gyO G, 10, .inr (.inr (.inr (.inr fa))))), (pz, .inr (8, [.ref gr, .ref mr, .ref cl, .ref so, .ref sh, .int (nI s1), .int s2])), (cl, .inr (4, [.int mdc, .ref edc, .int (nI n)])), (q_17, .inr (6, [.null, .int (nI 0)]))] H := hP
                have hD : va_D A [(edc, .inl (gyO G, 10, .inr (.inr (.inr (.inr gc))))), (ho, .inr (11, [.ref al, .ref hs, .ref ts, .ref pb, .null, .int lr])), (al, .inr (4, [.int mdh, .ref edh, .int (nI 1)])), (edh, .inl (gyO G, 10, .inr (.inr (.inr (.inr fa))))), (pz, .inr (8, [.ref gr, .ref mr, .ref cl, .ref so, .ref sh, .int (nI s1), .int s2])), (cl, .inr (4, [.int mdc, .ref edc, .int (nI n)])), (q_17, .inr (6, [.null, .int (nI 0)]))] := hD
                refine lv_dup hx hb dX6_addCage_92 rfl ?_
                refine lv_iload_n hx hb dX6_addCage_93 rfl (lv_at hl 3 rfl) ?_
                refine lv_iload_n hx hb dX6_addCage_94 rfl (lv_at hl 4 rfl) ?_
                refine fin_v hP hD hS hA [6] [0, 1, 2, 3, 4, 5] (wr := [(edc, .inl (gyO G, 10, .inr (.inr (.inr (.inr gc))))), (ho, .inr (11, [.ref al, .ref hs, .ref ts, .ref pb, .null, .int lr])), (al, .inr (4, [.int mdh, .ref edh, .int (nI 1)])), (edh, .inl (gyO G, 10, .inr (.inr (.inr (.inr fa))))), (pz, .inr (8, [.ref gr, .ref mr, .ref cl, .ref so, .ref sh, .int (nI s1), .int s2])), (cl, .inr (4, [.int mdc, .ref edc, .int (nI n)]))]) rfl rfl (by decide) (by decide) (va_runIN (As := [.int (nI 49152), .int (nI 16)]) (rest := [.ref q_17, .ref pz]) ⟨hx, hb, hml, hown, hts⟩ (c_X1_init l G q_17 H.size) ⟨(va_cnB 2 hts (gI q641) rfl rfl rfl (hE.1.1 _ nq639) (hts _ q72) (by decide +kernel) ⟨Nat.le_of_ble_eq_true rfl, Nat.le_of_ble_eq_true rfl⟩), rfl, hts _ q640⟩ (preS hK hE hP hD hS hA [6] rfl (by decide)) rfl rfl hl.1 rfl (lv_room (Nat.le_of_ble_eq_true rfl)) dX6_addCage_95 ⟨Nat.le_of_ble_eq_true rfl, Nat.le_of_ble_eq_true rfl⟩) (fun u9 hw_20 H locs hP hD hS => ?_)
                obtain ⟨rw_18, kf_19⟩ := u9
                have hkf_22 := hw_20
                have hkf_22 : inB 2 16 kf_19 := hkf_22
                have hP : va_P (gD G) vwCl [(edc, .inl (gyO G, 10, .inr (.inr (.inr (.inr gc))))), (ho, .inr (11, [.ref al, .ref hs, .ref ts, .ref pb, .null, .int lr])), (al, .inr (4, [.int mdh, .ref edh, .int (nI 1)])), (edh, .inl (gyO G, 10, .inr (.inr (.inr (.inr fa))))), (pz, .inr (8, [.ref gr, .ref mr, .ref cl, .ref so, .ref sh, .int (nI s1), .int s2])), (cl, .inr (4, [.int mdc, .ref edc, .int (nI n)])), (q_17, .inr (6, [.ref rw_18, .int (nI 16)])), (rw_18, .inl (gyI G, 2, .inl kf_19))] H := hP
                have hD : va_D A [(edc, .inl (gyO G, 10, .inr (.inr (.inr (.inr gc))))), (ho, .inr (11, [.ref al, .ref hs, .ref ts, .ref pb, .null, .int lr])), (al, .inr (4, [.int mdh, .ref edh, .int (nI 1)])), (edh, .inl (gyO G, 10, .inr (.inr (.inr (.inr fa))))), (pz, .inr (8, [.ref gr, .ref mr, .ref cl, .ref so, .ref sh, .int (nI s1), .int s2])), (cl, .inr (4, [.int mdc, .ref edc, .int (nI n)])), (q_17, .inr (6, [.ref rw_18, .int (nI 16)])), (rw_18, .inl (gyI G, 2, .inl kf_19))] := hD
                refine fin_v hP hD hS hA [4, 5, 0, 6] [1, 2, 3, 7] (wr := [(ho, .inr (11, [.ref al, .ref hs, .ref ts, .ref pb, .null, .int lr])), (al, .inr (4, [.int mdh, .ref edh, .int (nI 1)])), (edh, .inl (gyO G, 10, .inr (.inr (.inr (.inr fa))))), (rw_18, .inl (gyI G, 2, .inl kf_19))]) rfl rfl (by decide) (by decide) (va_runVN (As := [.ref q_17]) (rest := []) ⟨hx, hb, hml, hown, hts⟩ (c_putCage_n l G pz gr mr cl so sh s1 s2 mdc edc n gc q_17 rw_18 (by omega) H.size) ⟨(va_cnB 1 hts (gI q655) rfl rfl rfl (hE.1.1 _ nq652) (hts _ q57) (by decide +kernel) ⟨Nat.le_of_ble_eq_true rfl, Nat.le_of_ble_eq_true rfl⟩), hts _ q654, hts _ q25⟩ (preV (q0 := 4) (ci := 8) hK hE hP hD hS hA [4, 5, 0, 6] rfl (by decide) rfl rfl) rfl rfl hl.1 rfl (lv_room (Nat.le_of_ble_eq_true rfl)) dX6_addCage_98 ⟨Nat.le_of_ble_eq_true rfl, Nat.le_of_ble_eq_true rfl⟩) (fun u9 hw_24 H locs hP hD hS => ?_)
                obtain ⟨md2_23, rfl⟩ : ∃ z, z = u9 := ⟨_, rfl⟩
                have hP : va_P (gD G) vwCl [(ho, .inr (11, [.ref al, .ref hs, .ref ts, .ref pb, .null, .int lr])), (al, .inr (4, [.int mdh, .ref edh, .int (nI 1)])), (edh, .inl (gyO G, 10, .inr (.inr (.inr (.inr fa))))), (rw_18, .inl (gyI G, 2, .inl kf_19)), (pz, .inr (8, [.ref gr, .ref mr, .ref cl, .ref so, .ref sh, .int (nI 0), .int (nI 0)])), (cl, .inr (4, [.int md2_23, .ref edc, .int (nI (n + 1))])), (edc, .inl (gyO G, 10, .inr (.inr (.inr (.inr (va_up gc n (some q_17))))))), (q_17, .inr (6, [.ref rw_18, .int (nI 16)]))] H := hP
                have hD : va_D A [(ho, .inr (11, [.ref al, .ref hs, .ref ts, .ref pb, .null, .int lr])), (al, .inr (4, [.int mdh, .ref edh, .int (nI 1)])), (edh, .inl (gyO G, 10, .inr (.inr (.inr (.inr fa))))), (rw_18, .inl (gyI G, 2, .inl kf_19)), (pz, .inr (8, [.ref gr, .ref mr, .ref cl, .ref so, .ref sh, .int (nI 0), .int (nI 0)])), (cl, .inr (4, [.int md2_23, .ref edc, .int (nI (n + 1))])), (edc, .inl (gyO G, 10, .inr (.inr (.inr (.inr (va_up gc n (some q_17))))))), (q_17, .inr (6, [.ref rw_18, .int (nI 16)]))] := hD
                refine lv_aload hx hb dX6_addCage_101 (lv_at hl 0 rfl) ?_
                refine va_getN (D := gD G) (ci := 8) (v := .ref cl) (C := RX3) (T := TX3) (N := 7) hx hb hts fwX3 hown hK hP 4 rfl rfl 2 (by decide) (va_Nw.use rfl (hE.1.1 _ nq447)) (fun _ h9 => h9) rfl dX6_addCage_103 ?_
                refine fin_i hP hD hS hA [5] [0, 1, 2, 3, 4, 6, 7] (wr := [(ho, .inr (11, [.ref al, .ref hs, .ref ts, .ref pb, .null, .int lr])), (al, .inr (4, [.int mdh, .ref edh, .int (nI 1)])), (edh, .inl (gyO G, 10, .inr (.inr (.inr (.inr fa))))), (rw_18, .inl (gyI G, 2, .inl kf_19)), (pz, .inr (8, [.ref gr, .ref mr, .ref cl, .ref so, .ref sh, .int (nI 0), .int (nI 0)])), (edc, .inl (gyO G, 10, .inr (.inr (.inr (.inr (va_up gc n (some q_17))))))), (q_17, .inr (6, [.ref rw_18, .int (nI 16)]))]) rfl rfl (by decide) (by decide) (va_runV (As := []) (rest := []) ⟨hx, hb, hml, hown, hts⟩ (c_Jx4a65c_size_8abf5 l G cl md2_23 edc (n + 1) H.size) (cwV 0 hts (gV q208 q209 q210 q48 q211) rfl rfl rfl (by decide +kernel) ⟨Nat.le_of_ble_eq_true rfl, Nat.le_of_ble_eq_true rfl⟩) (preV (q0 := 5) (ci := 4) hK hE hP hD hS hA [5] rfl (by decide) rfl rfl) rfl rfl hl.1 rfl (lv_room (Nat.le_of_ble_eq_true rfl)) dX6_addCage_106 ⟨Nat.le_of_ble_eq_true rfl, Nat.le_of_ble_eq_true rfl⟩) (fun r_27 u9 hw_26 H locs hP hD hS => ?_)
                subst hw_26
                have hP : va_P (gD G) vwCl [(ho, .inr (11, [.ref al, .ref hs, .ref ts, .ref pb, .null, .int lr])), (al, .inr (4, [.int mdh, .ref edh, .int (nI 1)])), (edh, .inl (gyO G, 10, .inr (.inr (.inr (.inr fa))))), (rw_18, .inl (gyI G, 2, .inl kf_19)), (pz, .inr (8, [.ref gr, .ref mr, .ref cl, .ref so, .ref sh, .int (nI 0), .int (nI 0)])), (edc, .inl (gyO G, 10, .inr (.inr (.inr (.inr (va_up gc n (some q_17))))))), (q_17, .inr (6, [.ref rw_18, .int (nI 16)])), (cl, .inr (4, [.int md2_23, .ref edc, .int (nI (n + 1))]))] H := hP
                have hD : va_D A [(ho, .inr (11, [.ref al, .ref hs, .ref ts, .ref pb, .null, .int lr])), (al, .inr (4, [.int mdh, .ref edh, .int (nI 1)])), (edh, .inl (gyO G, 10, .inr (.inr (.inr (.inr fa))))), (rw_18, .inl (gyI G, 2, .inl kf_19)), (pz, .inr (8, [.ref gr, .ref mr, .ref cl, .ref so, .ref sh, .int (nI 0), .int (nI 0)])), (edc, .inl (gyO G, 10, .inr (.inr (.inr (.inr (va_up gc n (some q_17))))))), (q_17, .inr (6, [.ref rw_18, .int (nI 16)])), (cl, .inr (4, [.int md2_23, .ref edc, .int (nI (n + 1))]))] := hD
                have hP9 := hP.sub (ws' := [(ho, .inr (11, [.ref al, .ref hs, .ref ts, .ref pb, .null, .int lr])), (al, .inr (4, [.int mdh, .ref edh, .int (nI 1)])), (edh, .inl (gyO G, 10, .inr (.inr (.inr (.inr fa))))), (pz, .inr (8, [.ref gr, .ref mr, .ref cl, .ref so, .ref sh, .int (nI 0), .int (nI 0)])), (cl, .inr (4, [.int md2_23, .ref edc, .int (nI (n + 1))])), (edc, .inl (gyO G, 10, .inr (.inr (.inr (.inr (va_up gc n (some q_17))))))), (q_17, .inr (6, [.ref rw_18, .int (nI 16)])), (rw_18, .inl (gyI G, 2, .inl kf_19))]) [0, 1, 2, 4, 7, 5, 6, 3] rfl
                have hD9 := hD.sub (ws' := [(ho, .inr (11, [.ref al, .ref hs, .ref ts, .ref pb, .null, .int lr])), (al, .inr (4, [.int mdh, .ref edh, .int (nI 1)])), (edh, .inl (gyO G, 10, .inr (.inr (.inr (.inr fa))))), (pz, .inr (8, [.ref gr, .ref mr, .ref cl, .ref so, .ref sh, .int (nI 0), .int (nI 0)])), (cl, .inr (4, [.int md2_23, .ref edc, .int (nI (n + 1))])), (edc, .inl (gyO G, 10, .inr (.inr (.inr (.inr (va_up gc n (some q_17))))))), (q_17, .inr (6, [.ref rw_18, .int (nI 16)])), (rw_18, .inl (gyI G, 2, .inl kf_19))]) [0, 1, 2, 4, 7, 5, 6, 3] (by decide) rfl
                refine W.widen (k := 3) (n := 14) (Nat.le_of_ble_eq_true rfl) (Nat.le_of_ble_eq_true rfl) ?_
                subst hQ
                exact W.iret (v := nI (n + 1)) hx hb hr (fun t ht hW => ⟨⟨nI (n + 1), (md2_23, q_17, rw_18, kf_19), rfl, ⟨rfl, hkf_22⟩, by rw [ht]; exact hP9, hD9⟩, hS.F ht⟩) hS.2.2 dX6_addCage_109
              · skip
                have c_16 : ¬ n < 6 := fun z => c_16 ((nI_ltI (a := n) (b := 6) (by omega) (by omega)).mpr z)
                exfalso; omega
            · skip
              have c_13 : ¬ 2 ≤ 4 := fun z => c_13 ((nI_leI (a := 2) (b := 4) (by omega) (by omega)).mpr z)
              exact absurd c_13 (by decide)
    · skip
      have c_5 : ¬ 16 ≤ 16 := fun z => c_5 ((nI_leI (a := 16) (b := 16) (by omega) (by omega)).mpr z)
      exact absurd c_5 (by decide)
