theorem q34 : (Jvm.Cond.selects "PegboardryModel" ({ cls := "PegboardryModel", name := "isWrong", desc := "(I)Z" } : Jvm.MethodName) ({ cls := "PegboardryModel", name := "isWrong", desc := "(I)Z" } : Jvm.MethodName)) ∈ WW := inW 34 (by decide +kernel) rfl
theorem q36 : (Jvm.Cond.selects "PegboardryModel" ({ cls := "PegboardryModel", name := "isPuzzle", desc := "(I)Z" } : Jvm.MethodName) ({ cls := "PegboardryModel", name := "isPuzzle", desc := "(I)Z" } : Jvm.MethodName)) ∈ WW := inW 36 (by decide +kernel) rfl
theorem q924 : (Jvm.Cond.methodLink "PegboardryModel" (1 : Nat) ({ cls := "java/lang/Object", name := "<init>", desc := "()V" } : Jvm.MethodName)) ∈ WW := inW 924 (by decide +kernel) rfl
theorem q925 : (Jvm.Cond.classLink "PegboardryModel" (7 : Nat) "java/util/ArrayList") ∈ WW := inW 925 (by decide +kernel) rfl
theorem q926 : (Jvm.Cond.methodLink "PegboardryModel" (9 : Nat) ({ cls := "java/util/ArrayList", name := "<init>", desc := "()V" } : Jvm.MethodName)) ∈ WW := inW 926 (by decide +kernel) rfl
theorem q927 : (Jvm.Cond.fieldLink "PegboardryModel" (20 : Nat) "PegboardryModel" "thrown" "I") ∈ WW := inW 927 (by decide +kernel) rfl
theorem q928 : (Jvm.Cond.fieldLink "PegboardryModel" (10 : Nat) "PegboardryModel" "puzzles" "Ljava/util/List;") ∈ WW := inW 928 (by decide +kernel) rfl
theorem q931 : (Jvm.Cond.fieldLink "PegboardryModel" (16 : Nat) "PegboardryModel" "proof" "[I") ∈ WW := inW 931 (by decide +kernel) rfl
theorem q955 : (Jvm.Cond.methodLink "PegboardryModel" (28 : Nat) ({ cls := "java/util/List", name := "size", desc := "()I" } : Jvm.MethodName)) ∈ WW := inW 955 (by decide +kernel) rfl
theorem q959 : (Jvm.Cond.selects "java/util/ArrayList" ({ cls := "java/util/List", name := "size", desc := "()I" } : Jvm.MethodName) ({ cls := "java/util/ArrayList", name := "size", desc := "()I" } : Jvm.MethodName)) ∈ WW := inW 959 (by decide +kernel) rfl
theorem q962 : (Jvm.Cond.methodLink "PegboardryModel" (38 : Nat) ({ cls := "PegboardryModel", name := "isWrong", desc := "(I)Z" } : Jvm.MethodName)) ∈ WW := inW 962 (by decide +kernel) rfl
theorem q964 : (Jvm.Cond.instanceMethod ({ cls := "PegboardryModel", name := "isWrong", desc := "(I)Z" } : Jvm.MethodName)) ∈ WW := inW 964 (by decide +kernel) rfl
theorem q965 : (Jvm.Cond.code ({ cls := "PegboardryModel", name := "isWrong", desc := "(I)Z" } : Jvm.MethodName) prog_9_method_3_code (2 : Nat) (Option.some Jvm.ClassFile.FieldType.boolean)) ∈ WW := inW 965 (by decide +kernel) rfl
theorem q966 : (Jvm.Cond.classLink "PegboardryModel" (50 : Nat) "PegboardryModel$Puzzle") ∈ WW := inW 966 (by decide +kernel) rfl
theorem q967 : (Jvm.Cond.instantiable "PegboardryModel$Puzzle" (3 : Nat)) ∈ WW := inW 967 (by decide +kernel) rfl
theorem nq968 : (Jvm.Cond.methodLinkNest "PegboardryModel" (55 : Nat) ({ cls := "PegboardryModel$Puzzle", name := "<init>", desc := "()V" } : Jvm.MethodName) "PegboardryModel") ∈ NWs := inN 968 (by decide +kernel) rfl
theorem q969 : (Jvm.Cond.instanceMethod ({ cls := "PegboardryModel$Puzzle", name := "<init>", desc := "()V" } : Jvm.MethodName)) ∈ WW := inW 969 (by decide +kernel) rfl
theorem q970 : (Jvm.Cond.code ({ cls := "PegboardryModel$Puzzle", name := "<init>", desc := "()V" } : Jvm.MethodName) prog_11_method_1_code (1 : Nat) (Option.none : Option Jvm.ClassFile.FieldType)) ∈ WW := inW 970 (by decide +kernel) rfl
theorem q971 : (Jvm.Cond.methodLink "PegboardryModel$Puzzle" (3 : Nat) ({ cls := "java/lang/Object", name := "<init>", desc := "()V" } : Jvm.MethodName)) ∈ WW := inW 971 (by decide +kernel) rfl
theorem q972 : (Jvm.Cond.classLink "PegboardryModel$Puzzle" (18 : Nat) "java/util/ArrayList") ∈ WW := inW 972 (by decide +kernel) rfl
theorem q973 : (Jvm.Cond.methodLink "PegboardryModel$Puzzle" (20 : Nat) ({ cls := "java/util/ArrayList", name := "<init>", desc := "()V" } : Jvm.MethodName)) ∈ WW := inW 973 (by decide +kernel) rfl
theorem q976 : (Jvm.Cond.fieldLink "PegboardryModel$Puzzle" (15 : Nat) "PegboardryModel$Puzzle" "marks" "[I") ∈ WW := inW 976 (by decide +kernel) rfl
theorem nq979 : (Jvm.Cond.fieldLinkNest "PegboardryModel" (74 : Nat) "PegboardryModel$Puzzle" "cages" "Ljava/util/List;" "PegboardryModel") ∈ NWs := inN 979 (by decide +kernel) rfl
theorem q988 : (Jvm.Cond.methodLink "PegboardryModel" (56 : Nat) ({ cls := "java/util/List", name := "add", desc := "(Ljava/lang/Object;)Z" } : Jvm.MethodName)) ∈ WW := inW 988 (by decide +kernel) rfl
theorem q1002 : (Jvm.Cond.methodLink "PegboardryModel" (34 : Nat) ({ cls := "PegboardryModel", name := "isPuzzle", desc := "(I)Z" } : Jvm.MethodName)) ∈ WW := inW 1002 (by decide +kernel) rfl
theorem q1004 : (Jvm.Cond.instanceMethod ({ cls := "PegboardryModel", name := "isPuzzle", desc := "(I)Z" } : Jvm.MethodName)) ∈ WW := inW 1004 (by decide +kernel) rfl
theorem q1005 : (Jvm.Cond.code ({ cls := "PegboardryModel", name := "isPuzzle", desc := "(I)Z" } : Jvm.MethodName) prog_9_method_8_code (2 : Nat) (Option.some Jvm.ClassFile.FieldType.boolean)) ∈ WW := inW 1005 (by decide +kernel) rfl
theorem q1006 : (Jvm.Cond.methodLink "PegboardryModel" (24 : Nat) ({ cls := "PegboardryModel", name := "isBetween", desc := "(III)Z" } : Jvm.MethodName)) ∈ WW := inW 1006 (by decide +kernel) rfl
theorem q1007 : (Jvm.Cond.static ({ cls := "PegboardryModel", name := "isBetween", desc := "(III)Z" } : Jvm.MethodName)) ∈ WW := inW 1007 (by decide +kernel) rfl
theorem q1008 : (Jvm.Cond.code ({ cls := "PegboardryModel", name := "isBetween", desc := "(III)Z" } : Jvm.MethodName) prog_9_method_4_code (3 : Nat) (Option.some Jvm.ClassFile.FieldType.boolean)) ∈ WW := inW 1008 (by decide +kernel) rfl
theorem q1013 : (Jvm.Cond.methodLink "PegboardryModel" (46 : Nat) ({ cls := "java/util/List", name := "get", desc := "(I)Ljava/lang/Object;" } : Jvm.MethodName)) ∈ WW := inW 1013 (by decide +kernel) rfl
theorem q1016 : (Jvm.Cond.selects "java/util/ArrayList" ({ cls := "java/util/List", name := "get", desc := "(I)Ljava/lang/Object;" } : Jvm.MethodName) ({ cls := "java/util/ArrayList", name := "get", desc := "(I)Ljava/lang/Object;" } : Jvm.MethodName)) ∈ WW := inW 1016 (by decide +kernel) rfl
theorem q1023 : (Jvm.Cond.constant "PegboardryModel" (67 : Nat) (65535 : Int32)) ∈ WW := inW 1023 (by decide +kernel) rfl
theorem q1024 : (Jvm.Cond.methodLink "PegboardryModel" (68 : Nat) ({ cls := "java/lang/Integer", name := "bitCount", desc := "(I)I" } : Jvm.MethodName)) ∈ WW := inW 1024 (by decide +kernel) rfl
theorem q1025 : (Jvm.Cond.classLink "PegboardryModel" (77 : Nat) "PegboardryModel$Cage") ∈ WW := inW 1025 (by decide +kernel) rfl
theorem q1026 : (Jvm.Cond.instantiable "PegboardryModel$Cage" (2 : Nat)) ∈ WW := inW 1026 (by decide +kernel) rfl
theorem q1027 : (Jvm.Cond.methodLink "PegboardryModel" (79 : Nat) ({ cls := "PegboardryModel$Cage", name := "<init>", desc := "(II)V" } : Jvm.MethodName)) ∈ WW := inW 1027 (by decide +kernel) rfl
theorem q1028 : (Jvm.Cond.instanceMethod ({ cls := "PegboardryModel$Cage", name := "<init>", desc := "(II)V" } : Jvm.MethodName)) ∈ WW := inW 1028 (by decide +kernel) rfl
theorem q1029 : (Jvm.Cond.code ({ cls := "PegboardryModel$Cage", name := "<init>", desc := "(II)V" } : Jvm.MethodName) prog_10_method_1_code (3 : Nat) (Option.none : Option Jvm.ClassFile.FieldType)) ∈ WW := inW 1029 (by decide +kernel) rfl
theorem q1030 : (Jvm.Cond.methodLink "PegboardryModel$Cage" (3 : Nat) ({ cls := "java/lang/Object", name := "<init>", desc := "()V" } : Jvm.MethodName)) ∈ WW := inW 1030 (by decide +kernel) rfl
theorem q1032 : (Jvm.Cond.fieldLink "PegboardryModel$Cage" (15 : Nat) "PegboardryModel$Cage" "sum" "I") ∈ WW := inW 1032 (by decide +kernel) rfl
theorem nq1387 : (Jvm.Cond.castable "PegboardryModel$Puzzle" "java/lang/Object") ∈ NWs := inN 1387 (by decide +kernel) rfl
theorem nq1393 : (Jvm.Cond.castable "PegboardryModel$Cage" "java/lang/Object") ∈ NWs := inN 1393 (by decide +kernel) rfl
theorem dX10_thrown_0 : decode cX10_thrown 0 = .ok (.aload_n 0, 1) := by decide +kernel
theorem dX10_thrown_1 : decode cX10_thrown 1 = .ok (.getfield 20, 3) := by decide +kernel
theorem dX10_thrown_4 : decode cX10_thrown 4 = .ok (.ireturn, 1) := by decide +kernel
theorem dX10_isWrong_0 : decode cX10_isWrong 0 = .ok (.aload_n 0, 1) := by decide +kernel
theorem dX10_isWrong_1 : decode cX10_isWrong 1 = .ok (.iload_n 1, 1) := by decide +kernel
theorem dX10_isWrong_2 : decode cX10_isWrong 2 = .ok (.putfield 20, 3) := by decide +kernel
theorem dX10_isWrong_5 : decode cX10_isWrong 5 = .ok (.iload_n 1, 1) := by decide +kernel
theorem dX10_isWrong_6 : decode cX10_isWrong 6 = .ok (.ifCond .le 7, 3) := by decide +kernel
theorem dX10_isWrong_13 : decode cX10_isWrong 13 = .ok (.iconst 0, 1) := by decide +kernel
theorem dX10_isWrong_14 : decode cX10_isWrong 14 = .ok (.ireturn, 1) := by decide +kernel
theorem dX10_isBetween_0 : decode cX10_isBetween 0 = .ok (.iload_n 1, 1) := by decide +kernel
theorem dX10_isBetween_1 : decode cX10_isBetween 1 = .ok (.iload_n 0, 1) := by decide +kernel
theorem dX10_isBetween_2 : decode cX10_isBetween 2 = .ok (.if_icmp .gt 12, 3) := by decide +kernel
theorem dX10_isBetween_5 : decode cX10_isBetween 5 = .ok (.iload_n 0, 1) := by decide +kernel
theorem dX10_isBetween_6 : decode cX10_isBetween 6 = .ok (.iload_n 2, 1) := by decide +kernel
theorem dX10_isBetween_7 : decode cX10_isBetween 7 = .ok (.if_icmp .gt 7, 3) := by decide +kernel
theorem dX10_isBetween_10 : decode cX10_isBetween 10 = .ok (.iconst 1, 1) := by decide +kernel
theorem dX10_isBetween_11 : decode cX10_isBetween 11 = .ok (.goto 4, 3) := by decide +kernel
theorem dX10_isBetween_15 : decode cX10_isBetween 15 = .ok (.ireturn, 1) := by decide +kernel
theorem dX10_isPuzzle_0 : decode cX10_isPuzzle 0 = .ok (.iload_n 1, 1) := by decide +kernel
theorem dX10_isPuzzle_1 : decode cX10_isPuzzle 1 = .ok (.iconst 0, 1) := by decide +kernel
theorem dX10_isPuzzle_2 : decode cX10_isPuzzle 2 = .ok (.aload_n 0, 1) := by decide +kernel
theorem dX10_isPuzzle_3 : decode cX10_isPuzzle 3 = .ok (.getfield 10, 3) := by decide +kernel
theorem dX10_isPuzzle_6 : decode cX10_isPuzzle 6 = .ok (.invokeinterface 28 1, 5) := by decide +kernel
theorem dX10_isPuzzle_11 : decode cX10_isPuzzle 11 = .ok (.iconst 1, 1) := by decide +kernel
theorem dX10_isPuzzle_12 : decode cX10_isPuzzle 12 = .ok (.isub, 1) := by decide +kernel
theorem dX10_isPuzzle_13 : decode cX10_isPuzzle 13 = .ok (.invokestatic 24, 3) := by decide +kernel
theorem dX10_isPuzzle_16 : decode cX10_isPuzzle 16 = .ok (.ireturn, 1) := by decide +kernel
theorem dX10_init_0 : decode cX10_init 0 = .ok (.aload_n 0, 1) := by decide +kernel
theorem dX10_init_1 : decode cX10_init 1 = .ok (.invokespecial 1, 3) := by decide +kernel
theorem dX10_init_4 : decode cX10_init 4 = .ok (.aload_n 0, 1) := by decide +kernel
theorem dX10_init_5 : decode cX10_init 5 = .ok (.new 7, 3) := by decide +kernel
theorem dX10_init_8 : decode cX10_init 8 = .ok (.dup, 1) := by decide +kernel
theorem dX10_init_9 : decode cX10_init 9 = .ok (.invokespecial 9, 3) := by decide +kernel
theorem dX10_init_12 : decode cX10_init 12 = .ok (.putfield 10, 3) := by decide +kernel
theorem dX10_init_15 : decode cX10_init 15 = .ok (.aload_n 0, 1) := by decide +kernel
theorem dX10_init_16 : decode cX10_init 16 = .ok (.bipush 16, 2) := by decide +kernel
theorem dX10_init_18 : decode cX10_init 18 = .ok (.newarray .int, 2) := by decide +kernel
theorem dX10_init_20 : decode cX10_init 20 = .ok (.putfield 16, 3) := by decide +kernel
theorem dX10_init_23 : decode cX10_init 23 = .ok (.return_, 1) := by decide +kernel
theorem dX8_init_0 : decode cX8_init 0 = .ok (.aload_n 0, 1) := by decide +kernel
theorem dX8_init_1 : decode cX8_init 1 = .ok (.invokespecial 3, 3) := by decide +kernel
theorem dX8_init_4 : decode cX8_init 4 = .ok (.aload_n 0, 1) := by decide +kernel
theorem dX8_init_5 : decode cX8_init 5 = .ok (.bipush 16, 2) := by decide +kernel
theorem dX8_init_7 : decode cX8_init 7 = .ok (.newarray .int, 2) := by decide +kernel
theorem dX8_init_9 : decode cX8_init 9 = .ok (.putfield 9, 3) := by decide +kernel
theorem dX8_init_12 : decode cX8_init 12 = .ok (.aload_n 0, 1) := by decide +kernel
theorem dX8_init_13 : decode cX8_init 13 = .ok (.bipush 16, 2) := by decide +kernel
theorem dX8_init_15 : decode cX8_init 15 = .ok (.newarray .int, 2) := by decide +kernel
theorem dX8_init_17 : decode cX8_init 17 = .ok (.putfield 15, 3) := by decide +kernel
theorem dX8_init_20 : decode cX8_init 20 = .ok (.aload_n 0, 1) := by decide +kernel
theorem dX8_init_21 : decode cX8_init 21 = .ok (.new 18, 3) := by decide +kernel
theorem dX8_init_24 : decode cX8_init 24 = .ok (.dup, 1) := by decide +kernel
theorem dX8_init_25 : decode cX8_init 25 = .ok (.invokespecial 20, 3) := by decide +kernel
theorem dX8_init_28 : decode cX8_init 28 = .ok (.putfield 21, 3) := by decide +kernel
theorem dX8_init_31 : decode cX8_init 31 = .ok (.return_, 1) := by decide +kernel
theorem dX10_puzzle_0 : decode cX10_puzzle 0 = .ok (.aload_n 0, 1) := by decide +kernel
theorem dX10_puzzle_1 : decode cX10_puzzle 1 = .ok (.aload_n 0, 1) := by decide +kernel
theorem dX10_puzzle_2 : decode cX10_puzzle 2 = .ok (.getfield 10, 3) := by decide +kernel
theorem dX10_puzzle_5 : decode cX10_puzzle 5 = .ok (.invokeinterface 28 1, 5) := by decide +kernel
theorem dX10_puzzle_10 : decode cX10_puzzle 10 = .ok (.bipush 8, 2) := by decide +kernel
theorem dX10_puzzle_12 : decode cX10_puzzle 12 = .ok (.if_icmp .ne 7, 3) := by decide +kernel
theorem dX10_puzzle_19 : decode cX10_puzzle 19 = .ok (.iconst 0, 1) := by decide +kernel
theorem dX10_puzzle_20 : decode cX10_puzzle 20 = .ok (.invokevirtual 38, 3) := by decide +kernel
theorem dX10_puzzle_23 : decode cX10_puzzle 23 = .ok (.ifCond .eq 5, 3) := by decide +kernel
theorem dX10_puzzle_28 : decode cX10_puzzle 28 = .ok (.aload_n 0, 1) := by decide +kernel
theorem dX10_puzzle_29 : decode cX10_puzzle 29 = .ok (.getfield 10, 3) := by decide +kernel
theorem dX10_puzzle_32 : decode cX10_puzzle 32 = .ok (.new 50, 3) := by decide +kernel
theorem dX10_puzzle_35 : decode cX10_puzzle 35 = .ok (.dup, 1) := by decide +kernel
theorem dX10_puzzle_36 : decode cX10_puzzle 36 = .ok (.invokespecial 55, 3) := by decide +kernel
theorem dX10_puzzle_39 : decode cX10_puzzle 39 = .ok (.invokeinterface 56 2, 5) := by decide +kernel
theorem dX10_puzzle_44 : decode cX10_puzzle 44 = .ok (.pop, 1) := by decide +kernel
theorem dX10_puzzle_45 : decode cX10_puzzle 45 = .ok (.aload_n 0, 1) := by decide +kernel
theorem dX10_puzzle_46 : decode cX10_puzzle 46 = .ok (.getfield 10, 3) := by decide +kernel
theorem dX10_puzzle_49 : decode cX10_puzzle 49 = .ok (.invokeinterface 28 1, 5) := by decide +kernel
theorem dX10_puzzle_54 : decode cX10_puzzle 54 = .ok (.iconst 1, 1) := by decide +kernel
theorem dX10_puzzle_55 : decode cX10_puzzle 55 = .ok (.isub, 1) := by decide +kernel
theorem dX10_puzzle_56 : decode cX10_puzzle 56 = .ok (.ireturn, 1) := by decide +kernel
theorem dX7_init_0 : decode cX7_init 0 = .ok (.aload_n 0, 1) := by decide +kernel
theorem dX7_init_1 : decode cX7_init 1 = .ok (.invokespecial 3, 3) := by decide +kernel
theorem dX7_init_4 : decode cX7_init 4 = .ok (.aload_n 0, 1) := by decide +kernel
theorem dX7_init_5 : decode cX7_init 5 = .ok (.iload_n 1, 1) := by decide +kernel
theorem dX7_init_6 : decode cX7_init 6 = .ok (.putfield 9, 3) := by decide +kernel
theorem dX7_init_9 : decode cX7_init 9 = .ok (.aload_n 0, 1) := by decide +kernel
theorem dX7_init_10 : decode cX7_init 10 = .ok (.iload_n 2, 1) := by decide +kernel
theorem dX7_init_11 : decode cX7_init 11 = .ok (.putfield 15, 3) := by decide +kernel
theorem dX7_init_14 : decode cX7_init 14 = .ok (.return_, 1) := by decide +kernel
theorem dX10_addCage_0 : decode cX10_addCage 0 = .ok (.iload_n 3, 1) := by decide +kernel
theorem dX10_addCage_1 : decode cX10_addCage 1 = .ok (.iconst 2, 1) := by decide +kernel
theorem dX10_addCage_2 : decode cX10_addCage 2 = .ok (.bipush 16, 2) := by decide +kernel
theorem dX10_addCage_4 : decode cX10_addCage 4 = .ok (.invokestatic 24, 3) := by decide +kernel
theorem dX10_addCage_7 : decode cX10_addCage 7 = .ok (.ifCond .eq 29, 3) := by decide +kernel
theorem dX10_addCage_10 : decode cX10_addCage 10 = .ok (.iload_n 2, 1) := by decide +kernel
theorem dX10_addCage_11 : decode cX10_addCage 11 = .ok (.iconst 0, 1) := by decide +kernel
theorem dX10_addCage_12 : decode cX10_addCage 12 = .ok (.ldc 67, 2) := by decide +kernel
theorem dX10_addCage_14 : decode cX10_addCage 14 = .ok (.invokestatic 24, 3) := by decide +kernel
theorem dX10_addCage_17 : decode cX10_addCage 17 = .ok (.ifCond .eq 19, 3) := by decide +kernel
theorem dX10_addCage_20 : decode cX10_addCage 20 = .ok (.iload_n 2, 1) := by decide +kernel
theorem dX10_addCage_21 : decode cX10_addCage 21 = .ok (.invokestatic 68, 3) := by decide +kernel
theorem dX10_addCage_24 : decode cX10_addCage 24 = .ok (.iconst 2, 1) := by decide +kernel
theorem dX10_addCage_25 : decode cX10_addCage 25 = .ok (.iconst 4, 1) := by decide +kernel
theorem dX10_addCage_26 : decode cX10_addCage 26 = .ok (.invokestatic 24, 3) := by decide +kernel
theorem dX10_addCage_29 : decode cX10_addCage 29 = .ok (.ifCond .eq 7, 3) := by decide +kernel
theorem dX10_addCage_32 : decode cX10_addCage 32 = .ok (.iconst 1, 1) := by decide +kernel
theorem dX10_addCage_33 : decode cX10_addCage 33 = .ok (.goto 4, 3) := by decide +kernel
theorem dX10_addCage_37 : decode cX10_addCage 37 = .ok (.istore 4, 2) := by decide +kernel
theorem dX10_addCage_39 : decode cX10_addCage 39 = .ok (.aload_n 0, 1) := by decide +kernel
theorem dX10_addCage_40 : decode cX10_addCage 40 = .ok (.aload_n 0, 1) := by decide +kernel
theorem dX10_addCage_41 : decode cX10_addCage 41 = .ok (.iload_n 1, 1) := by decide +kernel
theorem dX10_addCage_42 : decode cX10_addCage 42 = .ok (.invokevirtual 34, 3) := by decide +kernel
theorem dX10_addCage_45 : decode cX10_addCage 45 = .ok (.ifCond .ne 7, 3) := by decide +kernel
theorem dX10_addCage_52 : decode cX10_addCage 52 = .ok (.iload 4, 2) := by decide +kernel
theorem dX10_addCage_54 : decode cX10_addCage 54 = .ok (.ifCond .ne 7, 3) := by decide +kernel
theorem dX10_addCage_61 : decode cX10_addCage 61 = .ok (.aload_n 0, 1) := by decide +kernel
theorem dX10_addCage_62 : decode cX10_addCage 62 = .ok (.getfield 10, 3) := by decide +kernel
theorem dX10_addCage_65 : decode cX10_addCage 65 = .ok (.iload_n 1, 1) := by decide +kernel
theorem dX10_addCage_66 : decode cX10_addCage 66 = .ok (.invokeinterface 46 2, 5) := by decide +kernel
theorem dX10_addCage_71 : decode cX10_addCage 71 = .ok (.checkcast 50, 3) := by decide +kernel
theorem dX10_addCage_74 : decode cX10_addCage 74 = .ok (.getfield 74, 3) := by decide +kernel
theorem dX10_addCage_77 : decode cX10_addCage 77 = .ok (.invokeinterface 28 1, 5) := by decide +kernel
theorem dX10_addCage_82 : decode cX10_addCage 82 = .ok (.bipush 6, 2) := by decide +kernel
theorem dX10_addCage_84 : decode cX10_addCage 84 = .ok (.if_icmp .ne 7, 3) := by decide +kernel
theorem dX10_addCage_91 : decode cX10_addCage 91 = .ok (.iconst 0, 1) := by decide +kernel
theorem dX10_addCage_92 : decode cX10_addCage 92 = .ok (.invokevirtual 38, 3) := by decide +kernel
theorem dX10_addCage_95 : decode cX10_addCage 95 = .ok (.ifCond .eq 5, 3) := by decide +kernel
theorem dX10_addCage_100 : decode cX10_addCage 100 = .ok (.aload_n 0, 1) := by decide +kernel
theorem dX10_addCage_101 : decode cX10_addCage 101 = .ok (.getfield 10, 3) := by decide +kernel
theorem dX10_addCage_104 : decode cX10_addCage 104 = .ok (.iload_n 1, 1) := by decide +kernel
theorem dX10_addCage_105 : decode cX10_addCage 105 = .ok (.invokeinterface 46 2, 5) := by decide +kernel
theorem dX10_addCage_110 : decode cX10_addCage 110 = .ok (.checkcast 50, 3) := by decide +kernel
theorem dX10_addCage_113 : decode cX10_addCage 113 = .ok (.getfield 74, 3) := by decide +kernel
theorem dX10_addCage_116 : decode cX10_addCage 116 = .ok (.new 77, 3) := by decide +kernel
theorem dX10_addCage_119 : decode cX10_addCage 119 = .ok (.dup, 1) := by decide +kernel
theorem dX10_addCage_120 : decode cX10_addCage 120 = .ok (.iload_n 2, 1) := by decide +kernel
theorem dX10_addCage_121 : decode cX10_addCage 121 = .ok (.iload_n 3, 1) := by decide +kernel
theorem dX10_addCage_122 : decode cX10_addCage 122 = .ok (.invokespecial 79, 3) := by decide +kernel
theorem dX10_addCage_125 : decode cX10_addCage 125 = .ok (.invokeinterface 56 2, 5) := by decide +kernel
theorem dX10_addCage_130 : decode cX10_addCage 130 = .ok (.pop, 1) := by decide +kernel
theorem dX10_addCage_131 : decode cX10_addCage 131 = .ok (.aload_n 0, 1) := by decide +kernel
theorem dX10_addCage_132 : decode cX10_addCage 132 = .ok (.getfield 10, 3) := by decide +kernel
theorem dX10_addCage_135 : decode cX10_addCage 135 = .ok (.iload_n 1, 1) := by decide +kernel
theorem dX10_addCage_136 : decode cX10_addCage 136 = .ok (.invokeinterface 46 2, 5) := by decide +kernel
theorem dX10_addCage_141 : decode cX10_addCage 141 = .ok (.checkcast 50, 3) := by decide +kernel
theorem dX10_addCage_144 : decode cX10_addCage 144 = .ok (.getfield 74, 3) := by decide +kernel
theorem dX10_addCage_147 : decode cX10_addCage 147 = .ok (.invokeinterface 28 1, 5) := by decide +kernel
theorem dX10_addCage_152 : decode cX10_addCage 152 = .ok (.ireturn, 1) := by decide +kernel
set_option maxHeartbeats 4000000 in
set_option maxRecDepth 100000 in
theorem c_X10_thrown (l : Launch) (G : GG) (mo : Nat) (tn : Nat) (al : Nat) (zn : Nat) (pf : Nat) (rs : Int32) : Mi l G yX10_thrown cX10_thrown 1 (some .int) ({ frames := 0, cells := 0, slots := 0, locals := 0 } : Room) [.ref mo] [(mo, .inr (15, [.int (nI tn), .ref al, .long (lN zn), .null, .ref pf, .int rs]))] (fun (r : Int32) (u : Unit) => r = nI tn) (fun (u : Unit) => [(mo, .inr (15, [.int (nI tn), .ref al, .long (lN zn), .null, .ref pf, .int rs]))]) := by
  intro sz
  refine Met.ofW (cc := cX10_thrown) (maxL := 1) (ret := (some .int)) (by decide) rfl ?_
  intro p e s m args below meth c s₁ B9 hml hv
  obtain ⟨rfl, hsz, hP, hK, hD0, hE⟩ := hv
  have hx := B9.exec
  have hb := B9.bytes
  have hr := B9.returns
  have hts : ∀ w ∈ WW, w.before ([.ref mo] : List Value).toArray s = true := fun w h => atoms_spec (ws := .code yX10_thrown cX10_thrown 1 (some .int) :: WW) B9.pre w (List.mem_cons_of_mem _ h)
  have hown : s.vm.findClass RX10 = some m.cls := findClass_of_methodNamed B9.named
  subst hsz
  have hD := hD0.self (sz := s.heap.size)
  generalize hAe : va_A [(mo, .inr (15, [.int (nI tn), .ref al, .long (lN zn), .null, .ref pf, .int rs]))] s.heap.size = A at hD hE ⊢
  have hA : ∀ q : Nat, s.heap.size ≤ q → A q := fun q h => by rw [← hAe]; exact Or.inr h
  have hl := lv_entry ([.ref mo]) (n := 1) (Nat.le_of_ble_eq_true rfl)
  rw [lg_entry_eq]
  generalize (lg_sl ([.ref mo]) ++ List.replicate (1 - (lg_sl ([.ref mo])).length) Slot.unset).toArray = ls at hl ⊢
  have hl : lv_has ls 1 [(0, .ref mo)] := hl
  refine qgen (fun Q hQ => ?_)
  refine hgen (fun H locs hP hD hS => ?_) hP hD
  refine lv_aload_n hx hb dX10_thrown_0 rfl (lv_at hl 0 rfl) ?_
  refine va_get (D := gD G) (ci := 15) (v := .int (nI tn)) (C := RX10) (T := TX10) (N := 6) hx hb hts fwX10 hown hK hP 0 rfl rfl 0 (by decide) (hts _ q927) (fun _ h9 => h9) rfl dX10_thrown_1 ?_
  have hP9 := hP.sub (ws' := [(mo, .inr (15, [.int (nI tn), .ref al, .long (lN zn), .null, .ref pf, .int rs]))]) [0] rfl
  have hD9 := hD.sub (ws' := [(mo, .inr (15, [.int (nI tn), .ref al, .long (lN zn), .null, .ref pf, .int rs]))]) [0] (by decide) rfl
  subst hQ
  exact W.iret (v := nI tn) hx hb hr (fun t ht hW => ⟨⟨nI tn, (), rfl, rfl, by rw [ht]; exact hP9, hD9⟩, hS.F ht⟩) hS.2.2 dX10_thrown_4
set_option maxHeartbeats 4000000 in
set_option maxRecDepth 100000 in
theorem c_isWrong_0 (l : Launch) (G : GG) (mo : Nat) (th : Int32) (al : Nat) (zn : Nat) (pf : Nat) (rs : Int32) : Mi l G yX10_isWrong cX10_isWrong 2 (some .boolean) ({ frames := 0, cells := 0, slots := 0, locals := 0 } : Room) [.ref mo, .int (nI 0)] [(mo, .inr (15, [.int th, .ref al, .long (lN zn), .null, .ref pf, .int rs]))] (fun (r : Int32) (u : Unit) => r = nI 0) (fun (u : Unit) => [(mo, .inr (15, [.int (nI 0), .ref al, .long (lN zn), .null, .ref pf, .int rs]))]) := by
  intro sz
  refine Met.ofW (cc := cX10_isWrong) (maxL := 2) (ret := (some .boolean)) (by decide) rfl ?_
  intro p e s m args below meth c s₁ B9 hml hv
  obtain ⟨rfl, hsz, hP, hK, hD0, hE⟩ := hv
  have hx := B9.exec
  have hb := B9.bytes
  have hr := B9.returns
  have hts : ∀ w ∈ WW, w.before ([.ref mo, .int (nI 0)] : List Value).toArray s = true := fun w h => atoms_spec (ws := .code yX10_isWrong cX10_isWrong 2 (some .boolean) :: WW) B9.pre w (List.mem_cons_of_mem _ h)
  have hown : s.vm.findClass RX10 = some m.cls := findClass_of_methodNamed B9.named
  subst hsz
  have hD := hD0.self (sz := s.heap.size)
  generalize hAe : va_A [(mo, .inr (15, [.int th, .ref al, .long (lN zn), .null, .ref pf, .int rs]))] s.heap.size = A at hD hE ⊢
  have hA : ∀ q : Nat, s.heap.size ≤ q → A q := fun q h => by rw [← hAe]; exact Or.inr h
  have hl := lv_entry ([.ref mo, .int (nI 0)]) (n := 2) (Nat.le_of_ble_eq_true rfl)
  rw [lg_entry_eq]
  generalize (lg_sl ([.ref mo, .int (nI 0)]) ++ List.replicate (2 - (lg_sl ([.ref mo, .int (nI 0)])).length) Slot.unset).toArray = ls at hl ⊢
  have hl : lv_has ls 2 [(0, .ref mo), (1, .int (nI 0))] := hl
  refine qgen (fun Q hQ => ?_)
  refine hgen (fun H locs hP hD hS => ?_) hP hD
  refine lv_aload_n hx hb dX10_isWrong_0 rfl (lv_at hl 0 rfl) ?_
  refine lv_iload_n hx hb dX10_isWrong_1 rfl (lv_at hl 1 rfl) ?_
  refine va_put (D := gD G) (ci := 15) (v := .int (nI 0)) (ty := .int) (C := RX10) (T := TX10) (N := 6) hx hb hts fwX10 tyX10 tyX10_ok nmX10 hown hK hP hD hS 0 rfl rfl 0 (by decide) (hts _ q927) (fun _ h9 => h9) rfl (by decide +kernel) rfl rfl (Nat.le_of_ble_eq_true rfl) dX10_isWrong_2 (fun H locs hP hD hS => ?_)
  have hP : va_P (gD G) vwCl [(mo, .inr (15, [.int (nI 0), .ref al, .long (lN zn), .null, .ref pf, .int rs]))] H := hP
  have hD : va_D A [(mo, .inr (15, [.int (nI 0), .ref al, .long (lN zn), .null, .ref pf, .int rs]))] := hD
  refine lv_iload_n hx hb dX10_isWrong_5 rfl (lv_at hl 1 rfl) ?_
  refine lv_if_le (tgt := 13) hx hb dX10_isWrong_6 (by decide) (fun c_1 => ?_) (fun c_1 => ?_)
  · skip
    have c_1 : 0 ≤ 0 := (nI_leI (a := 0) (b := 0) (by omega) (by omega)).mp c_1
    refine lv_iconst (v := nI 0) hx hb dX10_isWrong_13 (by decide) ?_
    have hP9 := hP.sub (ws' := [(mo, .inr (15, [.int (nI 0), .ref al, .long (lN zn), .null, .ref pf, .int rs]))]) [0] rfl
    have hD9 := hD.sub (ws' := [(mo, .inr (15, [.int (nI 0), .ref al, .long (lN zn), .null, .ref pf, .int rs]))]) [0] (by decide) rfl
    subst hQ
    exact W.zret (v := nI 0) hx hb hr (by decide) (fun t ht hW => ⟨⟨nI 0, (), rfl, rfl, by rw [ht]; exact hP9, hD9⟩, hS.F ht⟩) hS.2.2 dX10_isWrong_14
  · skip
    have c_1 : ¬ 0 ≤ 0 := fun z => c_1 ((nI_leI (a := 0) (b := 0) (by omega) (by omega)).mpr z)
    exact absurd c_1 (by decide)
set_option maxHeartbeats 4000000 in
set_option maxRecDepth 100000 in
theorem c_isBetween_ok (l : Launch) (G : GG) (v : Nat) (lo : Nat) (hi : Nat) (h1 : lo ≤ v) (h2 : v ≤ hi) (h3 : hi < 65536) : Mi l G yX10_isBetween cX10_isBetween 3 (some .boolean) ({ frames := 0, cells := 0, slots := 0, locals := 0 } : Room) [.int (nI v), .int (nI lo), .int (nI hi)] [] (fun (r : Int32) (u : Unit) => r = nI 1) (fun (u : Unit) => []) := by
  intro sz
  refine Met.ofW (cc := cX10_isBetween) (maxL := 3) (ret := (some .boolean)) (by decide) rfl ?_
  intro p e s m args below meth c s₁ B9 hml hv
  obtain ⟨rfl, hsz, hP, hK, hD0, hE⟩ := hv
  have hx := B9.exec
  have hb := B9.bytes
  have hr := B9.returns
  have hts : ∀ w ∈ WW, w.before ([.int (nI v), .int (nI lo), .int (nI hi)] : List Value).toArray s = true := fun w h => atoms_spec (ws := .code yX10_isBetween cX10_isBetween 3 (some .boolean) :: WW) B9.pre w (List.mem_cons_of_mem _ h)
  have hown : s.vm.findClass RX10 = some m.cls := findClass_of_methodNamed B9.named
  subst hsz
  have hD := hD0.self (sz := s.heap.size)
  generalize hAe : va_A [] s.heap.size = A at hD hE ⊢
  have hA : ∀ q : Nat, s.heap.size ≤ q → A q := fun q h => by rw [← hAe]; exact Or.inr h
  have hl := lv_entry ([.int (nI v), .int (nI lo), .int (nI hi)]) (n := 3) (Nat.le_of_ble_eq_true rfl)
  rw [lg_entry_eq]
  generalize (lg_sl ([.int (nI v), .int (nI lo), .int (nI hi)]) ++ List.replicate (3 - (lg_sl ([.int (nI v), .int (nI lo), .int (nI hi)])).length) Slot.unset).toArray = ls at hl ⊢
  have hl : lv_has ls 3 [(0, .int (nI v)), (1, .int (nI lo)), (2, .int (nI hi))] := hl
  refine qgen (fun Q hQ => ?_)
  refine hgen (fun H locs hP hD hS => ?_) hP hD
  refine lv_iload_n hx hb dX10_isBetween_0 rfl (lv_at hl 1 rfl) ?_
  refine lv_iload_n hx hb dX10_isBetween_1 rfl (lv_at hl 0 rfl) ?_
  refine lv_icmp_gt (tgt := 14) hx hb dX10_isBetween_2 (by decide) (fun c_1 => ?_) (fun c_1 => ?_)
  · skip
    have c_1 : v < lo := (nI_ltI (a := v) (b := lo) (by omega) (by omega)).mp c_1
    exfalso; omega
  · skip
    have c_1 : ¬ v < lo := fun z => c_1 ((nI_ltI (a := v) (b := lo) (by omega) (by omega)).mpr z)
    refine lv_iload_n hx hb dX10_isBetween_5 rfl (lv_at hl 0 rfl) ?_
    refine lv_iload_n hx hb dX10_isBetween_6 rfl (lv_at hl 2 rfl) ?_
    refine lv_icmp_gt (tgt := 14) hx hb dX10_isBetween_7 (by decide) (fun c_2 => ?_) (fun c_2 => ?_)
    · skip
      have c_2 : hi < v := (nI_ltI (a := hi) (b := v) (by omega) (by omega)).mp c_2
      exfalso; omega
    · skip
      have c_2 : ¬ hi < v := fun z => c_2 ((nI_ltI (a := hi) (b := v) (by omega) (by omega)).mpr z)
      refine lv_iconst (v := nI 1) hx hb dX10_isBetween_10 (by decide) ?_
      refine lv_goto (tgt := 15) hx hb dX10_isBetween_11 (by decide) ?_
      have hP9 := hP.sub (ws' := []) [] rfl
      have hD9 := hD.sub (ws' := []) [] (by decide) rfl
      subst hQ
      exact W.zret (v := nI 1) hx hb hr (by decide) (fun t ht hW => ⟨⟨nI 1, (), rfl, rfl, by rw [ht]; exact hP9, hD9⟩, hS.F ht⟩) hS.2.2 dX10_isBetween_15
set_option maxHeartbeats 4000000 in
set_option maxRecDepth 100000 in
theorem c_X10_isPuzzle (l : Launch) (G : GG) (mo : Nat) (th : Int32) (al : Nat) (zn : Nat) (pf : Nat) (rs : Int32) (mdh : Int32) (edh : Nat) : Mi l G yX10_isPuzzle cX10_isPuzzle 2 (some .boolean) ({ frames := 1, cells := 0, slots := 0, locals := 22 } : Room) [.ref mo, .int (nI 0)] [(mo, .inr (15, [.int th, .ref al, .long (lN zn), .null, .ref pf, .int rs])), (al, .inr (4, [.int mdh, .ref edh, .int (nI 1)]))] (fun (r : Int32) (u : Unit) => r = nI 1) (fun (u : Unit) => [(mo, .inr (15, [.int th, .ref al, .long (lN zn), .null, .ref pf, .int rs])), (al, .inr (4, [.int mdh, .ref edh, .int (nI 1)]))]) := by
  intro sz
  refine Met.ofW (cc := cX10_isPuzzle) (maxL := 2) (ret := (some .boolean)) (by decide) rfl ?_
  intro p e s m args below meth c s₁ B9 hml hv
  obtain ⟨rfl, hsz, hP, hK, hD0, hE⟩ := hv
  have hx := B9.exec
  have hb := B9.bytes
  have hr := B9.returns
  have hts : ∀ w ∈ WW, w.before ([.ref mo, .int (nI 0)] : List Value).toArray s = true := fun w h => atoms_spec (ws := .code yX10_isPuzzle cX10_isPuzzle 2 (some .boolean) :: WW) B9.pre w (List.mem_cons_of_mem _ h)
  have hown : s.vm.findClass RX10 = some m.cls := findClass_of_methodNamed B9.named
  subst hsz
  have hD := hD0.self (sz := s.heap.size)
  generalize hAe : va_A [(mo, .inr (15, [.int th, .ref al, .long (lN zn), .null, .ref pf, .int rs])), (al, .inr (4, [.int mdh, .ref edh, .int (nI 1)]))] s.heap.size = A at hD hE ⊢
  have hA : ∀ q : Nat, s.heap.size ≤ q → A q := fun q h => by rw [← hAe]; exact Or.inr h
  have hl := lv_entry ([.ref mo, .int (nI 0)]) (n := 2) (Nat.le_of_ble_eq_true rfl)
  rw [lg_entry_eq]
  generalize (lg_sl ([.ref mo, .int (nI 0)]) ++ List.replicate (2 - (lg_sl ([.ref mo, .int (nI 0)])).length) Slot.unset).toArray = ls at hl ⊢
  have hl : lv_has ls 2 [(0, .ref mo), (1, .int (nI 0))] := hl
  refine qgen (fun Q hQ => ?_)
  refine hgen (fun H locs hP hD hS => ?_) hP hD
  refine lv_iload_n hx hb dX10_isPuzzle_0 rfl (lv_at hl 1 rfl) ?_
  refine lv_iconst (v := nI 0) hx hb dX10_isPuzzle_1 (by decide) ?_
  refine lv_aload_n hx hb dX10_isPuzzle_2 rfl (lv_at hl 0 rfl) ?_
  refine va_get (D := gD G) (ci := 15) (v := .ref al) (C := RX10) (T := TX10) (N := 6) hx hb hts fwX10 hown hK hP 0 rfl rfl 1 (by decide) (hts _ q928) (fun _ h9 => h9) rfl dX10_isPuzzle_3 ?_
  refine fin_i5 hP hD hS hA [1] [0] (wr := [(mo, .inr (15, [.int th, .ref al, .long (lN zn), .null, .ref pf, .int rs]))]) rfl rfl (by decide) (by decide) (va_runF (As := []) (rest := [.int (nI 0), .int (nI 0)]) (hK.1 4 _ rfl).2 ⟨hx, hb, hml, hown, hts⟩ (c_Jx4a65c_size_8abf5 l G al mdh edh 1 H.size) (va_cwF 0 hts (gF q955 q959 q209 q48 q211) rfl rfl rfl (hE.1.2.1 _ FW0) (by decide +kernel) ⟨Nat.le_of_ble_eq_true rfl, Nat.le_of_ble_eq_true rfl⟩) (preV (q0 := 1) (ci := 4) hK hE hP hD hS hA [1] rfl (by decide) rfl rfl) rfl rfl hl.1 rfl (lv_room (Nat.le_of_ble_eq_true rfl)) dX10_isPuzzle_6 ⟨Nat.le_of_ble_eq_true rfl, Nat.le_of_ble_eq_true rfl⟩) (fun r_2 u9 hw_1 H locs hP hD hS => ?_)
  subst hw_1
  have hP : va_P (gD G) vwCl [(mo, .inr (15, [.int th, .ref al, .long (lN zn), .null, .ref pf, .int rs])), (al, .inr (4, [.int mdh, .ref edh, .int (nI 1)]))] H := hP
  have hD : va_D A [(mo, .inr (15, [.int th, .ref al, .long (lN zn), .null, .ref pf, .int rs])), (al, .inr (4, [.int mdh, .ref edh, .int (nI 1)]))] := hD
  refine lv_iconst (v := nI 1) hx hb dX10_isPuzzle_11 (by decide) ?_
  refine lv_isub hx hb dX10_isPuzzle_12 ?_
  refine lv_toe (show _ = nI 0 by decide) ?_
  refine fin_i hP hD hS hA [] [0, 1] (wr := [(mo, .inr (15, [.int th, .ref al, .long (lN zn), .null, .ref pf, .int rs])), (al, .inr (4, [.int mdh, .ref edh, .int (nI 1)]))]) rfl rfl (by decide) (by decide) (va_runS (As := [.int (nI 0), .int (nI 0), .int (nI 0)]) (rest := []) ⟨hx, hb, hml, hown, hts⟩ (c_isBetween_ok l G 0 0 0 (by omega) (by omega) (by omega) H.size) (va_cwS 3 hts (gSt q1006 q1007 q52 q1008) rfl rfl rfl (by decide +kernel) ⟨Nat.le_of_ble_eq_true rfl, Nat.le_of_ble_eq_true rfl⟩) (preS hK hE hP hD hS hA [] rfl (by decide)) rfl rfl hl.1 rfl (lv_room (Nat.le_of_ble_eq_true rfl)) dX10_isPuzzle_13 ⟨Nat.le_of_ble_eq_true rfl, Nat.le_of_ble_eq_true rfl⟩) (fun r_4 u9 hw_3 H locs hP hD hS => ?_)
  subst hw_3
  have hP : va_P (gD G) vwCl [(mo, .inr (15, [.int th, .ref al, .long (lN zn), .null, .ref pf, .int rs])), (al, .inr (4, [.int mdh, .ref edh, .int (nI 1)]))] H := hP
  have hD : va_D A [(mo, .inr (15, [.int th, .ref al, .long (lN zn), .null, .ref pf, .int rs])), (al, .inr (4, [.int mdh, .ref edh, .int (nI 1)]))] := hD
  have hP9 := hP.sub (ws' := [(mo, .inr (15, [.int th, .ref al, .long (lN zn), .null, .ref pf, .int rs])), (al, .inr (4, [.int mdh, .ref edh, .int (nI 1)]))]) [0, 1] rfl
  have hD9 := hD.sub (ws' := [(mo, .inr (15, [.int th, .ref al, .long (lN zn), .null, .ref pf, .int rs])), (al, .inr (4, [.int mdh, .ref edh, .int (nI 1)]))]) [0, 1] (by decide) rfl
  subst hQ
  exact W.zret (v := nI 1) hx hb hr (by decide) (fun t ht hW => ⟨⟨nI 1, (), rfl, rfl, by rw [ht]; exact hP9, hD9⟩, hS.F ht⟩) hS.2.2 dX10_isPuzzle_16
set_option maxHeartbeats 4000000 in
set_option maxRecDepth 100000 in
theorem c_X10_init (l : Launch) (G : GG) (mo : Nat) : Mv l G yX10_init cX10_init 1 ({ frames := 4, cells := 2, slots := 19, locals := 80 } : Room) [.ref mo] [(mo, .inr (15, [.int (nI 0), .null, .long (lN 0), .null, .null, .int (nI 0)]))] (fun (u : Nat × Nat) => True) (fun (u : Nat × Nat) => [(mo, .inr (15, [.int (nI 0), .ref u.1, .long (lN 0), .null, .ref u.2, .int (nI 0)])), (u.1, .inr (4, [.int (nI 0), .ref (gE G), .int (nI 0)]))]) := by
  intro sz
  refine Met.ofW (cc := cX10_init) (maxL := 1) (ret := none) (by decide) rfl ?_
  intro p e s m args below meth c s₁ B9 hml hv
  obtain ⟨rfl, hsz, hP, hK, hD0, hE⟩ := hv
  have hx := B9.exec
  have hb := B9.bytes
  have hr := B9.returns
  have hts : ∀ w ∈ WW, w.before ([.ref mo] : List Value).toArray s = true := fun w h => atoms_spec (ws := .code yX10_init cX10_init 1 none :: WW) B9.pre w (List.mem_cons_of_mem _ h)
  have hown : s.vm.findClass RX10 = some m.cls := findClass_of_methodNamed B9.named
  have hin : meth.name = "<init>" := (name_of_methodNamed B9.named B9.method).1
  subst hsz
  have hD := hD0.self (sz := s.heap.size)
  generalize hAe : va_A [(mo, .inr (15, [.int (nI 0), .null, .long (lN 0), .null, .null, .int (nI 0)]))] s.heap.size = A at hD hE ⊢
  have hA : ∀ q : Nat, s.heap.size ≤ q → A q := fun q h => by rw [← hAe]; exact Or.inr h
  have hl := lv_entry ([.ref mo]) (n := 1) (Nat.le_of_ble_eq_true rfl)
  rw [lg_entry_eq]
  generalize (lg_sl ([.ref mo]) ++ List.replicate (1 - (lg_sl ([.ref mo])).length) Slot.unset).toArray = ls at hl ⊢
  have hl : lv_has ls 1 [(0, .ref mo)] := hl
  refine qgen (fun Q hQ => ?_)
  refine hgen (fun H locs hP hD hS => ?_) hP hD
  refine lv_aload_n hx hb dX10_init_0 rfl (lv_at hl 0 rfl) ?_
  refine W.objInit hx hb hown (hts _ q924) (hts _ q86) (hts _ q87) rfl (by rw [hml]; exact hl.1) rfl dX10_init_1 (Nat.le_of_ble_eq_true rfl) (Nat.le_of_ble_eq_true rfl) ?_
  refine W.eq (g2 := F0 m 4 ls []) rfl ?_
  refine lv_aload_n hx hb dX10_init_4 rfl (lv_at hl 0 rfl) ?_
  refine va_new (D := gD G) (ci := 4) (fs := [.int 0, .null, .int 0]) (C := RJx4a65c) (T := TJx4a65c) (N := 3) hx hb hts fwJx4a65c tyJx4a65c tyJx4a65c_ok hown (hts _ q925) (hts _ q89) (hts _ q48) hK hP hD hS hA rfl (fun j hj => by rcases (show j = 0 ∨ j = 1 ∨ j = 2 by omega) with rfl | rfl | rfl <;> rfl) (Nat.le_of_ble_eq_true rfl) (Nat.le_of_ble_eq_true rfl) dX10_init_5 (fun q_1 H hP hD hS => ?_)
  have hP : va_P (gD G) vwCl [(mo, .inr (15, [.int (nI 0), .null, .long (lN 0), .null, .null, .int (nI 0)])), (q_1, .inr (4, [.int (nI 0), .null, .int (nI 0)]))] H := hP
  have hD : va_D A [(mo, .inr (15, [.int (nI 0), .null, .long (lN 0), .null, .null, .int (nI 0)])), (q_1, .inr (4, [.int (nI 0), .null, .int (nI 0)]))] := hD
  refine lv_dup hx hb dX10_init_8 rfl ?_
  refine fin_v hP hD hS hA [1] [0] (wr := [(mo, .inr (15, [.int (nI 0), .null, .long (lN 0), .null, .null, .int (nI 0)]))]) rfl rfl (by decide) (by decide) (va_runI (As := []) (rest := [.ref q_1, .ref mo]) ⟨hx, hb, hml, hown, hts⟩ (c_Jx4a65c_init_da8c8 l G q_1 H.size) (cwI 0 hts (gI q92) rfl rfl rfl (hts _ q48) (hts _ q926) (hts _ q91) rfl (by decide +kernel) ⟨Nat.le_of_ble_eq_true rfl, Nat.le_of_ble_eq_true rfl⟩) (preS hK hE hP hD hS hA [1] rfl (by decide)) rfl rfl hl.1 rfl (lv_room (Nat.le_of_ble_eq_true rfl)) dX10_init_9 ⟨Nat.le_of_ble_eq_true rfl, Nat.le_of_ble_eq_true rfl⟩) (fun u9 hw_2 H locs hP hD hS => ?_)
  have hP : va_P (gD G) vwCl [(mo, .inr (15, [.int (nI 0), .null, .long (lN 0), .null, .null, .int (nI 0)])), (q_1, .inr (4, [.int (nI 0), .ref (gE G), .int (nI 0)]))] H := hP
  have hD : va_D A [(mo, .inr (15, [.int (nI 0), .null, .long (lN 0), .null, .null, .int (nI 0)])), (q_1, .inr (4, [.int (nI 0), .ref (gE G), .int (nI 0)]))] := hD
  refine va_putF (D := gD G) (ci := 15) (v := .ref q_1) (ty := .object "java/util/List") (C := RX10) (T := TX10) (N := 6) hx hb hts fwX10 tyX10 tyX10_ok nmX10 hown hK hP hD hS 0 rfl rfl 1 (by decide) (hts _ q928) (fun _ h9 => h9) rfl hin rfl (by decide +kernel) rfl rfl (Nat.le_of_ble_eq_true rfl) dX10_init_12 (fun H locs hP hD hS => ?_)
  have hP : va_P (gD G) vwCl [(mo, .inr (15, [.int (nI 0), .ref q_1, .long (lN 0), .null, .null, .int (nI 0)])), (q_1, .inr (4, [.int (nI 0), .ref (gE G), .int (nI 0)]))] H := hP
  have hD : va_D A [(mo, .inr (15, [.int (nI 0), .ref q_1, .long (lN 0), .null, .null, .int (nI 0)])), (q_1, .inr (4, [.int (nI 0), .ref (gE G), .int (nI 0)]))] := hD
  refine lv_aload_n hx hb dX10_init_15 rfl (lv_at hl 0 rfl) ?_
  refine lv_bipush (v := nI 16) hx hb dX10_init_16 (by decide) ?_
  refine va_newa (D := gD G) (atype := .int) (ty := .int) (a0 := (16, .inl (fun _ => 0))) hx hb (hts _ q135) rfl hK hP hD hS hA (fun _ => rfl) (nI_pos (by omega)) (nI_clamp (by omega)) (Nat.le_of_ble_eq_true rfl) (Nat.le_of_ble_eq_true rfl) (Nat.le_of_ble_eq_true rfl) dX10_init_18 (fun q_4 cA_5 H hKn hP hD hS => ?_)
  obtain rfl := ty_one_I hK hKn
  have hP : va_P (gD G) vwCl [(mo, .inr (15, [.int (nI 0), .ref q_1, .long (lN 0), .null, .null, .int (nI 0)])), (q_1, .inr (4, [.int (nI 0), .ref (gE G), .int (nI 0)])), (q_4, .inl (gyI G, 16, .inl (fun _ => 0)))] H := hP
  have hD : va_D A [(mo, .inr (15, [.int (nI 0), .ref q_1, .long (lN 0), .null, .null, .int (nI 0)])), (q_1, .inr (4, [.int (nI 0), .ref (gE G), .int (nI 0)])), (q_4, .inl (gyI G, 16, .inl (fun _ => 0)))] := hD
  refine va_putF (D := gD G) (ci := 15) (v := .ref q_4) (ty := .array .int) (C := RX10) (T := TX10) (N := 6) hx hb hts fwX10 tyX10 tyX10_ok nmX10 hown hK hP hD hS 0 rfl rfl 4 (by decide) (hts _ q931) (fun _ h9 => h9) rfl hin rfl (by decide +kernel) rfl rfl (Nat.le_of_ble_eq_true rfl) dX10_init_20 (fun H locs hP hD hS => ?_)
  have hP : va_P (gD G) vwCl [(mo, .inr (15, [.int (nI 0), .ref q_1, .long (lN 0), .null, .ref q_4, .int (nI 0)])), (q_1, .inr (4, [.int (nI 0), .ref (gE G), .int (nI 0)])), (q_4, .inl (gyI G, 16, .inl (fun _ => 0)))] H := hP
  have hD : va_D A [(mo, .inr (15, [.int (nI 0), .ref q_1, .long (lN 0), .null, .ref q_4, .int (nI 0)])), (q_1, .inr (4, [.int (nI 0), .ref (gE G), .int (nI 0)])), (q_4, .inl (gyI G, 16, .inl (fun _ => 0)))] := hD
  have hP9 := hP.sub (ws' := [(mo, .inr (15, [.int (nI 0), .ref q_1, .long (lN 0), .null, .ref q_4, .int (nI 0)])), (q_1, .inr (4, [.int (nI 0), .ref (gE G), .int (nI 0)]))]) [0, 1] rfl
  have hD9 := hD.sub (ws' := [(mo, .inr (15, [.int (nI 0), .ref q_1, .long (lN 0), .null, .ref q_4, .int (nI 0)])), (q_1, .inr (4, [.int (nI 0), .ref (gE G), .int (nI 0)]))]) [0, 1] (by decide) rfl
  subst hQ
  exact W.vret hx hb hr (fun t ht hW => ⟨⟨(q_1, q_4), rfl, trivial, by rw [ht]; exact hP9, hD9⟩, hS.F ht⟩) hS.2.2 dX10_init_23
set_option maxHeartbeats 4000000 in
set_option maxRecDepth 100000 in
theorem c_X8_init (l : Launch) (G : GG) (pz : Nat) : Mv l G yX8_init cX8_init 1 ({ frames := 4, cells := 3, slots := 35, locals := 80 } : Room) [.ref pz] [(pz, .inr (13, [.null, .null, .null]))] (fun (u : Nat × Nat × Nat × (Nat → Int32)) => inB 16 1 u.2.2.2) (fun (u : Nat × Nat × Nat × (Nat → Int32)) => [(pz, .inr (13, [.ref u.1, .ref u.2.1, .ref u.2.2.1])), (u.1, .inl (gyI G, 16, .inl u.2.2.2)), (u.2.2.1, .inr (4, [.int (nI 0), .ref (gE G), .int (nI 0)]))]) := by
  intro sz
  refine Met.ofW (cc := cX8_init) (maxL := 1) (ret := none) (by decide) rfl ?_
  intro p e s m args below meth c s₁ B9 hml hv
  obtain ⟨rfl, hsz, hP, hK, hD0, hE⟩ := hv
  have hx := B9.exec
  have hb := B9.bytes
  have hr := B9.returns
  have hts : ∀ w ∈ WW, w.before ([.ref pz] : List Value).toArray s = true := fun w h => atoms_spec (ws := .code yX8_init cX8_init 1 none :: WW) B9.pre w (List.mem_cons_of_mem _ h)
  have hown : s.vm.findClass RX8 = some m.cls := findClass_of_methodNamed B9.named
  have hin : meth.name = "<init>" := (name_of_methodNamed B9.named B9.method).1
  subst hsz
  have hD := hD0.self (sz := s.heap.size)
  generalize hAe : va_A [(pz, .inr (13, [.null, .null, .null]))] s.heap.size = A at hD hE ⊢
  have hA : ∀ q : Nat, s.heap.size ≤ q → A q := fun q h => by rw [← hAe]; exact Or.inr h
  have hl := lv_entry ([.ref pz]) (n := 1) (Nat.le_of_ble_eq_true rfl)
  rw [lg_entry_eq]
  generalize (lg_sl ([.ref pz]) ++ List.replicate (1 - (lg_sl ([.ref pz])).length) Slot.unset).toArray = ls at hl ⊢
  have hl : lv_has ls 1 [(0, .ref pz)] := hl
  refine qgen (fun Q hQ => ?_)
  refine hgen (fun H locs hP hD hS => ?_) hP hD
  refine lv_aload_n hx hb dX8_init_0 rfl (lv_at hl 0 rfl) ?_
  refine W.objInit hx hb hown (hts _ q971) (hts _ q86) (hts _ q87) rfl (by rw [hml]; exact hl.1) rfl dX8_init_1 (Nat.le_of_ble_eq_true rfl) (Nat.le_of_ble_eq_true rfl) ?_
  refine W.eq (g2 := F0 m 4 ls []) rfl ?_
  refine lv_aload_n hx hb dX8_init_4 rfl (lv_at hl 0 rfl) ?_
  refine lv_bipush (v := nI 16) hx hb dX8_init_5 (by decide) ?_
  refine va_newa (D := gD G) (atype := .int) (ty := .int) (a0 := (16, .inl (fun _ => 0))) hx hb (hts _ q135) rfl hK hP hD hS hA (fun _ => rfl) (nI_pos (by omega)) (nI_clamp (by omega)) (Nat.le_of_ble_eq_true rfl) (Nat.le_of_ble_eq_true rfl) (Nat.le_of_ble_eq_true rfl) dX8_init_7 (fun q_1 cA_2 H hKn hP hD hS => ?_)
  obtain rfl := ty_one_I hK hKn
  have hb_3 : inB 16 1 (fun _ => (0 : Int32)) := inB.zero (by decide)
  have hP : va_P (gD G) vwCl [(pz, .inr (13, [.null, .null, .null])), (q_1, .inl (gyI G, 16, .inl (fun _ => 0)))] H := hP
  have hD : va_D A [(pz, .inr (13, [.null, .null, .null])), (q_1, .inl (gyI G, 16, .inl (fun _ => 0)))] := hD
  refine va_putF (D := gD G) (ci := 13) (v := .ref q_1) (ty := .array .int) (C := RX8) (T := TX8) (N := 3) hx hb hts fwX8 tyX8 tyX8_ok nmX8 hown hK hP hD hS 0 rfl rfl 0 (by decide) (hts _ q974) (fun _ h9 => h9) rfl hin rfl (by decide +kernel) rfl rfl (Nat.le_of_ble_eq_true rfl) dX8_init_9 (fun H locs hP hD hS => ?_)
  have hP : va_P (gD G) vwCl [(pz, .inr (13, [.ref q_1, .null, .null])), (q_1, .inl (gyI G, 16, .inl (fun _ => 0)))] H := hP
  have hD : va_D A [(pz, .inr (13, [.ref q_1, .null, .null])), (q_1, .inl (gyI G, 16, .inl (fun _ => 0)))] := hD
  refine lv_aload_n hx hb dX8_init_12 rfl (lv_at hl 0 rfl) ?_
  refine lv_bipush (v := nI 16) hx hb dX8_init_13 (by decide) ?_
  refine va_newa (D := gD G) (atype := .int) (ty := .int) (a0 := (16, .inl (fun _ => 0))) hx hb (hts _ q135) rfl hK hP hD hS hA (fun _ => rfl) (nI_pos (by omega)) (nI_clamp (by omega)) (Nat.le_of_ble_eq_true rfl) (Nat.le_of_ble_eq_true rfl) (Nat.le_of_ble_eq_true rfl) dX8_init_15 (fun q_4 cA_5 H hKn hP hD hS => ?_)
  obtain rfl := ty_one_I hK hKn
  have hP : va_P (gD G) vwCl [(pz, .inr (13, [.ref q_1, .null, .null])), (q_1, .inl (gyI G, 16, .inl (fun _ => 0))), (q_4, .inl (gyI G, 16, .inl (fun _ => 0)))] H := hP
  have hD : va_D A [(pz, .inr (13, [.ref q_1, .null, .null])), (q_1, .inl (gyI G, 16, .inl (fun _ => 0))), (q_4, .inl (gyI G, 16, .inl (fun _ => 0)))] := hD
  refine va_putF (D := gD G) (ci := 13) (v := .ref q_4) (ty := .array .int) (C := RX8) (T := TX8) (N := 3) hx hb hts fwX8 tyX8 tyX8_ok nmX8 hown hK hP hD hS 0 rfl rfl 1 (by decide) (hts _ q976) (fun _ h9 => h9) rfl hin rfl (by decide +kernel) rfl rfl (Nat.le_of_ble_eq_true rfl) dX8_init_17 (fun H locs hP hD hS => ?_)
  have hP : va_P (gD G) vwCl [(pz, .inr (13, [.ref q_1, .ref q_4, .null])), (q_1, .inl (gyI G, 16, .inl (fun _ => 0))), (q_4, .inl (gyI G, 16, .inl (fun _ => 0)))] H := hP
  have hD : va_D A [(pz, .inr (13, [.ref q_1, .ref q_4, .null])), (q_1, .inl (gyI G, 16, .inl (fun _ => 0))), (q_4, .inl (gyI G, 16, .inl (fun _ => 0)))] := hD
  refine lv_aload_n hx hb dX8_init_20 rfl (lv_at hl 0 rfl) ?_
  refine va_new (D := gD G) (ci := 4) (fs := [.int 0, .null, .int 0]) (C := RJx4a65c) (T := TJx4a65c) (N := 3) hx hb hts fwJx4a65c tyJx4a65c tyJx4a65c_ok hown (hts _ q972) (hts _ q89) (hts _ q48) hK hP hD hS hA rfl (fun j hj => by rcases (show j = 0 ∨ j = 1 ∨ j = 2 by omega) with rfl | rfl | rfl <;> rfl) (Nat.le_of_ble_eq_true rfl) (Nat.le_of_ble_eq_true rfl) dX8_init_21 (fun q_6 H hP hD hS => ?_)
  have hP : va_P (gD G) vwCl [(pz, .inr (13, [.ref q_1, .ref q_4, .null])), (q_1, .inl (gyI G, 16, .inl (fun _ => 0))), (q_4, .inl (gyI G, 16, .inl (fun _ => 0))), (q_6, .inr (4, [.int (nI 0), .null, .int (nI 0)]))] H := hP
  have hD : va_D A [(pz, .inr (13, [.ref q_1, .ref q_4, .null])), (q_1, .inl (gyI G, 16, .inl (fun _ => 0))), (q_4, .inl (gyI G, 16, .inl (fun _ => 0))), (q_6, .inr (4, [.int (nI 0), .null, .int (nI 0)]))] := hD
  refine lv_dup hx hb dX8_init_24 rfl ?_
  refine fin_v hP hD hS hA [3] [0, 1, 2] (wr := [(pz, .inr (13, [.ref q_1, .ref q_4, .null])), (q_1, .inl (gyI G, 16, .inl (fun _ => 0))), (q_4, .inl (gyI G, 16, .inl (fun _ => 0)))]) rfl rfl (by decide) (by decide) (va_runI (As := []) (rest := [.ref q_6, .ref pz]) ⟨hx, hb, hml, hown, hts⟩ (c_Jx4a65c_init_da8c8 l G q_6 H.size) (cwI 0 hts (gI q92) rfl rfl rfl (hts _ q48) (hts _ q973) (hts _ q91) rfl (by decide +kernel) ⟨Nat.le_of_ble_eq_true rfl, Nat.le_of_ble_eq_true rfl⟩) (preS hK hE hP hD hS hA [3] rfl (by decide)) rfl rfl hl.1 rfl (lv_room (Nat.le_of_ble_eq_true rfl)) dX8_init_25 ⟨Nat.le_of_ble_eq_true rfl, Nat.le_of_ble_eq_true rfl⟩) (fun u9 hw_7 H locs hP hD hS => ?_)
  have hP : va_P (gD G) vwCl [(pz, .inr (13, [.ref q_1, .ref q_4, .null])), (q_1, .inl (gyI G, 16, .inl (fun _ => 0))), (q_4, .inl (gyI G, 16, .inl (fun _ => 0))), (q_6, .inr (4, [.int (nI 0), .ref (gE G), .int (nI 0)]))] H := hP
  have hD : va_D A [(pz, .inr (13, [.ref q_1, .ref q_4, .null])), (q_1, .inl (gyI G, 16, .inl (fun _ => 0))), (q_4, .inl (gyI G, 16, .inl (fun _ => 0))), (q_6, .inr (4, [.int (nI 0), .ref (gE G), .int (nI 0)]))] := hD
  refine va_putF (D := gD G) (ci := 13) (v := .ref q_6) (ty := .object "java/util/List") (C := RX8) (T := TX8) (N := 3) hx hb hts fwX8 tyX8 tyX8_ok nmX8 hown hK hP hD hS 0 rfl rfl 2 (by decide) (hts _ q978) (fun _ h9 => h9) rfl hin rfl (by decide +kernel) rfl rfl (Nat.le_of_ble_eq_true rfl) dX8_init_28 (fun H locs hP hD hS => ?_)
  have hP : va_P (gD G) vwCl [(pz, .inr (13, [.ref q_1, .ref q_4, .ref q_6])), (q_1, .inl (gyI G, 16, .inl (fun _ => 0))), (q_4, .inl (gyI G, 16, .inl (fun _ => 0))), (q_6, .inr (4, [.int (nI 0), .ref (gE G), .int (nI 0)]))] H := hP
  have hD : va_D A [(pz, .inr (13, [.ref q_1, .ref q_4, .ref q_6])), (q_1, .inl (gyI G, 16, .inl (fun _ => 0))), (q_4, .inl (gyI G, 16, .inl (fun _ => 0))), (q_6, .inr (4, [.int (nI 0), .ref (gE G), .int (nI 0)]))] := hD
  have hP9 := hP.sub (ws' := [(pz, .inr (13, [.ref q_1, .ref q_4, .ref q_6])), (q_1, .inl (gyI G, 16, .inl (fun _ => 0))), (q_6, .inr (4, [.int (nI 0), .ref (gE G), .int (nI 0)]))]) [0, 1, 3] rfl
  have hD9 := hD.sub (ws' := [(pz, .inr (13, [.ref q_1, .ref q_4, .ref q_6])), (q_1, .inl (gyI G, 16, .inl (fun _ => 0))), (q_6, .inr (4, [.int (nI 0), .ref (gE G), .int (nI 0)]))]) [0, 1, 3] (by decide) rfl
  subst hQ
  exact W.vret hx hb hr (fun t ht hW => ⟨⟨(q_1, q_4, q_6, (fun _ => 0)), rfl, hb_3, by rw [ht]; exact hP9, hD9⟩, hS.F ht⟩) hS.2.2 dX8_init_31
set_option maxHeartbeats 4000000 in
set_option maxRecDepth 100000 in
theorem c_X10_puzzle (l : Launch) (G : GG) (mo : Nat) (th : Int32) (al : Nat) (zn : Nat) (pf : Nat) (rs : Int32) (md : Int32) : Mi l G yX10_puzzle cX10_puzzle 1 (some .int) ({ frames := 5, cells := 6, slots := 60, locals := 127 } : Room) [.ref mo] [(mo, .inr (15, [.int th, .ref al, .long (lN zn), .null, .ref pf, .int rs])), (al, .inr (4, [.int md, .ref (gE G), .int (nI 0)]))] (fun (r : Int32) (u : Int32 × Nat × Nat × Nat × Nat × Nat × (Nat → Int32)) => r = nI 0 ∧ inB 16 1 u.2.2.2.2.2.2) (fun (u : Int32 × Nat × Nat × Nat × Nat × Nat × (Nat → Int32)) => [(mo, .inr (15, [.int (nI 0), .ref al, .long (lN zn), .null, .ref pf, .int rs])), (al, .inr (4, [.int u.1, .ref u.2.1, .int (nI 1)])), (u.2.1, .inl (gyO G, 10, .inr (.inr (.inr (.inr (va_up (fun _ => none) 0 (some u.2.2.1))))))), (u.2.2.1, .inr (13, [.ref u.2.2.2.1, .ref u.2.2.2.2.1, .ref u.2.2.2.2.2.1])), (u.2.2.2.1, .inl (gyI G, 16, .inl u.2.2.2.2.2.2)), (u.2.2.2.2.2.1, .inr (4, [.int (nI 0), .ref (gE G), .int (nI 0)]))]) := by
  intro sz
  refine Met.ofW (cc := cX10_puzzle) (maxL := 1) (ret := (some .int)) (by decide) rfl ?_
  intro p e s m args below meth c s₁ B9 hml hv
  obtain ⟨rfl, hsz, hP, hK, hD0, hE⟩ := hv
  have hx := B9.exec
  have hb := B9.bytes
  have hr := B9.returns
  have hts : ∀ w ∈ WW, w.before ([.ref mo] : List Value).toArray s = true := fun w h => atoms_spec (ws := .code yX10_puzzle cX10_puzzle 1 (some .int) :: WW) B9.pre w (List.mem_cons_of_mem _ h)
  have hown : s.vm.findClass RX10 = some m.cls := findClass_of_methodNamed B9.named
  subst hsz
  have hD := hD0.self (sz := s.heap.size)
  generalize hAe : va_A [(mo, .inr (15, [.int th, .ref al, .long (lN zn), .null, .ref pf, .int rs])), (al, .inr (4, [.int md, .ref (gE G), .int (nI 0)]))] s.heap.size = A at hD hE ⊢
  have hA : ∀ q : Nat, s.heap.size ≤ q → A q := fun q h => by rw [← hAe]; exact Or.inr h
  have hl := lv_entry ([.ref mo]) (n := 1) (Nat.le_of_ble_eq_true rfl)
  rw [lg_entry_eq]
  generalize (lg_sl ([.ref mo]) ++ List.replicate (1 - (lg_sl ([.ref mo])).length) Slot.unset).toArray = ls at hl ⊢
  have hl : lv_has ls 1 [(0, .ref mo)] := hl
  refine qgen (fun Q hQ => ?_)
  refine hgen (fun H locs hP hD hS => ?_) hP hD
  refine lv_aload_n hx hb dX10_puzzle_0 rfl (lv_at hl 0 rfl) ?_
  refine lv_aload_n hx hb dX10_puzzle_1 rfl (lv_at hl 0 rfl) ?_
  refine va_get (D := gD G) (ci := 15) (v := .ref al) (C := RX10) (T := TX10) (N := 6) hx hb hts fwX10 hown hK hP 0 rfl rfl 1 (by decide) (hts _ q928) (fun _ h9 => h9) rfl dX10_puzzle_2 ?_
  refine fin_i5 hP hD hS hA [1] [0] (wr := [(mo, .inr (15, [.int th, .ref al, .long (lN zn), .null, .ref pf, .int rs]))]) rfl rfl (by decide) (by decide) (va_runF (As := []) (rest := [.ref mo]) (hK.1 4 _ rfl).2 ⟨hx, hb, hml, hown, hts⟩ (c_Jx4a65c_size_8abf5 l G al md (gE G) 0 H.size) (va_cwF 0 hts (gF q955 q959 q209 q48 q211) rfl rfl rfl (hE.1.2.1 _ FW0) (by decide +kernel) ⟨Nat.le_of_ble_eq_true rfl, Nat.le_of_ble_eq_true rfl⟩) (preV (q0 := 1) (ci := 4) hK hE hP hD hS hA [1] rfl (by decide) rfl rfl) rfl rfl hl.1 rfl (lv_room (Nat.le_of_ble_eq_true rfl)) dX10_puzzle_5 ⟨Nat.le_of_ble_eq_true rfl, Nat.le_of_ble_eq_true rfl⟩) (fun r_2 u9 hw_1 H locs hP hD hS => ?_)
  subst hw_1
  have hP : va_P (gD G) vwCl [(mo, .inr (15, [.int th, .ref al, .long (lN zn), .null, .ref pf, .int rs])), (al, .inr (4, [.int md, .ref (gE G), .int (nI 0)]))] H := hP
  have hD : va_D A [(mo, .inr (15, [.int th, .ref al, .long (lN zn), .null, .ref pf, .int rs])), (al, .inr (4, [.int md, .ref (gE G), .int (nI 0)]))] := hD
  refine lv_bipush (v := nI 8) hx hb dX10_puzzle_10 (by decide) ?_
  refine lv_icmp_ne (tgt := 19) hx hb dX10_puzzle_12 (by decide) (fun c_3 => ?_) (fun c_3 => ?_)
  · skip
    have c_3 : ¬ 0 = 8 := fun z => c_3 ((nI_eq (a := 0) (b := 8) (by omega) (by omega)).mpr z)
    refine lv_iconst (v := nI 0) hx hb dX10_puzzle_19 (by decide) ?_
    refine fin_i hP hD hS hA [0] [1] (wr := [(al, .inr (4, [.int md, .ref (gE G), .int (nI 0)]))]) rfl rfl (by decide) (by decide) (va_runV (As := [.int (nI 0)]) (rest := []) ⟨hx, hb, hml, hown, hts⟩ (c_isWrong_0 l G mo th al zn pf rs H.size) (cwV 1 hts (gV q962 q964 q34 q52 q965) rfl rfl rfl (by decide +kernel) ⟨Nat.le_of_ble_eq_true rfl, Nat.le_of_ble_eq_true rfl⟩) (preV (q0 := 0) (ci := 15) hK hE hP hD hS hA [0] rfl (by decide) rfl rfl) rfl rfl hl.1 rfl (lv_room (Nat.le_of_ble_eq_true rfl)) dX10_puzzle_20 ⟨Nat.le_of_ble_eq_true rfl, Nat.le_of_ble_eq_true rfl⟩) (fun r_5 u9 hw_4 H locs hP hD hS => ?_)
    subst hw_4
    have hP : va_P (gD G) vwCl [(al, .inr (4, [.int md, .ref (gE G), .int (nI 0)])), (mo, .inr (15, [.int (nI 0), .ref al, .long (lN zn), .null, .ref pf, .int rs]))] H := hP
    have hD : va_D A [(al, .inr (4, [.int md, .ref (gE G), .int (nI 0)])), (mo, .inr (15, [.int (nI 0), .ref al, .long (lN zn), .null, .ref pf, .int rs]))] := hD
    refine lv_if_eq (tgt := 28) hx hb dX10_puzzle_23 (by decide) (fun c_6 => ?_) (fun c_6 => ?_)
    · skip
      have c_6 : 0 = 0 := (nI_eq (a := 0) (b := 0) (by omega) (by omega)).mp c_6
      refine lv_aload_n hx hb dX10_puzzle_28 rfl (lv_at hl 0 rfl) ?_
      refine va_get (D := gD G) (ci := 15) (v := .ref al) (C := RX10) (T := TX10) (N := 6) hx hb hts fwX10 hown hK hP 1 rfl rfl 1 (by decide) (hts _ q928) (fun _ h9 => h9) rfl dX10_puzzle_29 ?_
      refine va_new (D := gD G) (ci := 13) (fs := [.null, .null, .null]) (C := RX8) (T := TX8) (N := 3) hx hb hts fwX8 tyX8 tyX8_ok hown (hts _ q966) (hts _ q967) (hts _ q62) hK hP hD hS hA rfl (fun j hj => by rcases (show j = 0 ∨ j = 1 ∨ j = 2 by omega) with rfl | rfl | rfl <;> rfl) (Nat.le_of_ble_eq_true rfl) (Nat.le_of_ble_eq_true rfl) dX10_puzzle_32 (fun q_7 H hP hD hS => ?_)
      have hP : va_P (gD G) vwCl [(al, .inr (4, [.int md, .ref (gE G), .int (nI 0)])), (mo, .inr (15, [.int (nI 0), .ref al, .long (lN zn), .null, .ref pf, .int rs])), (q_7, .inr (13, [.null, .null, .null]))] H := hP
      have hD : va_D A [(al, .inr (4, [.int md, .ref (gE G), .int (nI 0)])), (mo, .inr (15, [.int (nI 0), .ref al, .long (lN zn), .null, .ref pf, .int rs])), (q_7, .inr (13, [.null, .null, .null]))] := hD
      refine lv_dup hx hb dX10_puzzle_35 rfl ?_
      refine fin_v hP hD hS hA [2] [0, 1] (wr := [(al, .inr (4, [.int md, .ref (gE G), .int (nI 0)])), (mo, .inr (15, [.int (nI 0), .ref al, .long (lN zn), .null, .ref pf, .int rs]))]) rfl rfl (by decide) (by decide) (va_runIN (As := []) (rest := [.ref q_7, .ref al]) ⟨hx, hb, hml, hown, hts⟩ (c_X8_init l G q_7 H.size) ⟨(va_cnB 0 hts (gI q970) rfl rfl rfl (hE.1.1 _ nq968) (hts _ q62) (by decide +kernel) ⟨Nat.le_of_ble_eq_true rfl, Nat.le_of_ble_eq_true rfl⟩), rfl, hts _ q969⟩ (preS hK hE hP hD hS hA [2] rfl (by decide)) rfl rfl hl.1 rfl (lv_room (Nat.le_of_ble_eq_true rfl)) dX10_puzzle_36 ⟨Nat.le_of_ble_eq_true rfl, Nat.le_of_ble_eq_true rfl⟩) (fun u9 hw_12 H locs hP hD hS => ?_)
      obtain ⟨gr_8, mr_9, cl_10, gv_11⟩ := u9
      have hgv_14 := hw_12
      have hgv_14 : inB 16 1 gv_11 := hgv_14
      have hP : va_P (gD G) vwCl [(al, .inr (4, [.int md, .ref (gE G), .int (nI 0)])), (mo, .inr (15, [.int (nI 0), .ref al, .long (lN zn), .null, .ref pf, .int rs])), (q_7, .inr (13, [.ref gr_8, .ref mr_9, .ref cl_10])), (gr_8, .inl (gyI G, 16, .inl gv_11)), (cl_10, .inr (4, [.int (nI 0), .ref (gE G), .int (nI 0)]))] H := hP
      have hD : va_D A [(al, .inr (4, [.int md, .ref (gE G), .int (nI 0)])), (mo, .inr (15, [.int (nI 0), .ref al, .long (lN zn), .null, .ref pf, .int rs])), (q_7, .inr (13, [.ref gr_8, .ref mr_9, .ref cl_10])), (gr_8, .inl (gyI G, 16, .inl gv_11)), (cl_10, .inr (4, [.int (nI 0), .ref (gE G), .int (nI 0)]))] := hD
      refine fin_i5 hP hD hS hA [0] [1, 2, 3, 4] (wr := [(mo, .inr (15, [.int (nI 0), .ref al, .long (lN zn), .null, .ref pf, .int rs])), (q_7, .inr (13, [.ref gr_8, .ref mr_9, .ref cl_10])), (gr_8, .inl (gyI G, 16, .inl gv_11)), (cl_10, .inr (4, [.int (nI 0), .ref (gE G), .int (nI 0)]))]) rfl rfl (by decide) (by decide) (va_runF (As := [.ref q_7]) (rest := []) (hK.1 4 _ rfl).2 ⟨hx, hb, hml, hown, hts⟩ (c_add_first l (gSet G (fun y => y = q_7)) al md q_7 (by omega) H.size) (va_cwF 1 hts (gF q988 q991 q469 q48 q471) rfl rfl rfl (hE.1.2.1 _ FW1) (by decide +kernel) ⟨Nat.le_of_ble_eq_true rfl, Nat.le_of_ble_eq_true rfl⟩) (preVG (ob_cell (q0 := 2) (ci := 13) hK hP hD rfl rfl (vb_asgC (hE.1.1 _ nq1387)) [0] rfl (by decide)) (q0 := 0) (ci := 4) hK hE hP hD hS hA [0] rfl (by decide) rfl rfl) rfl rfl hl.1 rfl (lv_room (Nat.le_of_ble_eq_true rfl)) dX10_puzzle_39 ⟨Nat.le_of_ble_eq_true rfl, Nat.le_of_ble_eq_true rfl⟩) (fun r_18 u9 hw_17 H locs hP hD hS => ?_)
      obtain ⟨md2_15, ed2_16⟩ := u9
      have hP : va_P (gD G) vwCl [(mo, .inr (15, [.int (nI 0), .ref al, .long (lN zn), .null, .ref pf, .int rs])), (q_7, .inr (13, [.ref gr_8, .ref mr_9, .ref cl_10])), (gr_8, .inl (gyI G, 16, .inl gv_11)), (cl_10, .inr (4, [.int (nI 0), .ref (gE G), .int (nI 0)])), (al, .inr (4, [.int md2_15, .ref ed2_16, .int (nI 1)])), (ed2_16, .inl (gyO G, 10, .inr (.inr (.inr (.inr (va_up (fun _ => none) 0 (some q_7)))))))] H := hP
      have hD : va_D A [(mo, .inr (15, [.int (nI 0), .ref al, .long (lN zn), .null, .ref pf, .int rs])), (q_7, .inr (13, [.ref gr_8, .ref mr_9, .ref cl_10])), (gr_8, .inl (gyI G, 16, .inl gv_11)), (cl_10, .inr (4, [.int (nI 0), .ref (gE G), .int (nI 0)])), (al, .inr (4, [.int md2_15, .ref ed2_16, .int (nI 1)])), (ed2_16, .inl (gyO G, 10, .inr (.inr (.inr (.inr (va_up (fun _ => none) 0 (some q_7)))))))] := hD
      refine lv_pop hx hb dX10_puzzle_44 rfl ?_
      refine lv_aload_n hx hb dX10_puzzle_45 rfl (lv_at hl 0 rfl) ?_
      refine va_get (D := gD G) (ci := 15) (v := .ref al) (C := RX10) (T := TX10) (N := 6) hx hb hts fwX10 hown hK hP 0 rfl rfl 1 (by decide) (hts _ q928) (fun _ h9 => h9) rfl dX10_puzzle_46 ?_
      refine fin_i5 hP hD hS hA [4] [0, 1, 2, 3, 5] (wr := [(mo, .inr (15, [.int (nI 0), .ref al, .long (lN zn), .null, .ref pf, .int rs])), (q_7, .inr (13, [.ref gr_8, .ref mr_9, .ref cl_10])), (gr_8, .inl (gyI G, 16, .inl gv_11)), (cl_10, .inr (4, [.int (nI 0), .ref (gE G), .int (nI 0)])), (ed2_16, .inl (gyO G, 10, .inr (.inr (.inr (.inr (va_up (fun _ => none) 0 (some q_7)))))))]) rfl rfl (by decide) (by decide) (va_runF (As := []) (rest := []) (hK.1 4 _ rfl).2 ⟨hx, hb, hml, hown, hts⟩ (c_Jx4a65c_size_8abf5 l G al md2_15 ed2_16 1 H.size) (va_cwF 0 hts (gF q955 q959 q209 q48 q211) rfl rfl rfl (hE.1.2.1 _ FW0) (by decide +kernel) ⟨Nat.le_of_ble_eq_true rfl, Nat.le_of_ble_eq_true rfl⟩) (preV (q0 := 4) (ci := 4) hK hE hP hD hS hA [4] rfl (by decide) rfl rfl) rfl rfl hl.1 rfl (lv_room (Nat.le_of_ble_eq_true rfl)) dX10_puzzle_49 ⟨Nat.le_of_ble_eq_true rfl, Nat.le_of_ble_eq_true rfl⟩) (fun r_20 u9 hw_19 H locs hP hD hS => ?_)
      subst hw_19
      have hP : va_P (gD G) vwCl [(mo, .inr (15, [.int (nI 0), .ref al, .long (lN zn), .null, .ref pf, .int rs])), (q_7, .inr (13, [.ref gr_8, .ref mr_9, .ref cl_10])), (gr_8, .inl (gyI G, 16, .inl gv_11)), (cl_10, .inr (4, [.int (nI 0), .ref (gE G), .int (nI 0)])), (ed2_16, .inl (gyO G, 10, .inr (.inr (.inr (.inr (va_up (fun _ => none) 0 (some q_7))))))), (al, .inr (4, [.int md2_15, .ref ed2_16, .int (nI 1)]))] H := hP
      have hD : va_D A [(mo, .inr (15, [.int (nI 0), .ref al, .long (lN zn), .null, .ref pf, .int rs])), (q_7, .inr (13, [.ref gr_8, .ref mr_9, .ref cl_10])), (gr_8, .inl (gyI G, 16, .inl gv_11)), (cl_10, .inr (4, [.int (nI 0), .ref (gE G), .int (nI 0)])), (ed2_16, .inl (gyO G, 10, .inr (.inr (.inr (.inr (va_up (fun _ => none) 0 (some q_7))))))), (al, .inr (4, [.int md2_15, .ref ed2_16, .int (nI 1)]))] := hD
      refine lv_iconst (v := nI 1) hx hb dX10_puzzle_54 (by decide) ?_
      refine lv_isub hx hb dX10_puzzle_55 ?_
      refine lv_toe (show _ = nI 0 by decide) ?_
      have hP9 := hP.sub (ws' := [(mo, .inr (15, [.int (nI 0), .ref al, .long (lN zn), .null, .ref pf, .int rs])), (al, .inr (4, [.int md2_15, .ref ed2_16, .int (nI 1)])), (ed2_16, .inl (gyO G, 10, .inr (.inr (.inr (.inr (va_up (fun _ => none) 0 (some q_7))))))), (q_7, .inr (13, [.ref gr_8, .ref mr_9, .ref cl_10])), (gr_8, .inl (gyI G, 16, .inl gv_11)), (cl_10, .inr (4, [.int (nI 0), .ref (gE G), .int (nI 0)]))]) [0, 5, 4, 1, 2, 3] rfl
      have hD9 := hD.sub (ws' := [(mo, .inr (15, [.int (nI 0), .ref al, .long (lN zn), .null, .ref pf, .int rs])), (al, .inr (4, [.int md2_15, .ref ed2_16, .int (nI 1)])), (ed2_16, .inl (gyO G, 10, .inr (.inr (.inr (.inr (va_up (fun _ => none) 0 (some q_7))))))), (q_7, .inr (13, [.ref gr_8, .ref mr_9, .ref cl_10])), (gr_8, .inl (gyI G, 16, .inl gv_11)), (cl_10, .inr (4, [.int (nI 0), .ref (gE G), .int (nI 0)]))]) [0, 5, 4, 1, 2, 3] (by decide) rfl
      refine W.widen (k := 6) (n := 60) (Nat.le_of_ble_eq_true rfl) (Nat.le_of_ble_eq_true rfl) ?_
      subst hQ
      exact W.iret (v := nI 0) hx hb hr (fun t ht hW => ⟨⟨nI 0, (md2_15, ed2_16, q_7, gr_8, mr_9, cl_10, gv_11), rfl, ⟨rfl, hgv_14⟩, by rw [ht]; exact hP9, hD9⟩, hS.F ht⟩) hS.2.2 dX10_puzzle_56
    · skip
      have c_6 : ¬ 0 = 0 := fun z => c_6 ((nI_eq (a := 0) (b := 0) (by omega) (by omega)).mpr z)
      exact absurd c_6 (by decide)
  · skip
    have c_3 : 0 = 8 := (nI_eq (a := 0) (b := 8) (by omega) (by omega)).mp c_3
    exact absurd c_3 (by decide)
set_option maxHeartbeats 4000000 in
set_option maxRecDepth 100000 in
theorem c_X7_init (l : Launch) (G : GG) (cg : Nat) : Mv l G yX7_init cX7_init 3 ({ frames := 1, cells := 0, slots := 0, locals := 20 } : Room) [.ref cg, .int (nI 49152), .int (nI 16)] [(cg, .inr (12, [.int (nI 0), .int (nI 0)]))] (fun (u : Unit) => True) (fun (u : Unit) => [(cg, .inr (12, [.int (nI 49152), .int (nI 16)]))]) := by
  intro sz
  refine Met.ofW (cc := cX7_init) (maxL := 3) (ret := none) (by decide) rfl ?_
  intro p e s m args below meth c s₁ B9 hml hv
  obtain ⟨rfl, hsz, hP, hK, hD0, hE⟩ := hv
  have hx := B9.exec
  have hb := B9.bytes
  have hr := B9.returns
  have hts : ∀ w ∈ WW, w.before ([.ref cg, .int (nI 49152), .int (nI 16)] : List Value).toArray s = true := fun w h => atoms_spec (ws := .code yX7_init cX7_init 3 none :: WW) B9.pre w (List.mem_cons_of_mem _ h)
  have hown : s.vm.findClass RX7 = some m.cls := findClass_of_methodNamed B9.named
  have hin : meth.name = "<init>" := (name_of_methodNamed B9.named B9.method).1
  subst hsz
  have hD := hD0.self (sz := s.heap.size)
  generalize hAe : va_A [(cg, .inr (12, [.int (nI 0), .int (nI 0)]))] s.heap.size = A at hD hE ⊢
  have hA : ∀ q : Nat, s.heap.size ≤ q → A q := fun q h => by rw [← hAe]; exact Or.inr h
  have hl := lv_entry ([.ref cg, .int (nI 49152), .int (nI 16)]) (n := 3) (Nat.le_of_ble_eq_true rfl)
  rw [lg_entry_eq]
  generalize (lg_sl ([.ref cg, .int (nI 49152), .int (nI 16)]) ++ List.replicate (3 - (lg_sl ([.ref cg, .int (nI 49152), .int (nI 16)])).length) Slot.unset).toArray = ls at hl ⊢
  have hl : lv_has ls 3 [(0, .ref cg), (1, .int (nI 49152)), (2, .int (nI 16))] := hl
  refine qgen (fun Q hQ => ?_)
  refine hgen (fun H locs hP hD hS => ?_) hP hD
  refine lv_aload_n hx hb dX7_init_0 rfl (lv_at hl 0 rfl) ?_
  refine W.objInit hx hb hown (hts _ q1030) (hts _ q86) (hts _ q87) rfl (by rw [hml]; exact hl.1) rfl dX7_init_1 (Nat.le_of_ble_eq_true rfl) (Nat.le_of_ble_eq_true rfl) ?_
  refine W.eq (g2 := F0 m 4 ls []) rfl ?_
  refine lv_aload_n hx hb dX7_init_4 rfl (lv_at hl 0 rfl) ?_
  refine lv_iload_n hx hb dX7_init_5 rfl (lv_at hl 1 rfl) ?_
  refine va_putF (D := gD G) (ci := 12) (v := .int (nI 49152)) (ty := .int) (C := RX7) (T := TX7) (N := 2) hx hb hts fwX7 tyX7 tyX7_ok nmX7 hown hK hP hD hS 0 rfl rfl 0 (by decide) (hts _ q1031) (fun _ h9 => h9) rfl hin rfl (by decide +kernel) rfl rfl (Nat.le_of_ble_eq_true rfl) dX7_init_6 (fun H locs hP hD hS => ?_)
  have hP : va_P (gD G) vwCl [(cg, .inr (12, [.int (nI 49152), .int (nI 0)]))] H := hP
  have hD : va_D A [(cg, .inr (12, [.int (nI 49152), .int (nI 0)]))] := hD
  refine lv_aload_n hx hb dX7_init_9 rfl (lv_at hl 0 rfl) ?_
  refine lv_iload_n hx hb dX7_init_10 rfl (lv_at hl 2 rfl) ?_
  refine va_putF (D := gD G) (ci := 12) (v := .int (nI 16)) (ty := .int) (C := RX7) (T := TX7) (N := 2) hx hb hts fwX7 tyX7 tyX7_ok nmX7 hown hK hP hD hS 0 rfl rfl 1 (by decide) (hts _ q1032) (fun _ h9 => h9) rfl hin rfl (by decide +kernel) rfl rfl (Nat.le_of_ble_eq_true rfl) dX7_init_11 (fun H locs hP hD hS => ?_)
  have hP : va_P (gD G) vwCl [(cg, .inr (12, [.int (nI 49152), .int (nI 16)]))] H := hP
  have hD : va_D A [(cg, .inr (12, [.int (nI 49152), .int (nI 16)]))] := hD
  have hP9 := hP.sub (ws' := [(cg, .inr (12, [.int (nI 49152), .int (nI 16)]))]) [0] rfl
  have hD9 := hD.sub (ws' := [(cg, .inr (12, [.int (nI 49152), .int (nI 16)]))]) [0] (by decide) rfl
  subst hQ
  exact W.vret hx hb hr (fun t ht hW => ⟨⟨(), rfl, trivial, by rw [ht]; exact hP9, hD9⟩, hS.F ht⟩) hS.2.2 dX7_init_14
set_option maxHeartbeats 4000000 in
set_option maxRecDepth 100000 in
theorem c_maddCage_0 (l : Launch) (G : GG) (mo : Nat) (th : Int32) (al : Nat) (zn : Nat) (pf : Nat) (rs : Int32) (mdh : Int32) (edh : Nat) (fb : Nat → Option Nat) (pz : Nat) (gr : Nat) (mr : Nat) (cl : Nat) (mdc : Int32) (hfb : fb 0 = some pz) : Mi l G yX10_addCage cX10_addCage 5 (some .int) ({ frames := 5, cells := 3, slots := 14, locals := 127 } : Room) [.ref mo, .int (nI 0), .int (nI 49152), .int (nI 16)] [(mo, .inr (15, [.int th, .ref al, .long (lN zn), .null, .ref pf, .int rs])), (al, .inr (4, [.int mdh, .ref edh, .int (nI 1)])), (edh, .inl (gyO G, 10, .inr (.inr (.inr (.inr fb))))), (pz, .inr (13, [.ref gr, .ref mr, .ref cl])), (cl, .inr (4, [.int mdc, .ref (gE G), .int (nI 0)]))] (fun (r : Int32) (u : Int32 × Nat × Nat) => r = nI (1)) (fun (u : Int32 × Nat × Nat) => [(mo, .inr (15, [.int (nI 0), .ref al, .long (lN zn), .null, .ref pf, .int rs])), (al, .inr (4, [.int mdh, .ref edh, .int (nI 1)])), (edh, .inl (gyO G, 10, .inr (.inr (.inr (.inr fb))))), (pz, .inr (13, [.ref gr, .ref mr, .ref cl])), (cl, .inr (4, [.int u.1, .ref u.2.1, .int (nI 1)])), (u.2.1, .inl (gyO G, 10, .inr (.inr (.inr (.inr (va_up (fun _ => none) 0 (some u.2.2))))))), (u.2.2, .inr (12, [.int (nI 49152), .int (nI 16)]))]) := by
  intro sz
  refine Met.ofW (cc := cX10_addCage) (maxL := 5) (ret := (some .int)) (by decide) rfl ?_
  intro p e s m args below meth c s₁ B9 hml hv
  obtain ⟨rfl, hsz, hP, hK, hD0, hE⟩ := hv
  have hx := B9.exec
  have hb := B9.bytes
  have hr := B9.returns
  have hts : ∀ w ∈ WW, w.before ([.ref mo, .int (nI 0), .int (nI 49152), .int (nI 16)] : List Value).toArray s = true := fun w h => atoms_spec (ws := .code yX10_addCage cX10_addCage 5 (some .int) :: WW) B9.pre w (List.mem_cons_of_mem _ h)
  have hown : s.vm.findClass RX10 = some m.cls := findClass_of_methodNamed B9.named
  subst hsz
  have hD := hD0.self (sz := s.heap.size)
  generalize hAe : va_A [(mo, .inr (15, [.int th, .ref al, .long (lN zn), .null, .ref pf, .int rs])), (al, .inr (4, [.int mdh, .ref edh, .int (nI 1)])), (edh, .inl (gyO G, 10, .inr (.inr (.inr (.inr fb))))), (pz, .inr (13, [.ref gr, .ref mr, .ref cl])), (cl, .inr (4, [.int mdc, .ref (gE G), .int (nI 0)]))] s.heap.size = A at hD hE ⊢
  have hA : ∀ q : Nat, s.heap.size ≤ q → A q := fun q h => by rw [← hAe]; exact Or.inr h
  have hl := lv_entry ([.ref mo, .int (nI 0), .int (nI 49152), .int (nI 16)]) (n := 5) (Nat.le_of_ble_eq_true rfl)
  rw [lg_entry_eq]
  generalize (lg_sl ([.ref mo, .int (nI 0), .int (nI 49152), .int (nI 16)]) ++ List.replicate (5 - (lg_sl ([.ref mo, .int (nI 0), .int (nI 49152), .int (nI 16)])).length) Slot.unset).toArray = ls at hl ⊢
  have hl : lv_has ls 5 [(0, .ref mo), (1, .int (nI 0)), (2, .int (nI 49152)), (3, .int (nI 16))] := hl
  refine qgen (fun Q hQ => ?_)
  refine hgen (fun H locs hP hD hS => ?_) hP hD
  refine lv_iload_n hx hb dX10_addCage_0 rfl (lv_at hl 3 rfl) ?_
  refine lv_iconst (v := nI 2) hx hb dX10_addCage_1 (by decide) ?_
  refine lv_bipush (v := nI 16) hx hb dX10_addCage_2 (by decide) ?_
  refine fin_i hP hD hS hA [] [0, 1, 2, 3, 4] (wr := [(mo, .inr (15, [.int th, .ref al, .long (lN zn), .null, .ref pf, .int rs])), (al, .inr (4, [.int mdh, .ref edh, .int (nI 1)])), (edh, .inl (gyO G, 10, .inr (.inr (.inr (.inr fb))))), (pz, .inr (13, [.ref gr, .ref mr, .ref cl])), (cl, .inr (4, [.int mdc, .ref (gE G), .int (nI 0)]))]) rfl rfl (by decide) (by decide) (va_runS (As := [.int (nI 16), .int (nI 2), .int (nI 16)]) (rest := []) ⟨hx, hb, hml, hown, hts⟩ (c_isBetween_ok l G 16 2 16 (by omega) (by omega) (by omega) H.size) (va_cwS 3 hts (gSt q1006 q1007 q52 q1008) rfl rfl rfl (by decide +kernel) ⟨Nat.le_of_ble_eq_true rfl, Nat.le_of_ble_eq_true rfl⟩) (preS hK hE hP hD hS hA [] rfl (by decide)) rfl rfl hl.1 rfl (lv_room (Nat.le_of_ble_eq_true rfl)) dX10_addCage_4 ⟨Nat.le_of_ble_eq_true rfl, Nat.le_of_ble_eq_true rfl⟩) (fun r_2 u9 hw_1 H locs hP hD hS => ?_)
  subst hw_1
  have hP : va_P (gD G) vwCl [(mo, .inr (15, [.int th, .ref al, .long (lN zn), .null, .ref pf, .int rs])), (al, .inr (4, [.int mdh, .ref edh, .int (nI 1)])), (edh, .inl (gyO G, 10, .inr (.inr (.inr (.inr fb))))), (pz, .inr (13, [.ref gr, .ref mr, .ref cl])), (cl, .inr (4, [.int mdc, .ref (gE G), .int (nI 0)]))] H := hP
  have hD : va_D A [(mo, .inr (15, [.int th, .ref al, .long (lN zn), .null, .ref pf, .int rs])), (al, .inr (4, [.int mdh, .ref edh, .int (nI 1)])), (edh, .inl (gyO G, 10, .inr (.inr (.inr (.inr fb))))), (pz, .inr (13, [.ref gr, .ref mr, .ref cl])), (cl, .inr (4, [.int mdc, .ref (gE G), .int (nI 0)]))] := hD
  refine lv_if_eq (tgt := 36) hx hb dX10_addCage_7 (by decide) (fun c_3 => ?_) (fun c_3 => ?_)
  · skip
    have c_3 : 1 = 0 := (nI_eq (a := 1) (b := 0) (by omega) (by omega)).mp c_3
    exact absurd c_3 (by decide)
  · skip
    have c_3 : ¬ 1 = 0 := fun z => c_3 ((nI_eq (a := 1) (b := 0) (by omega) (by omega)).mpr z)
    refine lv_iload_n hx hb dX10_addCage_10 rfl (lv_at hl 2 rfl) ?_
    refine lv_iconst (v := nI 0) hx hb dX10_addCage_11 (by decide) ?_
    refine lv_ldc (v := nI 65535) hx hb hown (hts _ q1023) dX10_addCage_12 ?_
    refine fin_i hP hD hS hA [] [0, 1, 2, 3, 4] (wr := [(mo, .inr (15, [.int th, .ref al, .long (lN zn), .null, .ref pf, .int rs])), (al, .inr (4, [.int mdh, .ref edh, .int (nI 1)])), (edh, .inl (gyO G, 10, .inr (.inr (.inr (.inr fb))))), (pz, .inr (13, [.ref gr, .ref mr, .ref cl])), (cl, .inr (4, [.int mdc, .ref (gE G), .int (nI 0)]))]) rfl rfl (by decide) (by decide) (va_runS (As := [.int (nI 49152), .int (nI 0), .int (nI 65535)]) (rest := []) ⟨hx, hb, hml, hown, hts⟩ (c_isBetween_ok l G 49152 0 65535 (by omega) (by omega) (by omega) H.size) (va_cwS 3 hts (gSt q1006 q1007 q52 q1008) rfl rfl rfl (by decide +kernel) ⟨Nat.le_of_ble_eq_true rfl, Nat.le_of_ble_eq_true rfl⟩) (preS hK hE hP hD hS hA [] rfl (by decide)) rfl rfl hl.1 rfl (lv_room (Nat.le_of_ble_eq_true rfl)) dX10_addCage_14 ⟨Nat.le_of_ble_eq_true rfl, Nat.le_of_ble_eq_true rfl⟩) (fun r_5 u9 hw_4 H locs hP hD hS => ?_)
    subst hw_4
    have hP : va_P (gD G) vwCl [(mo, .inr (15, [.int th, .ref al, .long (lN zn), .null, .ref pf, .int rs])), (al, .inr (4, [.int mdh, .ref edh, .int (nI 1)])), (edh, .inl (gyO G, 10, .inr (.inr (.inr (.inr fb))))), (pz, .inr (13, [.ref gr, .ref mr, .ref cl])), (cl, .inr (4, [.int mdc, .ref (gE G), .int (nI 0)]))] H := hP
    have hD : va_D A [(mo, .inr (15, [.int th, .ref al, .long (lN zn), .null, .ref pf, .int rs])), (al, .inr (4, [.int mdh, .ref edh, .int (nI 1)])), (edh, .inl (gyO G, 10, .inr (.inr (.inr (.inr fb))))), (pz, .inr (13, [.ref gr, .ref mr, .ref cl])), (cl, .inr (4, [.int mdc, .ref (gE G), .int (nI 0)]))] := hD
    refine lv_if_eq (tgt := 36) hx hb dX10_addCage_17 (by decide) (fun c_6 => ?_) (fun c_6 => ?_)
    · skip
      have c_6 : 1 = 0 := (nI_eq (a := 1) (b := 0) (by omega) (by omega)).mp c_6
      exact absurd c_6 (by decide)
    · skip
      have c_6 : ¬ 1 = 0 := fun z => c_6 ((nI_eq (a := 1) (b := 0) (by omega) (by omega)).mpr z)
      refine lv_iload_n hx hb dX10_addCage_20 rfl (lv_at hl 2 rfl) ?_
      refine fin_i hP hD hS hA [] [0, 1, 2, 3, 4] (wr := [(mo, .inr (15, [.int th, .ref al, .long (lN zn), .null, .ref pf, .int rs])), (al, .inr (4, [.int mdh, .ref edh, .int (nI 1)])), (edh, .inl (gyO G, 10, .inr (.inr (.inr (.inr fb))))), (pz, .inr (13, [.ref gr, .ref mr, .ref cl])), (cl, .inr (4, [.int mdc, .ref (gE G), .int (nI 0)]))]) rfl rfl (by decide) (by decide) (va_runS (As := [.int (nI 49152)]) (rest := []) ⟨hx, hb, hml, hown, hts⟩ (c_bits_49152 l G H.size) (va_cwS 1 hts (gSt q1024 q277 q70 q278) rfl rfl rfl (by decide +kernel) ⟨Nat.le_of_ble_eq_true rfl, Nat.le_of_ble_eq_true rfl⟩) (preS hK hE hP hD hS hA [] rfl (by decide)) rfl rfl hl.1 rfl (lv_room (Nat.le_of_ble_eq_true rfl)) dX10_addCage_21 ⟨Nat.le_of_ble_eq_true rfl, Nat.le_of_ble_eq_true rfl⟩) (fun r_8 u9 hw_7 H locs hP hD hS => ?_)
      subst hw_7
      have hP : va_P (gD G) vwCl [(mo, .inr (15, [.int th, .ref al, .long (lN zn), .null, .ref pf, .int rs])), (al, .inr (4, [.int mdh, .ref edh, .int (nI 1)])), (edh, .inl (gyO G, 10, .inr (.inr (.inr (.inr fb))))), (pz, .inr (13, [.ref gr, .ref mr, .ref cl])), (cl, .inr (4, [.int mdc, .ref (gE G), .int (nI 0)]))] H := hP
      have hD : va_D A [(mo, .inr (15, [.int th, .ref al, .long (lN zn), .null, .ref pf, .int rs])), (al, .inr (4, [.int mdh, .ref edh, .int (nI 1)])), (edh, .inl (gyO G, 10, .inr (.inr (.inr (.inr fb))))), (pz, .inr (13, [.ref gr, .ref mr, .ref cl])), (cl, .inr (4, [.int mdc, .ref (gE G), .int (nI 0)]))] := hD
      refine lv_iconst (v := nI 2) hx hb dX10_addCage_24 (by decide) ?_
      refine lv_iconst (v := nI 4) hx hb dX10_addCage_25 (by decide) ?_
      refine fin_i hP hD hS hA [] [0, 1, 2, 3, 4] (wr := [(mo, .inr (15, [.int th, .ref al, .long (lN zn), .null, .ref pf, .int rs])), (al, .inr (4, [.int mdh, .ref edh, .int (nI 1)])), (edh, .inl (gyO G, 10, .inr (.inr (.inr (.inr fb))))), (pz, .inr (13, [.ref gr, .ref mr, .ref cl])), (cl, .inr (4, [.int mdc, .ref (gE G), .int (nI 0)]))]) rfl rfl (by decide) (by decide) (va_runS (As := [.int (nI 2), .int (nI 2), .int (nI 4)]) (rest := []) ⟨hx, hb, hml, hown, hts⟩ (c_isBetween_ok l G 2 2 4 (by omega) (by omega) (by omega) H.size) (va_cwS 3 hts (gSt q1006 q1007 q52 q1008) rfl rfl rfl (by decide +kernel) ⟨Nat.le_of_ble_eq_true rfl, Nat.le_of_ble_eq_true rfl⟩) (preS hK hE hP hD hS hA [] rfl (by decide)) rfl rfl hl.1 rfl (lv_room (Nat.le_of_ble_eq_true rfl)) dX10_addCage_26 ⟨Nat.le_of_ble_eq_true rfl, Nat.le_of_ble_eq_true rfl⟩) (fun r_10 u9 hw_9 H locs hP hD hS => ?_)
      subst hw_9
      have hP : va_P (gD G) vwCl [(mo, .inr (15, [.int th, .ref al, .long (lN zn), .null, .ref pf, .int rs])), (al, .inr (4, [.int mdh, .ref edh, .int (nI 1)])), (edh, .inl (gyO G, 10, .inr (.inr (.inr (.inr fb))))), (pz, .inr (13, [.ref gr, .ref mr, .ref cl])), (cl, .inr (4, [.int mdc, .ref (gE G), .int (nI 0)]))] H := hP
      have hD : va_D A [(mo, .inr (15, [.int th, .ref al, .long (lN zn), .null, .ref pf, .int rs])), (al, .inr (4, [.int mdh, .ref edh, .int (nI 1)])), (edh, .inl (gyO G, 10, .inr (.inr (.inr (.inr fb))))), (pz, .inr (13, [.ref gr, .ref mr, .ref cl])), (cl, .inr (4, [.int mdc, .ref (gE G), .int (nI 0)]))] := hD
      refine lv_if_eq (tgt := 36) hx hb dX10_addCage_29 (by decide) (fun c_11 => ?_) (fun c_11 => ?_)
      · skip
        have c_11 : 1 = 0 := (nI_eq (a := 1) (b := 0) (by omega) (by omega)).mp c_11
        exact absurd c_11 (by decide)
      · skip
        have c_11 : ¬ 1 = 0 := fun z => c_11 ((nI_eq (a := 1) (b := 0) (by omega) (by omega)).mpr z)
        refine lv_iconst (v := nI 1) hx hb dX10_addCage_32 (by decide) ?_
        refine lv_goto (tgt := 37) hx hb dX10_addCage_33 (by decide) ?_
        refine lv_istore (lv' := [(4, .int (nI 1)), (0, .ref mo), (1, .int (nI 0)), (2, .int (nI 49152)), (3, .int (nI 16))]) hx hb dX10_addCage_37 hl (by decide) rfl (fun ls hl => ?_)
        refine lv_aload_n hx hb dX10_addCage_39 rfl (lv_at hl 1 rfl) ?_
        refine lv_aload_n hx hb dX10_addCage_40 rfl (lv_at hl 1 rfl) ?_
        refine lv_iload_n hx hb dX10_addCage_41 rfl (lv_at hl 2 rfl) ?_
        refine fin_i hP hD hS hA [0, 1] [2, 3, 4] (wr := [(edh, .inl (gyO G, 10, .inr (.inr (.inr (.inr fb))))), (pz, .inr (13, [.ref gr, .ref mr, .ref cl])), (cl, .inr (4, [.int mdc, .ref (gE G), .int (nI 0)]))]) rfl rfl (by decide) (by decide) (va_runV (As := [.int (nI 0)]) (rest := [.ref mo]) ⟨hx, hb, hml, hown, hts⟩ (c_X10_isPuzzle l G mo th al zn pf rs mdh edh H.size) (cwV 1 hts (gV q1002 q1004 q36 q52 q1005) rfl rfl rfl (by decide +kernel) ⟨Nat.le_of_ble_eq_true rfl, Nat.le_of_ble_eq_true rfl⟩) (preV (q0 := 0) (ci := 15) hK hE hP hD hS hA [0, 1] rfl (by decide) rfl rfl) rfl rfl hl.1 rfl (lv_room (Nat.le_of_ble_eq_true rfl)) dX10_addCage_42 ⟨Nat.le_of_ble_eq_true rfl, Nat.le_of_ble_eq_true rfl⟩) (fun r_13 u9 hw_12 H locs hP hD hS => ?_)
        subst hw_12
        have hP : va_P (gD G) vwCl [(edh, .inl (gyO G, 10, .inr (.inr (.inr (.inr fb))))), (pz, .inr (13, [.ref gr, .ref mr, .ref cl])), (cl, .inr (4, [.int mdc, .ref (gE G), .int (nI 0)])), (mo, .inr (15, [.int th, .ref al, .long (lN zn), .null, .ref pf, .int rs])), (al, .inr (4, [.int mdh, .ref edh, .int (nI 1)]))] H := hP
        have hD : va_D A [(edh, .inl (gyO G, 10, .inr (.inr (.inr (.inr fb))))), (pz, .inr (13, [.ref gr, .ref mr, .ref cl])), (cl, .inr (4, [.int mdc, .ref (gE G), .int (nI 0)])), (mo, .inr (15, [.int th, .ref al, .long (lN zn), .null, .ref pf, .int rs])), (al, .inr (4, [.int mdh, .ref edh, .int (nI 1)]))] := hD
        refine lv_if_ne (tgt := 52) hx hb dX10_addCage_45 (by decide) (fun c_14 => ?_) (fun c_14 => ?_)
        · skip
          have c_14 : ¬ 1 = 0 := fun z => c_14 ((nI_eq (a := 1) (b := 0) (by omega) (by omega)).mpr z)
          refine lv_iload hx hb dX10_addCage_52 (lv_at hl 0 rfl) ?_
          refine lv_if_ne (tgt := 61) hx hb dX10_addCage_54 (by decide) (fun c_15 => ?_) (fun c_15 => ?_)
          · skip
            have c_15 : ¬ 1 = 0 := fun z => c_15 ((nI_eq (a := 1) (b := 0) (by omega) (by omega)).mpr z)
            refine lv_aload_n hx hb dX10_addCage_61 rfl (lv_at hl 1 rfl) ?_
            refine va_get (D := gD G) (ci := 15) (v := .ref al) (C := RX10) (T := TX10) (N := 6) hx hb hts fwX10 hown hK hP 3 rfl rfl 1 (by decide) (hts _ q928) (fun _ h9 => h9) rfl dX10_addCage_62 ?_
            refine lv_iload_n hx hb dX10_addCage_65 rfl (lv_at hl 2 rfl) ?_
            refine fin_r5 hP hD hS hA [4, 0] [1, 2, 3] (wr := [(pz, .inr (13, [.ref gr, .ref mr, .ref cl])), (cl, .inr (4, [.int mdc, .ref (gE G), .int (nI 0)])), (mo, .inr (15, [.int th, .ref al, .long (lN zn), .null, .ref pf, .int rs]))]) rfl rfl (by decide) (by decide) (va_runF (As := [.int (nI 0)]) (rest := [.ref mo]) (hK.1 4 _ rfl).2 ⟨hx, hb, hml, hown, hts⟩ (c_Jx4a65c_get_915e3 l G al mdh edh 1 10 fb 0 pz (by omega) (by omega) (by omega) hfb H.size) (va_cwF 1 hts (gF q1013 q1016 q213 q48 q215) rfl rfl rfl (hE.1.2.1 _ FW5) (by decide +kernel) ⟨Nat.le_of_ble_eq_true rfl, Nat.le_of_ble_eq_true rfl⟩) (preV (q0 := 4) (ci := 4) hK hE hP hD hS hA [4, 0] rfl (by decide) rfl rfl) rfl rfl hl.1 rfl (lv_room (Nat.le_of_ble_eq_true rfl)) dX10_addCage_66 ⟨Nat.le_of_ble_eq_true rfl, Nat.le_of_ble_eq_true rfl⟩) (fun u9 r_17 hw_16 H locs hP hD hS => ?_)
            have hr_18 := hw_16
            have hr_18 : r_17 = pz := hr_18
            have hP : va_P (gD G) vwCl [(pz, .inr (13, [.ref gr, .ref mr, .ref cl])), (cl, .inr (4, [.int mdc, .ref (gE G), .int (nI 0)])), (mo, .inr (15, [.int th, .ref al, .long (lN zn), .null, .ref pf, .int rs])), (al, .inr (4, [.int mdh, .ref edh, .int (nI 1)])), (edh, .inl (gyO G, 10, .inr (.inr (.inr (.inr fb)))))] H := hP
            have hD : va_D A [(pz, .inr (13, [.ref gr, .ref mr, .ref cl])), (cl, .inr (4, [.int mdc, .ref (gE G), .int (nI 0)])), (mo, .inr (15, [.int th, .ref al, .long (lN zn), .null, .ref pf, .int rs])), (al, .inr (4, [.int mdh, .ref edh, .int (nI 1)])), (edh, .inl (gyO G, 10, .inr (.inr (.inr (.inr fb)))))] := hD
            refine lv_ter hr_18 ?_
            refine va_castE (nm := "PegboardryModel$Puzzle") hx hb hown (hts _ q966) (va_recv hK hP (show vwCl[13]? = some (RX8, TX8, 3) from rfl) (show ([(pz, .inr (13, [.ref gr, .ref mr, .ref cl])), (cl, .inr (4, [.int mdc, .ref (gE G), .int (nI 0)])), (mo, .inr (15, [.int th, .ref al, .long (lN zn), .null, .ref pf, .int rs])), (al, .inr (4, [.int mdh, .ref edh, .int (nI 1)])), (edh, .inl (gyO G, 10, .inr (.inr (.inr (.inr fb)))))] : va_W)[0]? = some (pz, .inr (13, [.ref gr, .ref mr, .ref cl])) from rfl)) dX10_addCage_71 ?_
            refine va_getN (D := gD G) (ci := 13) (v := .ref cl) (C := RX8) (T := TX8) (N := 3) hx hb hts fwX8 hown hK hP 0 rfl rfl 2 (by decide) (va_Nw.use rfl (hE.1.1 _ nq979)) (fun _ h9 => h9) rfl dX10_addCage_74 ?_
            refine fin_i5 hP hD hS hA [1] [0, 2, 3, 4] (wr := [(pz, .inr (13, [.ref gr, .ref mr, .ref cl])), (mo, .inr (15, [.int th, .ref al, .long (lN zn), .null, .ref pf, .int rs])), (al, .inr (4, [.int mdh, .ref edh, .int (nI 1)])), (edh, .inl (gyO G, 10, .inr (.inr (.inr (.inr fb)))))]) rfl rfl (by decide) (by decide) (va_runF (As := []) (rest := [.ref mo]) (hK.1 4 _ rfl).2 ⟨hx, hb, hml, hown, hts⟩ (c_Jx4a65c_size_8abf5 l G cl mdc (gE G) 0 H.size) (va_cwF 0 hts (gF q955 q959 q209 q48 q211) rfl rfl rfl (hE.1.2.1 _ FW0) (by decide +kernel) ⟨Nat.le_of_ble_eq_true rfl, Nat.le_of_ble_eq_true rfl⟩) (preV (q0 := 1) (ci := 4) hK hE hP hD hS hA [1] rfl (by decide) rfl rfl) rfl rfl hl.1 rfl (lv_room (Nat.le_of_ble_eq_true rfl)) dX10_addCage_77 ⟨Nat.le_of_ble_eq_true rfl, Nat.le_of_ble_eq_true rfl⟩) (fun r_20 u9 hw_19 H locs hP hD hS => ?_)
            subst hw_19
            have hP : va_P (gD G) vwCl [(pz, .inr (13, [.ref gr, .ref mr, .ref cl])), (mo, .inr (15, [.int th, .ref al, .long (lN zn), .null, .ref pf, .int rs])), (al, .inr (4, [.int mdh, .ref edh, .int (nI 1)])), (edh, .inl (gyO G, 10, .inr (.inr (.inr (.inr fb))))), (cl, .inr (4, [.int mdc, .ref (gE G), .int (nI 0)]))] H := hP
            have hD : va_D A [(pz, .inr (13, [.ref gr, .ref mr, .ref cl])), (mo, .inr (15, [.int th, .ref al, .long (lN zn), .null, .ref pf, .int rs])), (al, .inr (4, [.int mdh, .ref edh, .int (nI 1)])), (edh, .inl (gyO G, 10, .inr (.inr (.inr (.inr fb))))), (cl, .inr (4, [.int mdc, .ref (gE G), .int (nI 0)]))] := hD
            refine lv_bipush (v := nI 6) hx hb dX10_addCage_82 (by decide) ?_
            refine lv_icmp_ne (tgt := 91) hx hb dX10_addCage_84 (by decide) (fun c_21 => ?_) (fun c_21 => ?_)
            · skip
              have c_21 : ¬ 0 = 6 := fun z => c_21 ((nI_eq (a := 0) (b := 6) (by omega) (by omega)).mpr z)
              refine lv_iconst (v := nI 0) hx hb dX10_addCage_91 (by decide) ?_
              refine fin_i hP hD hS hA [1] [0, 2, 3, 4] (wr := [(pz, .inr (13, [.ref gr, .ref mr, .ref cl])), (al, .inr (4, [.int mdh, .ref edh, .int (nI 1)])), (edh, .inl (gyO G, 10, .inr (.inr (.inr (.inr fb))))), (cl, .inr (4, [.int mdc, .ref (gE G), .int (nI 0)]))]) rfl rfl (by decide) (by decide) (va_runV (As := [.int (nI 0)]) (rest := []) ⟨hx, hb, hml, hown, hts⟩ (c_isWrong_0 l G mo th al zn pf rs H.size) (cwV 1 hts (gV q962 q964 q34 q52 q965) rfl rfl rfl (by decide +kernel) ⟨Nat.le_of_ble_eq_true rfl, Nat.le_of_ble_eq_true rfl⟩) (preV (q0 := 1) (ci := 15) hK hE hP hD hS hA [1] rfl (by decide) rfl rfl) rfl rfl hl.1 rfl (lv_room (Nat.le_of_ble_eq_true rfl)) dX10_addCage_92 ⟨Nat.le_of_ble_eq_true rfl, Nat.le_of_ble_eq_true rfl⟩) (fun r_23 u9 hw_22 H locs hP hD hS => ?_)
              subst hw_22
              have hP : va_P (gD G) vwCl [(pz, .inr (13, [.ref gr, .ref mr, .ref cl])), (al, .inr (4, [.int mdh, .ref edh, .int (nI 1)])), (edh, .inl (gyO G, 10, .inr (.inr (.inr (.inr fb))))), (cl, .inr (4, [.int mdc, .ref (gE G), .int (nI 0)])), (mo, .inr (15, [.int (nI 0), .ref al, .long (lN zn), .null, .ref pf, .int rs]))] H := hP
              have hD : va_D A [(pz, .inr (13, [.ref gr, .ref mr, .ref cl])), (al, .inr (4, [.int mdh, .ref edh, .int (nI 1)])), (edh, .inl (gyO G, 10, .inr (.inr (.inr (.inr fb))))), (cl, .inr (4, [.int mdc, .ref (gE G), .int (nI 0)])), (mo, .inr (15, [.int (nI 0), .ref al, .long (lN zn), .null, .ref pf, .int rs]))] := hD
              refine lv_if_eq (tgt := 100) hx hb dX10_addCage_95 (by decide) (fun c_24 => ?_) (fun c_24 => ?_)
              · skip
                have c_24 : 0 = 0 := (nI_eq (a := 0) (b := 0) (by omega) (by omega)).mp c_24
                refine lv_aload_n hx hb dX10_addCage_100 rfl (lv_at hl 1 rfl) ?_
                refine va_get (D := gD G) (ci := 15) (v := .ref al) (C := RX10) (T := TX10) (N := 6) hx hb hts fwX10 hown hK hP 4 rfl rfl 1 (by decide) (hts _ q928) (fun _ h9 => h9) rfl dX10_addCage_101 ?_
                refine lv_iload_n hx hb dX10_addCage_104 rfl (lv_at hl 2 rfl) ?_
                refine fin_r5 hP hD hS hA [1, 2] [0, 3, 4] (wr := [(pz, .inr (13, [.ref gr, .ref mr, .ref cl])), (cl, .inr (4, [.int mdc, .ref (gE G), .int (nI 0)])), (mo, .inr (15, [.int (nI 0), .ref al, .long (lN zn), .null, .ref pf, .int rs]))]) rfl rfl (by decide) (by decide) (va_runF (As := [.int (nI 0)]) (rest := []) (hK.1 4 _ rfl).2 ⟨hx, hb, hml, hown, hts⟩ (c_Jx4a65c_get_915e3 l G al mdh edh 1 10 fb 0 pz (by omega) (by omega) (by omega) hfb H.size) (va_cwF 1 hts (gF q1013 q1016 q213 q48 q215) rfl rfl rfl (hE.1.2.1 _ FW5) (by decide +kernel) ⟨Nat.le_of_ble_eq_true rfl, Nat.le_of_ble_eq_true rfl⟩) (preV (q0 := 1) (ci := 4) hK hE hP hD hS hA [1, 2] rfl (by decide) rfl rfl) rfl rfl hl.1 rfl (lv_room (Nat.le_of_ble_eq_true rfl)) dX10_addCage_105 ⟨Nat.le_of_ble_eq_true rfl, Nat.le_of_ble_eq_true rfl⟩) (fun u9 r_26 hw_25 H locs hP hD hS => ?_)
                have hr_27 := hw_25
                have hr_27 : r_26 = pz := hr_27
                have hP : va_P (gD G) vwCl [(pz, .inr (13, [.ref gr, .ref mr, .ref cl])), (cl, .inr (4, [.int mdc, .ref (gE G), .int (nI 0)])), (mo, .inr (15, [.int (nI 0), .ref al, .long (lN zn), .null, .ref pf, .int rs])), (al, .inr (4, [.int mdh, .ref edh, .int (nI 1)])), (edh, .inl (gyO G, 10, .inr (.inr (.inr (.inr fb)))))] H := hP
                have hD : va_D A [(pz, .inr (13, [.ref gr, .ref mr, .ref cl])), (cl, .inr (4, [.int mdc, .ref (gE G), .int (nI 0)])), (mo, .inr (15, [.int (nI 0), .ref al, .long (lN zn), .null, .ref pf, .int rs])), (al, .inr (4, [.int mdh, .ref edh, .int (nI 1)])), (edh, .inl (gyO G, 10, .inr (.inr (.inr (.inr fb)))))] := hD
                refine lv_ter hr_27 ?_
                refine va_castE (nm := "PegboardryModel$Puzzle") hx hb hown (hts _ q966) (va_recv hK hP (show vwCl[13]? = some (RX8, TX8, 3) from rfl) (show ([(pz, .inr (13, [.ref gr, .ref mr, .ref cl])), (cl, .inr (4, [.int mdc, .ref (gE G), .int (nI 0)])), (mo, .inr (15, [.int (nI 0), .ref al, .long (lN zn), .null, .ref pf, .int rs])), (al, .inr (4, [.int mdh, .ref edh, .int (nI 1)])), (edh, .inl (gyO G, 10, .inr (.inr (.inr (.inr fb)))))] : va_W)[0]? = some (pz, .inr (13, [.ref gr, .ref mr, .ref cl])) from rfl)) dX10_addCage_110 ?_
                refine va_getN (D := gD G) (ci := 13) (v := .ref cl) (C := RX8) (T := TX8) (N := 3) hx hb hts fwX8 hown hK hP 0 rfl rfl 2 (by decide) (va_Nw.use rfl (hE.1.1 _ nq979)) (fun _ h9 => h9) rfl dX10_addCage_113 ?_
                refine va_new (D := gD G) (ci := 12) (fs := [.int 0, .int 0]) (C := RX7) (T := TX7) (N := 2) hx hb hts fwX7 tyX7 tyX7_ok hown (hts _ q1025) (hts _ q1026) (hts _ q73) hK hP hD hS hA rfl (fun j hj => by rcases (show j = 0 ∨ j = 1 by omega) with rfl | rfl <;> rfl) (Nat.le_of_ble_eq_true rfl) (Nat.le_of_ble_eq_true rfl) dX10_addCage_116 (fun q_28 H hP hD hS => ?_)
                have hP : va_P (gD G) vwCl [(pz, .inr (13, [.ref gr, .ref mr, .ref cl])), (cl, .inr (4, [.int mdc, .ref (gE G), .int (nI 0)])), (mo, .inr (15, [.int (nI 0), .ref al, .long (lN zn), .null, .ref pf, .int rs])), (al, .inr (4, [.int mdh, .ref edh, .int (nI 1)])), (edh, .inl (gyO G, 10, .inr (.inr (.inr (.inr fb))))), (q_28, .inr (12, [.int (nI 0), .int (nI 0)]))] H := hP
                have hD : va_D A [(pz, .inr (13, [.ref gr, .ref mr, .ref cl])), (cl, .inr (4, [.int mdc, .ref (gE G), .int (nI 0)])), (mo, .inr (15, [.int (nI 0), .ref al, .long (lN zn), .null, .ref pf, .int rs])), (al, .inr (4, [.int mdh, .ref edh, .int (nI 1)])), (edh, .inl (gyO G, 10, .inr (.inr (.inr (.inr fb))))), (q_28, .inr (12, [.int (nI 0), .int (nI 0)]))] := hD
                refine lv_dup hx hb dX10_addCage_119 rfl ?_
                refine lv_iload_n hx hb dX10_addCage_120 rfl (lv_at hl 3 rfl) ?_
                refine lv_iload_n hx hb dX10_addCage_121 rfl (lv_at hl 4 rfl) ?_
                refine fin_v hP hD hS hA [5] [0, 1, 2, 3, 4] (wr := [(pz, .inr (13, [.ref gr, .ref mr, .ref cl])), (cl, .inr (4, [.int mdc, .ref (gE G), .int (nI 0)])), (mo, .inr (15, [.int (nI 0), .ref al, .long (lN zn), .null, .ref pf, .int rs])), (al, .inr (4, [.int mdh, .ref edh, .int (nI 1)])), (edh, .inl (gyO G, 10, .inr (.inr (.inr (.inr fb)))))]) rfl rfl (by decide) (by decide) (va_runI (As := [.int (nI 49152), .int (nI 16)]) (rest := [.ref q_28, .ref cl]) ⟨hx, hb, hml, hown, hts⟩ (c_X7_init l G q_28 H.size) (cwI 2 hts (gI q1029) rfl rfl rfl (hts _ q73) (hts _ q1027) (hts _ q1028) rfl (by decide +kernel) ⟨Nat.le_of_ble_eq_true rfl, Nat.le_of_ble_eq_true rfl⟩) (preS hK hE hP hD hS hA [5] rfl (by decide)) rfl rfl hl.1 rfl (lv_room (Nat.le_of_ble_eq_true rfl)) dX10_addCage_122 ⟨Nat.le_of_ble_eq_true rfl, Nat.le_of_ble_eq_true rfl⟩) (fun u9 hw_29 H locs hP hD hS => ?_)
                have hP : va_P (gD G) vwCl [(pz, .inr (13, [.ref gr, .ref mr, .ref cl])), (cl, .inr (4, [.int mdc, .ref (gE G), .int (nI 0)])), (mo, .inr (15, [.int (nI 0), .ref al, .long (lN zn), .null, .ref pf, .int rs])), (al, .inr (4, [.int mdh, .ref edh, .int (nI 1)])), (edh, .inl (gyO G, 10, .inr (.inr (.inr (.inr fb))))), (q_28, .inr (12, [.int (nI 49152), .int (nI 16)]))] H := hP
                have hD : va_D A [(pz, .inr (13, [.ref gr, .ref mr, .ref cl])), (cl, .inr (4, [.int mdc, .ref (gE G), .int (nI 0)])), (mo, .inr (15, [.int (nI 0), .ref al, .long (lN zn), .null, .ref pf, .int rs])), (al, .inr (4, [.int mdh, .ref edh, .int (nI 1)])), (edh, .inl (gyO G, 10, .inr (.inr (.inr (.inr fb))))), (q_28, .inr (12, [.int (nI 49152), .int (nI 16)]))] := hD
                refine fin_i5 hP hD hS hA [1] [0, 2, 3, 4, 5] (wr := [(pz, .inr (13, [.ref gr, .ref mr, .ref cl])), (mo, .inr (15, [.int (nI 0), .ref al, .long (lN zn), .null, .ref pf, .int rs])), (al, .inr (4, [.int mdh, .ref edh, .int (nI 1)])), (edh, .inl (gyO G, 10, .inr (.inr (.inr (.inr fb))))), (q_28, .inr (12, [.int (nI 49152), .int (nI 16)]))]) rfl rfl (by decide) (by decide) (va_runF (As := [.ref q_28]) (rest := []) (hK.1 4 _ rfl).2 ⟨hx, hb, hml, hown, hts⟩ (c_add_first l (gSet G (fun y => y = q_28)) cl mdc q_28 (by omega) H.size) (va_cwF 1 hts (gF q988 q991 q469 q48 q471) rfl rfl rfl (hE.1.2.1 _ FW1) (by decide +kernel) ⟨Nat.le_of_ble_eq_true rfl, Nat.le_of_ble_eq_true rfl⟩) (preVG (ob_cell (q0 := 5) (ci := 12) hK hP hD rfl rfl (vb_asgC (hE.1.1 _ nq1393)) [1] rfl (by decide)) (q0 := 1) (ci := 4) hK hE hP hD hS hA [1] rfl (by decide) rfl rfl) rfl rfl hl.1 rfl (lv_room (Nat.le_of_ble_eq_true rfl)) dX10_addCage_125 ⟨Nat.le_of_ble_eq_true rfl, Nat.le_of_ble_eq_true rfl⟩) (fun r_34 u9 hw_33 H locs hP hD hS => ?_)
                obtain ⟨md2_31, ed2_32⟩ := u9
                have hP : va_P (gD G) vwCl [(pz, .inr (13, [.ref gr, .ref mr, .ref cl])), (mo, .inr (15, [.int (nI 0), .ref al, .long (lN zn), .null, .ref pf, .int rs])), (al, .inr (4, [.int mdh, .ref edh, .int (nI 1)])), (edh, .inl (gyO G, 10, .inr (.inr (.inr (.inr fb))))), (q_28, .inr (12, [.int (nI 49152), .int (nI 16)])), (cl, .inr (4, [.int md2_31, .ref ed2_32, .int (nI 1)])), (ed2_32, .inl (gyO G, 10, .inr (.inr (.inr (.inr (va_up (fun _ => none) 0 (some q_28)))))))] H := hP
                have hD : va_D A [(pz, .inr (13, [.ref gr, .ref mr, .ref cl])), (mo, .inr (15, [.int (nI 0), .ref al, .long (lN zn), .null, .ref pf, .int rs])), (al, .inr (4, [.int mdh, .ref edh, .int (nI 1)])), (edh, .inl (gyO G, 10, .inr (.inr (.inr (.inr fb))))), (q_28, .inr (12, [.int (nI 49152), .int (nI 16)])), (cl, .inr (4, [.int md2_31, .ref ed2_32, .int (nI 1)])), (ed2_32, .inl (gyO G, 10, .inr (.inr (.inr (.inr (va_up (fun _ => none) 0 (some q_28)))))))] := hD
                refine lv_pop hx hb dX10_addCage_130 rfl ?_
                refine lv_aload_n hx hb dX10_addCage_131 rfl (lv_at hl 1 rfl) ?_
                refine va_get (D := gD G) (ci := 15) (v := .ref al) (C := RX10) (T := TX10) (N := 6) hx hb hts fwX10 hown hK hP 1 rfl rfl 1 (by decide) (hts _ q928) (fun _ h9 => h9) rfl dX10_addCage_132 ?_
                refine lv_iload_n hx hb dX10_addCage_135 rfl (lv_at hl 2 rfl) ?_
                refine fin_r5 hP hD hS hA [2, 3] [0, 1, 4, 5, 6] (wr := [(pz, .inr (13, [.ref gr, .ref mr, .ref cl])), (mo, .inr (15, [.int (nI 0), .ref al, .long (lN zn), .null, .ref pf, .int rs])), (q_28, .inr (12, [.int (nI 49152), .int (nI 16)])), (cl, .inr (4, [.int md2_31, .ref ed2_32, .int (nI 1)])), (ed2_32, .inl (gyO G, 10, .inr (.inr (.inr (.inr (va_up (fun _ => none) 0 (some q_28)))))))]) rfl rfl (by decide) (by decide) (va_runF (As := [.int (nI 0)]) (rest := []) (hK.1 4 _ rfl).2 ⟨hx, hb, hml, hown, hts⟩ (c_Jx4a65c_get_915e3 l G al mdh edh 1 10 fb 0 pz (by omega) (by omega) (by omega) hfb H.size) (va_cwF 1 hts (gF q1013 q1016 q213 q48 q215) rfl rfl rfl (hE.1.2.1 _ FW5) (by decide +kernel) ⟨Nat.le_of_ble_eq_true rfl, Nat.le_of_ble_eq_true rfl⟩) (preV (q0 := 2) (ci := 4) hK hE hP hD hS hA [2, 3] rfl (by decide) rfl rfl) rfl rfl hl.1 rfl (lv_room (Nat.le_of_ble_eq_true rfl)) dX10_addCage_136 ⟨Nat.le_of_ble_eq_true rfl, Nat.le_of_ble_eq_true rfl⟩) (fun u9 r_36 hw_35 H locs hP hD hS => ?_)
                have hr_37 := hw_35
                have hr_37 : r_36 = pz := hr_37
                have hP : va_P (gD G) vwCl [(pz, .inr (13, [.ref gr, .ref mr, .ref cl])), (mo, .inr (15, [.int (nI 0), .ref al, .long (lN zn), .null, .ref pf, .int rs])), (q_28, .inr (12, [.int (nI 49152), .int (nI 16)])), (cl, .inr (4, [.int md2_31, .ref ed2_32, .int (nI 1)])), (ed2_32, .inl (gyO G, 10, .inr (.inr (.inr (.inr (va_up (fun _ => none) 0 (some q_28))))))), (al, .inr (4, [.int mdh, .ref edh, .int (nI 1)])), (edh, .inl (gyO G, 10, .inr (.inr (.inr (.inr fb)))))] H := hP
                have hD : va_D A [(pz, .inr (13, [.ref gr, .ref mr, .ref cl])), (mo, .inr (15, [.int (nI 0), .ref al, .long (lN zn), .null, .ref pf, .int rs])), (q_28, .inr (12, [.int (nI 49152), .int (nI 16)])), (cl, .inr (4, [.int md2_31, .ref ed2_32, .int (nI 1)])), (ed2_32, .inl (gyO G, 10, .inr (.inr (.inr (.inr (va_up (fun _ => none) 0 (some q_28))))))), (al, .inr (4, [.int mdh, .ref edh, .int (nI 1)])), (edh, .inl (gyO G, 10, .inr (.inr (.inr (.inr fb)))))] := hD
                refine lv_ter hr_37 ?_
                refine va_castE (nm := "PegboardryModel$Puzzle") hx hb hown (hts _ q966) (va_recv hK hP (show vwCl[13]? = some (RX8, TX8, 3) from rfl) (show ([(pz, .inr (13, [.ref gr, .ref mr, .ref cl])), (mo, .inr (15, [.int (nI 0), .ref al, .long (lN zn), .null, .ref pf, .int rs])), (q_28, .inr (12, [.int (nI 49152), .int (nI 16)])), (cl, .inr (4, [.int md2_31, .ref ed2_32, .int (nI 1)])), (ed2_32, .inl (gyO G, 10, .inr (.inr (.inr (.inr (va_up (fun _ => none) 0 (some q_28))))))), (al, .inr (4, [.int mdh, .ref edh, .int (nI 1)])), (edh, .inl (gyO G, 10, .inr (.inr (.inr (.inr fb)))))] : va_W)[0]? = some (pz, .inr (13, [.ref gr, .ref mr, .ref cl])) from rfl)) dX10_addCage_141 ?_
                refine va_getN (D := gD G) (ci := 13) (v := .ref cl) (C := RX8) (T := TX8) (N := 3) hx hb hts fwX8 hown hK hP 0 rfl rfl 2 (by decide) (va_Nw.use rfl (hE.1.1 _ nq979)) (fun _ h9 => h9) rfl dX10_addCage_144 ?_
                refine fin_i5 hP hD hS hA [3] [0, 1, 2, 4, 5, 6] (wr := [(pz, .inr (13, [.ref gr, .ref mr, .ref cl])), (mo, .inr (15, [.int (nI 0), .ref al, .long (lN zn), .null, .ref pf, .int rs])), (q_28, .inr (12, [.int (nI 49152), .int (nI 16)])), (ed2_32, .inl (gyO G, 10, .inr (.inr (.inr (.inr (va_up (fun _ => none) 0 (some q_28))))))), (al, .inr (4, [.int mdh, .ref edh, .int (nI 1)])), (edh, .inl (gyO G, 10, .inr (.inr (.inr (.inr fb)))))]) rfl rfl (by decide) (by decide) (va_runF (As := []) (rest := []) (hK.1 4 _ rfl).2 ⟨hx, hb, hml, hown, hts⟩ (c_Jx4a65c_size_8abf5 l G cl md2_31 ed2_32 1 H.size) (va_cwF 0 hts (gF q955 q959 q209 q48 q211) rfl rfl rfl (hE.1.2.1 _ FW0) (by decide +kernel) ⟨Nat.le_of_ble_eq_true rfl, Nat.le_of_ble_eq_true rfl⟩) (preV (q0 := 3) (ci := 4) hK hE hP hD hS hA [3] rfl (by decide) rfl rfl) rfl rfl hl.1 rfl (lv_room (Nat.le_of_ble_eq_true rfl)) dX10_addCage_147 ⟨Nat.le_of_ble_eq_true rfl, Nat.le_of_ble_eq_true rfl⟩) (fun r_39 u9 hw_38 H locs hP hD hS => ?_)
                subst hw_38
                have hP : va_P (gD G) vwCl [(pz, .inr (13, [.ref gr, .ref mr, .ref cl])), (mo, .inr (15, [.int (nI 0), .ref al, .long (lN zn), .null, .ref pf, .int rs])), (q_28, .inr (12, [.int (nI 49152), .int (nI 16)])), (ed2_32, .inl (gyO G, 10, .inr (.inr (.inr (.inr (va_up (fun _ => none) 0 (some q_28))))))), (al, .inr (4, [.int mdh, .ref edh, .int (nI 1)])), (edh, .inl (gyO G, 10, .inr (.inr (.inr (.inr fb))))), (cl, .inr (4, [.int md2_31, .ref ed2_32, .int (nI 1)]))] H := hP
                have hD : va_D A [(pz, .inr (13, [.ref gr, .ref mr, .ref cl])), (mo, .inr (15, [.int (nI 0), .ref al, .long (lN zn), .null, .ref pf, .int rs])), (q_28, .inr (12, [.int (nI 49152), .int (nI 16)])), (ed2_32, .inl (gyO G, 10, .inr (.inr (.inr (.inr (va_up (fun _ => none) 0 (some q_28))))))), (al, .inr (4, [.int mdh, .ref edh, .int (nI 1)])), (edh, .inl (gyO G, 10, .inr (.inr (.inr (.inr fb))))), (cl, .inr (4, [.int md2_31, .ref ed2_32, .int (nI 1)]))] := hD
                have hP9 := hP.sub (ws' := [(mo, .inr (15, [.int (nI 0), .ref al, .long (lN zn), .null, .ref pf, .int rs])), (al, .inr (4, [.int mdh, .ref edh, .int (nI 1)])), (edh, .inl (gyO G, 10, .inr (.inr (.inr (.inr fb))))), (pz, .inr (13, [.ref gr, .ref mr, .ref cl])), (cl, .inr (4, [.int md2_31, .ref ed2_32, .int (nI 1)])), (ed2_32, .inl (gyO G, 10, .inr (.inr (.inr (.inr (va_up (fun _ => none) 0 (some q_28))))))), (q_28, .inr (12, [.int (nI 49152), .int (nI 16)]))]) [1, 4, 5, 0, 6, 3, 2] rfl
                have hD9 := hD.sub (ws' := [(mo, .inr (15, [.int (nI 0), .ref al, .long (lN zn), .null, .ref pf, .int rs])), (al, .inr (4, [.int mdh, .ref edh, .int (nI 1)])), (edh, .inl (gyO G, 10, .inr (.inr (.inr (.inr fb))))), (pz, .inr (13, [.ref gr, .ref mr, .ref cl])), (cl, .inr (4, [.int md2_31, .ref ed2_32, .int (nI 1)])), (ed2_32, .inl (gyO G, 10, .inr (.inr (.inr (.inr (va_up (fun _ => none) 0 (some q_28))))))), (q_28, .inr (12, [.int (nI 49152), .int (nI 16)]))]) [1, 4, 5, 0, 6, 3, 2] (by decide) rfl
                refine W.widen (k := 3) (n := 14) (Nat.le_of_ble_eq_true rfl) (Nat.le_of_ble_eq_true rfl) ?_
                subst hQ
                exact W.iret (v := nI 1) hx hb hr (fun t ht hW => ⟨⟨nI 1, (md2_31, ed2_32, q_28), rfl, rfl, by rw [ht]; exact hP9, hD9⟩, hS.F ht⟩) hS.2.2 dX10_addCage_152
              · skip
                have c_24 : ¬ 0 = 0 := fun z => c_24 ((nI_eq (a := 0) (b := 0) (by omega) (by omega)).mpr z)
                exact absurd c_24 (by decide)
            · skip
              have c_21 : 0 = 6 := (nI_eq (a := 0) (b := 6) (by omega) (by omega)).mp c_21
              exact absurd c_21 (by decide)
          · skip
            have c_15 : 1 = 0 := (nI_eq (a := 1) (b := 0) (by omega) (by omega)).mp c_15
            exact absurd c_15 (by decide)
        · skip
          have c_14 : 1 = 0 := (nI_eq (a := 1) (b := 0) (by omega) (by omega)).mp c_14
          exact absurd c_14 (by decide)
set_option maxHeartbeats 4000000 in
set_option maxRecDepth 100000 in
theorem c_maddCage_n (l : Launch) (G : GG) (mo : Nat) (th : Int32) (al : Nat) (zn : Nat) (pf : Nat) (rs : Int32) (mdh : Int32) (edh : Nat) (fb : Nat → Option Nat) (pz : Nat) (gr : Nat) (mr : Nat) (cl : Nat) (mdc : Int32) (edc : Nat) (n : Nat) (gc : Nat → Option Nat) (hfb : fb 0 = some pz) (hn : n < 6) : Mi l G yX10_addCage cX10_addCage 5 (some .int) ({ frames := 3, cells := 3, slots := 14, locals := 64 } : Room) [.ref mo, .int (nI 0), .int (nI 49152), .int (nI 16)] [(mo, .inr (15, [.int th, .ref al, .long (lN zn), .null, .ref pf, .int rs])), (al, .inr (4, [.int mdh, .ref edh, .int (nI 1)])), (edh, .inl (gyO G, 10, .inr (.inr (.inr (.inr fb))))), (pz, .inr (13, [.ref gr, .ref mr, .ref cl])), (cl, .inr (4, [.int mdc, .ref edc, .int (nI n)])), (edc, .inl (gyO G, 10, .inr (.inr (.inr (.inr gc)))))] (fun (r : Int32) (u : Int32 × Nat) => r = nI (n + 1)) (fun (u : Int32 × Nat) => [(mo, .inr (15, [.int (nI 0), .ref al, .long (lN zn), .null, .ref pf, .int rs])), (al, .inr (4, [.int mdh, .ref edh, .int (nI 1)])), (edh, .inl (gyO G, 10, .inr (.inr (.inr (.inr fb))))), (pz, .inr (13, [.ref gr, .ref mr, .ref cl])), (cl, .inr (4, [.int u.1, .ref edc, .int (nI (n + 1))])), (edc, .inl (gyO G, 10, .inr (.inr (.inr (.inr (va_up gc n (some u.2))))))), (u.2, .inr (12, [.int (nI 49152), .int (nI 16)]))]) := by
  intro sz
  refine Met.ofW (cc := cX10_addCage) (maxL := 5) (ret := (some .int)) (by decide) rfl ?_
  intro p e s m args below meth c s₁ B9 hml hv
  obtain ⟨rfl, hsz, hP, hK, hD0, hE⟩ := hv
  have hx := B9.exec
  have hb := B9.bytes
  have hr := B9.returns
  have hts : ∀ w ∈ WW, w.before ([.ref mo, .int (nI 0), .int (nI 49152), .int (nI 16)] : List Value).toArray s = true := fun w h => atoms_spec (ws := .code yX10_addCage cX10_addCage 5 (some .int) :: WW) B9.pre w (List.mem_cons_of_mem _ h)
  have hown : s.vm.findClass RX10 = some m.cls := findClass_of_methodNamed B9.named
  subst hsz
  have hD := hD0.self (sz := s.heap.size)
  generalize hAe : va_A [(mo, .inr (15, [.int th, .ref al, .long (lN zn), .null, .ref pf, .int rs])), (al, .inr (4, [.int mdh, .ref edh, .int (nI 1)])), (edh, .inl (gyO G, 10, .inr (.inr (.inr (.inr fb))))), (pz, .inr (13, [.ref gr, .ref mr, .ref cl])), (cl, .inr (4, [.int mdc, .ref edc, .int (nI n)])), (edc, .inl (gyO G, 10, .inr (.inr (.inr (.inr gc)))))] s.heap.size = A at hD hE ⊢
  have hA : ∀ q : Nat, s.heap.size ≤ q → A q := fun q h => by rw [← hAe]; exact Or.inr h
  have hl := lv_entry ([.ref mo, .int (nI 0), .int (nI 49152), .int (nI 16)]) (n := 5) (Nat.le_of_ble_eq_true rfl)
  rw [lg_entry_eq]
  generalize (lg_sl ([.ref mo, .int (nI 0), .int (nI 49152), .int (nI 16)]) ++ List.replicate (5 - (lg_sl ([.ref mo, .int (nI 0), .int (nI 49152), .int (nI 16)])).length) Slot.unset).toArray = ls at hl ⊢
  have hl : lv_has ls 5 [(0, .ref mo), (1, .int (nI 0)), (2, .int (nI 49152)), (3, .int (nI 16))] := hl
  refine qgen (fun Q hQ => ?_)
  refine hgen (fun H locs hP hD hS => ?_) hP hD
  refine lv_iload_n hx hb dX10_addCage_0 rfl (lv_at hl 3 rfl) ?_
  refine lv_iconst (v := nI 2) hx hb dX10_addCage_1 (by decide) ?_
  refine lv_bipush (v := nI 16) hx hb dX10_addCage_2 (by decide) ?_
  refine fin_i hP hD hS hA [] [0, 1, 2, 3, 4, 5] (wr := [(mo, .inr (15, [.int th, .ref al, .long (lN zn), .null, .ref pf, .int rs])), (al, .inr (4, [.int mdh, .ref edh, .int (nI 1)])), (edh, .inl (gyO G, 10, .inr (.inr (.inr (.inr fb))))), (pz, .inr (13, [.ref gr, .ref mr, .ref cl])), (cl, .inr (4, [.int mdc, .ref edc, .int (nI n)])), (edc, .inl (gyO G, 10, .inr (.inr (.inr (.inr gc)))))]) rfl rfl (by decide) (by decide) (va_runS (As := [.int (nI 16), .int (nI 2), .int (nI 16)]) (rest := []) ⟨hx, hb, hml, hown, hts⟩ (c_isBetween_ok l G 16 2 16 (by omega) (by omega) (by omega) H.size) (va_cwS 3 hts (gSt q1006 q1007 q52 q1008) rfl rfl rfl (by decide +kernel) ⟨Nat.le_of_ble_eq_true rfl, Nat.le_of_ble_eq_true rfl⟩) (preS hK hE hP hD hS hA [] rfl (by decide)) rfl rfl hl.1 rfl (lv_room (Nat.le_of_ble_eq_true rfl)) dX10_addCage_4 ⟨Nat.le_of_ble_eq_true rfl, Nat.le_of_ble_eq_true rfl⟩) (fun r_2 u9 hw_1 H locs hP hD hS => ?_)
  subst hw_1
  have hP : va_P (gD G) vwCl [(mo, .inr (15, [.int th, .ref al, .long (lN zn), .null, .ref pf, .int rs])), (al, .inr (4, [.int mdh, .ref edh, .int (nI 1)])), (edh, .inl (gyO G, 10, .inr (.inr (.inr (.inr fb))))), (pz, .inr (13, [.ref gr, .ref mr, .ref cl])), (cl, .inr (4, [.int mdc, .ref edc, .int (nI n)])), (edc, .inl (gyO G, 10, .inr (.inr (.inr (.inr gc)))))] H := hP
  have hD : va_D A [(mo, .inr (15, [.int th, .ref al, .long (lN zn), .null, .ref pf, .int rs])), (al, .inr (4, [.int mdh, .ref edh, .int (nI 1)])), (edh, .inl (gyO G, 10, .inr (.inr (.inr (.inr fb))))), (pz, .inr (13, [.ref gr, .ref mr, .ref cl])), (cl, .inr (4, [.int mdc, .ref edc, .int (nI n)])), (edc, .inl (gyO G, 10, .inr (.inr (.inr (.inr gc)))))] := hD
  refine lv_if_eq (tgt := 36) hx hb dX10_addCage_7 (by decide) (fun c_3 => ?_) (fun c_3 => ?_)
  · skip
    have c_3 : 1 = 0 := (nI_eq (a := 1) (b := 0) (by omega) (by omega)).mp c_3
    exact absurd c_3 (by decide)
  · skip
    have c_3 : ¬ 1 = 0 := fun z => c_3 ((nI_eq (a := 1) (b := 0) (by omega) (by omega)).mpr z)
    refine lv_iload_n hx hb dX10_addCage_10 rfl (lv_at hl 2 rfl) ?_
    refine lv_iconst (v := nI 0) hx hb dX10_addCage_11 (by decide) ?_
    refine lv_ldc (v := nI 65535) hx hb hown (hts _ q1023) dX10_addCage_12 ?_
    refine fin_i hP hD hS hA [] [0, 1, 2, 3, 4, 5] (wr := [(mo, .inr (15, [.int th, .ref al, .long (lN zn), .null, .ref pf, .int rs])), (al, .inr (4, [.int mdh, .ref edh, .int (nI 1)])), (edh, .inl (gyO G, 10, .inr (.inr (.inr (.inr fb))))), (pz, .inr (13, [.ref gr, .ref mr, .ref cl])), (cl, .inr (4, [.int mdc, .ref edc, .int (nI n)])), (edc, .inl (gyO G, 10, .inr (.inr (.inr (.inr gc)))))]) rfl rfl (by decide) (by decide) (va_runS (As := [.int (nI 49152), .int (nI 0), .int (nI 65535)]) (rest := []) ⟨hx, hb, hml, hown, hts⟩ (c_isBetween_ok l G 49152 0 65535 (by omega) (by omega) (by omega) H.size) (va_cwS 3 hts (gSt q1006 q1007 q52 q1008) rfl rfl rfl (by decide +kernel) ⟨Nat.le_of_ble_eq_true rfl, Nat.le_of_ble_eq_true rfl⟩) (preS hK hE hP hD hS hA [] rfl (by decide)) rfl rfl hl.1 rfl (lv_room (Nat.le_of_ble_eq_true rfl)) dX10_addCage_14 ⟨Nat.le_of_ble_eq_true rfl, Nat.le_of_ble_eq_true rfl⟩) (fun r_5 u9 hw_4 H locs hP hD hS => ?_)
    subst hw_4
    have hP : va_P (gD G) vwCl [(mo, .inr (15, [.int th, .ref al, .long (lN zn), .null, .ref pf, .int rs])), (al, .inr (4, [.int mdh, .ref edh, .int (nI 1)])), (edh, .inl (gyO G, 10, .inr (.inr (.inr (.inr fb))))), (pz, .inr (13, [.ref gr, .ref mr, .ref cl])), (cl, .inr (4, [.int mdc, .ref edc, .int (nI n)])), (edc, .inl (gyO G, 10, .inr (.inr (.inr (.inr gc)))))] H := hP
    have hD : va_D A [(mo, .inr (15, [.int th, .ref al, .long (lN zn), .null, .ref pf, .int rs])), (al, .inr (4, [.int mdh, .ref edh, .int (nI 1)])), (edh, .inl (gyO G, 10, .inr (.inr (.inr (.inr fb))))), (pz, .inr (13, [.ref gr, .ref mr, .ref cl])), (cl, .inr (4, [.int mdc, .ref edc, .int (nI n)])), (edc, .inl (gyO G, 10, .inr (.inr (.inr (.inr gc)))))] := hD
    refine lv_if_eq (tgt := 36) hx hb dX10_addCage_17 (by decide) (fun c_6 => ?_) (fun c_6 => ?_)
    · skip
      have c_6 : 1 = 0 := (nI_eq (a := 1) (b := 0) (by omega) (by omega)).mp c_6
      exact absurd c_6 (by decide)
    · skip
      have c_6 : ¬ 1 = 0 := fun z => c_6 ((nI_eq (a := 1) (b := 0) (by omega) (by omega)).mpr z)
      refine lv_iload_n hx hb dX10_addCage_20 rfl (lv_at hl 2 rfl) ?_
      refine fin_i hP hD hS hA [] [0, 1, 2, 3, 4, 5] (wr := [(mo, .inr (15, [.int th, .ref al, .long (lN zn), .null, .ref pf, .int rs])), (al, .inr (4, [.int mdh, .ref edh, .int (nI 1)])), (edh, .inl (gyO G, 10, .inr (.inr (.inr (.inr fb))))), (pz, .inr (13, [.ref gr, .ref mr, .ref cl])), (cl, .inr (4, [.int mdc, .ref edc, .int (nI n)])), (edc, .inl (gyO G, 10, .inr (.inr (.inr (.inr gc)))))]) rfl rfl (by decide) (by decide) (va_runS (As := [.int (nI 49152)]) (rest := []) ⟨hx, hb, hml, hown, hts⟩ (c_bits_49152 l G H.size) (va_cwS 1 hts (gSt q1024 q277 q70 q278) rfl rfl rfl (by decide +kernel) ⟨Nat.le_of_ble_eq_true rfl, Nat.le_of_ble_eq_true rfl⟩) (preS hK hE hP hD hS hA [] rfl (by decide)) rfl rfl hl.1 rfl (lv_room (Nat.le_of_ble_eq_true rfl)) dX10_addCage_21 ⟨Nat.le_of_ble_eq_true rfl, Nat.le_of_ble_eq_true rfl⟩) (fun r_8 u9 hw_7 H locs hP hD hS => ?_)
      subst hw_7
      have hP : va_P (gD G) vwCl [(mo, .inr (15, [.int th, .ref al, .long (lN zn), .null, .ref pf, .int rs])), (al, .inr (4, [.int mdh, .ref edh, .int (nI 1)])), (edh, .inl (gyO G, 10, .inr (.inr (.inr (.inr fb))))), (pz, .inr (13, [.ref gr, .ref mr, .ref cl])), (cl, .inr (4, [.int mdc, .ref edc, .int (nI n)])), (edc, .inl (gyO G, 10, .inr (.inr (.inr (.inr gc)))))] H := hP
      have hD : va_D A [(mo, .inr (15, [.int th, .ref al, .long (lN zn), .null, .ref pf, .int rs])), (al, .inr (4, [.int mdh, .ref edh, .int (nI 1)])), (edh, .inl (gyO G, 10, .inr (.inr (.inr (.inr fb))))), (pz, .inr (13, [.ref gr, .ref mr, .ref cl])), (cl, .inr (4, [.int mdc, .ref edc, .int (nI n)])), (edc, .inl (gyO G, 10, .inr (.inr (.inr (.inr gc)))))] := hD
      refine lv_iconst (v := nI 2) hx hb dX10_addCage_24 (by decide) ?_
      refine lv_iconst (v := nI 4) hx hb dX10_addCage_25 (by decide) ?_
      refine fin_i hP hD hS hA [] [0, 1, 2, 3, 4, 5] (wr := [(mo, .inr (15, [.int th, .ref al, .long (lN zn), .null, .ref pf, .int rs])), (al, .inr (4, [.int mdh, .ref edh, .int (nI 1)])), (edh, .inl (gyO G, 10, .inr (.inr (.inr (.inr fb))))), (pz, .inr (13, [.ref gr, .ref mr, .ref cl])), (cl, .inr (4, [.int mdc, .ref edc, .int (nI n)])), (edc, .inl (gyO G, 10, .inr (.inr (.inr (.inr gc)))))]) rfl rfl (by decide) (by decide) (va_runS (As := [.int (nI 2), .int (nI 2), .int (nI 4)]) (rest := []) ⟨hx, hb, hml, hown, hts⟩ (c_isBetween_ok l G 2 2 4 (by omega) (by omega) (by omega) H.size) (va_cwS 3 hts (gSt q1006 q1007 q52 q1008) rfl rfl rfl (by decide +kernel) ⟨Nat.le_of_ble_eq_true rfl, Nat.le_of_ble_eq_true rfl⟩) (preS hK hE hP hD hS hA [] rfl (by decide)) rfl rfl hl.1 rfl (lv_room (Nat.le_of_ble_eq_true rfl)) dX10_addCage_26 ⟨Nat.le_of_ble_eq_true rfl, Nat.le_of_ble_eq_true rfl⟩) (fun r_10 u9 hw_9 H locs hP hD hS => ?_)
      subst hw_9
      have hP : va_P (gD G) vwCl [(mo, .inr (15, [.int th, .ref al, .long (lN zn), .null, .ref pf, .int rs])), (al, .inr (4, [.int mdh, .ref edh, .int (nI 1)])), (edh, .inl (gyO G, 10, .inr (.inr (.inr (.inr fb))))), (pz, .inr (13, [.ref gr, .ref mr, .ref cl])), (cl, .inr (4, [.int mdc, .ref edc, .int (nI n)])), (edc, .inl (gyO G, 10, .inr (.inr (.inr (.inr gc)))))] H := hP
      have hD : va_D A [(mo, .inr (15, [.int th, .ref al, .long (lN zn), .null, .ref pf, .int rs])), (al, .inr (4, [.int mdh, .ref edh, .int (nI 1)])), (edh, .inl (gyO G, 10, .inr (.inr (.inr (.inr fb))))), (pz, .inr (13, [.ref gr, .ref mr, .ref cl])), (cl, .inr (4, [.int mdc, .ref edc, .int (nI n)])), (edc, .inl (gyO G, 10, .inr (.inr (.inr (.inr gc)))))] := hD
      refine lv_if_eq (tgt := 36) hx hb dX10_addCage_29 (by decide) (fun c_11 => ?_) (fun c_11 => ?_)
      · skip
        have c_11 : 1 = 0 := (nI_eq (a := 1) (b := 0) (by omega) (by omega)).mp c_11
        exact absurd c_11 (by decide)
      · skip
        have c_11 : ¬ 1 = 0 := fun z => c_11 ((nI_eq (a := 1) (b := 0) (by omega) (by omega)).mpr z)
        refine lv_iconst (v := nI 1) hx hb dX10_addCage_32 (by decide) ?_
        refine lv_goto (tgt := 37) hx hb dX10_addCage_33 (by decide) ?_
        refine lv_istore (lv' := [(4, .int (nI 1)), (0, .ref mo), (1, .int (nI 0)), (2, .int (nI 49152)), (3, .int (nI 16))]) hx hb dX10_addCage_37 hl (by decide) rfl (fun ls hl => ?_)
        refine lv_aload_n hx hb dX10_addCage_39 rfl (lv_at hl 1 rfl) ?_
        refine lv_aload_n hx hb dX10_addCage_40 rfl (lv_at hl 1 rfl) ?_
        refine lv_iload_n hx hb dX10_addCage_41 rfl (lv_at hl 2 rfl) ?_
        refine fin_i hP hD hS hA [0, 1] [2, 3, 4, 5] (wr := [(edh, .inl (gyO G, 10, .inr (.inr (.inr (.inr fb))))), (pz, .inr (13, [.ref gr, .ref mr, .ref cl])), (cl, .inr (4, [.int mdc, .ref edc, .int (nI n)])), (edc, .inl (gyO G, 10, .inr (.inr (.inr (.inr gc)))))]) rfl rfl (by decide) (by decide) (va_runV (As := [.int (nI 0)]) (rest := [.ref mo]) ⟨hx, hb, hml, hown, hts⟩ (c_X10_isPuzzle l G mo th al zn pf rs mdh edh H.size) (cwV 1 hts (gV q1002 q1004 q36 q52 q1005) rfl rfl rfl (by decide +kernel) ⟨Nat.le_of_ble_eq_true rfl, Nat.le_of_ble_eq_true rfl⟩) (preV (q0 := 0) (ci := 15) hK hE hP hD hS hA [0, 1] rfl (by decide) rfl rfl) rfl rfl hl.1 rfl (lv_room (Nat.le_of_ble_eq_true rfl)) dX10_addCage_42 ⟨Nat.le_of_ble_eq_true rfl, Nat.le_of_ble_eq_true rfl⟩) (fun r_13 u9 hw_12 H locs hP hD hS => ?_)
        subst hw_12
        have hP : va_P (gD G) vwCl [(edh, .inl (gyO G, 10, .inr (.inr (.inr (.inr fb))))), (pz, .inr (13, [.ref gr, .ref mr, .ref cl])), (cl, .inr (4, [.int mdc, .ref edc, .int (nI n)])), (edc, .inl (gyO G, 10, .inr (.inr (.inr (.inr gc))))), (mo, .inr (15, [.int th, .ref al, .long (lN zn), .null, .ref pf, .int rs])), (al, .inr (4, [.int mdh, .ref edh, .int (nI 1)]))] H := hP
        have hD : va_D A [(edh, .inl (gyO G, 10, .inr (.inr (.inr (.inr fb))))), (pz, .inr (13, [.ref gr, .ref mr, .ref cl])), (cl, .inr (4, [.int mdc, .ref edc, .int (nI n)])), (edc, .inl (gyO G, 10, .inr (.inr (.inr (.inr gc))))), (mo, .inr (15, [.int th, .ref al, .long (lN zn), .null, .ref pf, .int rs])), (al, .inr (4, [.int mdh, .ref edh, .int (nI 1)]))] := hD
        refine lv_if_ne (tgt := 52) hx hb dX10_addCage_45 (by decide) (fun c_14 => ?_) (fun c_14 => ?_)
        · skip
          have c_14 : ¬ 1 = 0 := fun z => c_14 ((nI_eq (a := 1) (b := 0) (by omega) (by omega)).mpr z)
          refine lv_iload hx hb dX10_addCage_52 (lv_at hl 0 rfl) ?_
          refine lv_if_ne (tgt := 61) hx hb dX10_addCage_54 (by decide) (fun c_15 => ?_) (fun c_15 => ?_)
          · skip
            have c_15 : ¬ 1 = 0 := fun z => c_15 ((nI_eq (a := 1) (b := 0) (by omega) (by omega)).mpr z)
            refine lv_aload_n hx hb dX10_addCage_61 rfl (lv_at hl 1 rfl) ?_
            refine va_get (D := gD G) (ci := 15) (v := .ref al) (C := RX10) (T := TX10) (N := 6) hx hb hts fwX10 hown hK hP 4 rfl rfl 1 (by decide) (hts _ q928) (fun _ h9 => h9) rfl dX10_addCage_62 ?_
            refine lv_iload_n hx hb dX10_addCage_65 rfl (lv_at hl 2 rfl) ?_
            refine fin_r5 hP hD hS hA [5, 0] [1, 2, 3, 4] (wr := [(pz, .inr (13, [.ref gr, .ref mr, .ref cl])), (cl, .inr (4, [.int mdc, .ref edc, .int (nI n)])), (edc, .inl (gyO G, 10, .inr (.inr (.inr (.inr gc))))), (mo, .inr (15, [.int th, .ref al, .long (lN zn), .null, .ref pf, .int rs]))]) rfl rfl (by decide) (by decide) (va_runF (As := [.int (nI 0)]) (rest := [.ref mo]) (hK.1 4 _ rfl).2 ⟨hx, hb, hml, hown, hts⟩ (c_Jx4a65c_get_915e3 l G al mdh edh 1 10 fb 0 pz (by omega) (by omega) (by omega) hfb H.size) (va_cwF 1 hts (gF q1013 q1016 q213 q48 q215) rfl rfl rfl (hE.1.2.1 _ FW5) (by decide +kernel) ⟨Nat.le_of_ble_eq_true rfl, Nat.le_of_ble_eq_true rfl⟩) (preV (q0 := 5) (ci := 4) hK hE hP hD hS hA [5, 0] rfl (by decide) rfl rfl) rfl rfl hl.1 rfl (lv_room (Nat.le_of_ble_eq_true rfl)) dX10_addCage_66 ⟨Nat.le_of_ble_eq_true rfl, Nat.le_of_ble_eq_true rfl⟩) (fun u9 r_17 hw_16 H locs hP hD hS => ?_)
            have hr_18 := hw_16
            have hr_18 : r_17 = pz := hr_18
            have hP : va_P (gD G) vwCl [(pz, .inr (13, [.ref gr, .ref mr, .ref cl])), (cl, .inr (4, [.int mdc, .ref edc, .int (nI n)])), (edc, .inl (gyO G, 10, .inr (.inr (.inr (.inr gc))))), (mo, .inr (15, [.int th, .ref al, .long (lN zn), .null, .ref pf, .int rs])), (al, .inr (4, [.int mdh, .ref edh, .int (nI 1)])), (edh, .inl (gyO G, 10, .inr (.inr (.inr (.inr fb)))))] H := hP
            have hD : va_D A [(pz, .inr (13, [.ref gr, .ref mr, .ref cl])), (cl, .inr (4, [.int mdc, .ref edc, .int (nI n)])), (edc, .inl (gyO G, 10, .inr (.inr (.inr (.inr gc))))), (mo, .inr (15, [.int th, .ref al, .long (lN zn), .null, .ref pf, .int rs])), (al, .inr (4, [.int mdh, .ref edh, .int (nI 1)])), (edh, .inl (gyO G, 10, .inr (.inr (.inr (.inr fb)))))] := hD
            refine lv_ter hr_18 ?_
            refine va_castE (nm := "PegboardryModel$Puzzle") hx hb hown (hts _ q966) (va_recv hK hP (show vwCl[13]? = some (RX8, TX8, 3) from rfl) (show ([(pz, .inr (13, [.ref gr, .ref mr, .ref cl])), (cl, .inr (4, [.int mdc, .ref edc, .int (nI n)])), (edc, .inl (gyO G, 10, .inr (.inr (.inr (.inr gc))))), (mo, .inr (15, [.int th, .ref al, .long (lN zn), .null, .ref pf, .int rs])), (al, .inr (4, [.int mdh, .ref edh, .int (nI 1)])), (edh, .inl (gyO G, 10, .inr (.inr (.inr (.inr fb)))))] : va_W)[0]? = some (pz, .inr (13, [.ref gr, .ref mr, .ref cl])) from rfl)) dX10_addCage_71 ?_
            refine va_getN (D := gD G) (ci := 13) (v := .ref cl) (C := RX8) (T := TX8) (N := 3) hx hb hts fwX8 hown hK hP 0 rfl rfl 2 (by decide) (va_Nw.use rfl (hE.1.1 _ nq979)) (fun _ h9 => h9) rfl dX10_addCage_74 ?_
            refine fin_i5 hP hD hS hA [1] [0, 2, 3, 4, 5] (wr := [(pz, .inr (13, [.ref gr, .ref mr, .ref cl])), (edc, .inl (gyO G, 10, .inr (.inr (.inr (.inr gc))))), (mo, .inr (15, [.int th, .ref al, .long (lN zn), .null, .ref pf, .int rs])), (al, .inr (4, [.int mdh, .ref edh, .int (nI 1)])), (edh, .inl (gyO G, 10, .inr (.inr (.inr (.inr fb)))))]) rfl rfl (by decide) (by decide) (va_runF (As := []) (rest := [.ref mo]) (hK.1 4 _ rfl).2 ⟨hx, hb, hml, hown, hts⟩ (c_Jx4a65c_size_8abf5 l G cl mdc edc n H.size) (va_cwF 0 hts (gF q955 q959 q209 q48 q211) rfl rfl rfl (hE.1.2.1 _ FW0) (by decide +kernel) ⟨Nat.le_of_ble_eq_true rfl, Nat.le_of_ble_eq_true rfl⟩) (preV (q0 := 1) (ci := 4) hK hE hP hD hS hA [1] rfl (by decide) rfl rfl) rfl rfl hl.1 rfl (lv_room (Nat.le_of_ble_eq_true rfl)) dX10_addCage_77 ⟨Nat.le_of_ble_eq_true rfl, Nat.le_of_ble_eq_true rfl⟩) (fun r_20 u9 hw_19 H locs hP hD hS => ?_)
            subst hw_19
            have hP : va_P (gD G) vwCl [(pz, .inr (13, [.ref gr, .ref mr, .ref cl])), (edc, .inl (gyO G, 10, .inr (.inr (.inr (.inr gc))))), (mo, .inr (15, [.int th, .ref al, .long (lN zn), .null, .ref pf, .int rs])), (al, .inr (4, [.int mdh, .ref edh, .int (nI 1)])), (edh, .inl (gyO G, 10, .inr (.inr (.inr (.inr fb))))), (cl, .inr (4, [.int mdc, .ref edc, .int (nI n)]))] H := hP
            have hD : va_D A [(pz, .inr (13, [.ref gr, .ref mr, .ref cl])), (edc, .inl (gyO G, 10, .inr (.inr (.inr (.inr gc))))), (mo, .inr (15, [.int th, .ref al, .long (lN zn), .null, .ref pf, .int rs])), (al, .inr (4, [.int mdh, .ref edh, .int (nI 1)])), (edh, .inl (gyO G, 10, .inr (.inr (.inr (.inr fb))))), (cl, .inr (4, [.int mdc, .ref edc, .int (nI n)]))] := hD
            refine lv_bipush (v := nI 6) hx hb dX10_addCage_82 (by decide) ?_
            refine lv_icmp_ne (tgt := 91) hx hb dX10_addCage_84 (by decide) (fun c_21 => ?_) (fun c_21 => ?_)
            · skip
              have c_21 : ¬ n = 6 := fun z => c_21 ((nI_eq (a := n) (b := 6) (by omega) (by omega)).mpr z)
              refine lv_iconst (v := nI 0) hx hb dX10_addCage_91 (by decide) ?_
              refine fin_i hP hD hS hA [2] [0, 1, 3, 4, 5] (wr := [(pz, .inr (13, [.ref gr, .ref mr, .ref cl])), (edc, .inl (gyO G, 10, .inr (.inr (.inr (.inr gc))))), (al, .inr (4, [.int mdh, .ref edh, .int (nI 1)])), (edh, .inl (gyO G, 10, .inr (.inr (.inr (.inr fb))))), (cl, .inr (4, [.int mdc, .ref edc, .int (nI n)]))]) rfl rfl (by decide) (by decide) (va_runV (As := [.int (nI 0)]) (rest := []) ⟨hx, hb, hml, hown, hts⟩ (c_isWrong_0 l G mo th al zn pf rs H.size) (cwV 1 hts (gV q962 q964 q34 q52 q965) rfl rfl rfl (by decide +kernel) ⟨Nat.le_of_ble_eq_true rfl, Nat.le_of_ble_eq_true rfl⟩) (preV (q0 := 2) (ci := 15) hK hE hP hD hS hA [2] rfl (by decide) rfl rfl) rfl rfl hl.1 rfl (lv_room (Nat.le_of_ble_eq_true rfl)) dX10_addCage_92 ⟨Nat.le_of_ble_eq_true rfl, Nat.le_of_ble_eq_true rfl⟩) (fun r_23 u9 hw_22 H locs hP hD hS => ?_)
              subst hw_22
              have hP : va_P (gD G) vwCl [(pz, .inr (13, [.ref gr, .ref mr, .ref cl])), (edc, .inl (gyO G, 10, .inr (.inr (.inr (.inr gc))))), (al, .inr (4, [.int mdh, .ref edh, .int (nI 1)])), (edh, .inl (gyO G, 10, .inr (.inr (.inr (.inr fb))))), (cl, .inr (4, [.int mdc, .ref edc, .int (nI n)])), (mo, .inr (15, [.int (nI 0), .ref al, .long (lN zn), .null, .ref pf, .int rs]))] H := hP
              have hD : va_D A [(pz, .inr (13, [.ref gr, .ref mr, .ref cl])), (edc, .inl (gyO G, 10, .inr (.inr (.inr (.inr gc))))), (al, .inr (4, [.int mdh, .ref edh, .int (nI 1)])), (edh, .inl (gyO G, 10, .inr (.inr (.inr (.inr fb))))), (cl, .inr (4, [.int mdc, .ref edc, .int (nI n)])), (mo, .inr (15, [.int (nI 0), .ref al, .long (lN zn), .null, .ref pf, .int rs]))] := hD
              refine lv_if_eq (tgt := 100) hx hb dX10_addCage_95 (by decide) (fun c_24 => ?_) (fun c_24 => ?_)
              · skip
                have c_24 : 0 = 0 := (nI_eq (a := 0) (b := 0) (by omega) (by omega)).mp c_24
                refine lv_aload_n hx hb dX10_addCage_100 rfl (lv_at hl 1 rfl) ?_
                refine va_get (D := gD G) (ci := 15) (v := .ref al) (C := RX10) (T := TX10) (N := 6) hx hb hts fwX10 hown hK hP 5 rfl rfl 1 (by decide) (hts _ q928) (fun _ h9 => h9) rfl dX10_addCage_101 ?_
                refine lv_iload_n hx hb dX10_addCage_104 rfl (lv_at hl 2 rfl) ?_
                refine fin_r5 hP hD hS hA [2, 3] [0, 1, 4, 5] (wr := [(pz, .inr (13, [.ref gr, .ref mr, .ref cl])), (edc, .inl (gyO G, 10, .inr (.inr (.inr (.inr gc))))), (cl, .inr (4, [.int mdc, .ref edc, .int (nI n)])), (mo, .inr (15, [.int (nI 0), .ref al, .long (lN zn), .null, .ref pf, .int rs]))]) rfl rfl (by decide) (by decide) (va_runF (As := [.int (nI 0)]) (rest := []) (hK.1 4 _ rfl).2 ⟨hx, hb, hml, hown, hts⟩ (c_Jx4a65c_get_915e3 l G al mdh edh 1 10 fb 0 pz (by omega) (by omega) (by omega) hfb H.size) (va_cwF 1 hts (gF q1013 q1016 q213 q48 q215) rfl rfl rfl (hE.1.2.1 _ FW5) (by decide +kernel) ⟨Nat.le_of_ble_eq_true rfl, Nat.le_of_ble_eq_true rfl⟩) (preV (q0 := 2) (ci := 4) hK hE hP hD hS hA [2, 3] rfl (by decide) rfl rfl) rfl rfl hl.1 rfl (lv_room (Nat.le_of_ble_eq_true rfl)) dX10_addCage_105 ⟨Nat.le_of_ble_eq_true rfl, Nat.le_of_ble_eq_true rfl⟩) (fun u9 r_26 hw_25 H locs hP hD hS => ?_)
                have hr_27 := hw_25
                have hr_27 : r_26 = pz := hr_27
                have hP : va_P (gD G) vwCl [(pz, .inr (13, [.ref gr, .ref mr, .ref cl])), (edc, .inl (gyO G, 10, .inr (.inr (.inr (.inr gc))))), (cl, .inr (4, [.int mdc, .ref edc, .int (nI n)])), (mo, .inr (15, [.int (nI 0), .ref al, .long (lN zn), .null, .ref pf, .int rs])), (al, .inr (4, [.int mdh, .ref edh, .int (nI 1)])), (edh, .inl (gyO G, 10, .inr (.inr (.inr (.inr fb)))))] H := hP
                have hD : va_D A [(pz, .inr (13, [.ref gr, .ref mr, .ref cl])), (edc, .inl (gyO G, 10, .inr (.inr (.inr (.inr gc))))), (cl, .inr (4, [.int mdc, .ref edc, .int (nI n)])), (mo, .inr (15, [.int (nI 0), .ref al, .long (lN zn), .null, .ref pf, .int rs])), (al, .inr (4, [.int mdh, .ref edh, .int (nI 1)])), (edh, .inl (gyO G, 10, .inr (.inr (.inr (.inr fb)))))] := hD
                refine lv_ter hr_27 ?_
                refine va_castE (nm := "PegboardryModel$Puzzle") hx hb hown (hts _ q966) (va_recv hK hP (show vwCl[13]? = some (RX8, TX8, 3) from rfl) (show ([(pz, .inr (13, [.ref gr, .ref mr, .ref cl])), (edc, .inl (gyO G, 10, .inr (.inr (.inr (.inr gc))))), (cl, .inr (4, [.int mdc, .ref edc, .int (nI n)])), (mo, .inr (15, [.int (nI 0), .ref al, .long (lN zn), .null, .ref pf, .int rs])), (al, .inr (4, [.int mdh, .ref edh, .int (nI 1)])), (edh, .inl (gyO G, 10, .inr (.inr (.inr (.inr fb)))))] : va_W)[0]? = some (pz, .inr (13, [.ref gr, .ref mr, .ref cl])) from rfl)) dX10_addCage_110 ?_
                refine va_getN (D := gD G) (ci := 13) (v := .ref cl) (C := RX8) (T := TX8) (N := 3) hx hb hts fwX8 hown hK hP 0 rfl rfl 2 (by decide) (va_Nw.use rfl (hE.1.1 _ nq979)) (fun _ h9 => h9) rfl dX10_addCage_113 ?_
                refine va_new (D := gD G) (ci := 12) (fs := [.int 0, .int 0]) (C := RX7) (T := TX7) (N := 2) hx hb hts fwX7 tyX7 tyX7_ok hown (hts _ q1025) (hts _ q1026) (hts _ q73) hK hP hD hS hA rfl (fun j hj => by rcases (show j = 0 ∨ j = 1 by omega) with rfl | rfl <;> rfl) (Nat.le_of_ble_eq_true rfl) (Nat.le_of_ble_eq_true rfl) dX10_addCage_116 (fun q_28 H hP hD hS => ?_)
                have hP : va_P (gD G) vwCl [(pz, .inr (13, [.ref gr, .ref mr, .ref cl])), (edc, .inl (gyO G, 10, .inr (.inr (.inr (.inr gc))))), (cl, .inr (4, [.int mdc, .ref edc, .int (nI n)])), (mo, .inr (15, [.int (nI 0), .ref al, .long (lN zn), .null, .ref pf, .int rs])), (al, .inr (4, [.int mdh, .ref edh, .int (nI 1)])), (edh, .inl (gyO G, 10, .inr (.inr (.inr (.inr fb))))), (q_28, .inr (12, [.int (nI 0), .int (nI 0)]))] H := hP
                have hD : va_D A [(pz, .inr (13, [.ref gr, .ref mr, .ref cl])), (edc, .inl (gyO G, 10, .inr (.inr (.inr (.inr gc))))), (cl, .inr (4, [.int mdc, .ref edc, .int (nI n)])), (mo, .inr (15, [.int (nI 0), .ref al, .long (lN zn), .null, .ref pf, .int rs])), (al, .inr (4, [.int mdh, .ref edh, .int (nI 1)])), (edh, .inl (gyO G, 10, .inr (.inr (.inr (.inr fb))))), (q_28, .inr (12, [.int (nI 0), .int (nI 0)]))] := hD
                refine lv_dup hx hb dX10_addCage_119 rfl ?_
                refine lv_iload_n hx hb dX10_addCage_120 rfl (lv_at hl 3 rfl) ?_
                refine lv_iload_n hx hb dX10_addCage_121 rfl (lv_at hl 4 rfl) ?_
                refine fin_v hP hD hS hA [6] [0, 1, 2, 3, 4, 5] (wr := [(pz, .inr (13, [.ref gr, .ref mr, .ref cl])), (edc, .inl (gyO G, 10, .inr (.inr (.inr (.inr gc))))), (cl, .inr (4, [.int mdc, .ref edc, .int (nI n)])), (mo, .inr (15, [.int (nI 0), .ref al, .long (lN zn), .null, .ref pf, .int rs])), (al, .inr (4, [.int mdh, .ref edh, .int (nI 1)])), (edh, .inl (gyO G, 10, .inr (.inr (.inr (.inr fb)))))]) rfl rfl (by decide) (by decide) (va_runI (As := [.int (nI 49152), .int (nI 16)]) (rest := [.ref q_28, .ref cl]) ⟨hx, hb, hml, hown, hts⟩ (c_X7_init l G q_28 H.size) (cwI 2 hts (gI q1029) rfl rfl rfl (hts _ q73) (hts _ q1027) (hts _ q1028) rfl (by decide +kernel) ⟨Nat.le_of_ble_eq_true rfl, Nat.le_of_ble_eq_true rfl⟩) (preS hK hE hP hD hS hA [6] rfl (by decide)) rfl rfl hl.1 rfl (lv_room (Nat.le_of_ble_eq_true rfl)) dX10_addCage_122 ⟨Nat.le_of_ble_eq_true rfl, Nat.le_of_ble_eq_true rfl⟩) (fun u9 hw_29 H locs hP hD hS => ?_)
                have hP : va_P (gD G) vwCl [(pz, .inr (13, [.ref gr, .ref mr, .ref cl])), (edc, .inl (gyO G, 10, .inr (.inr (.inr (.inr gc))))), (cl, .inr (4, [.int mdc, .ref edc, .int (nI n)])), (mo, .inr (15, [.int (nI 0), .ref al, .long (lN zn), .null, .ref pf, .int rs])), (al, .inr (4, [.int mdh, .ref edh, .int (nI 1)])), (edh, .inl (gyO G, 10, .inr (.inr (.inr (.inr fb))))), (q_28, .inr (12, [.int (nI 49152), .int (nI 16)]))] H := hP
                have hD : va_D A [(pz, .inr (13, [.ref gr, .ref mr, .ref cl])), (edc, .inl (gyO G, 10, .inr (.inr (.inr (.inr gc))))), (cl, .inr (4, [.int mdc, .ref edc, .int (nI n)])), (mo, .inr (15, [.int (nI 0), .ref al, .long (lN zn), .null, .ref pf, .int rs])), (al, .inr (4, [.int mdh, .ref edh, .int (nI 1)])), (edh, .inl (gyO G, 10, .inr (.inr (.inr (.inr fb))))), (q_28, .inr (12, [.int (nI 49152), .int (nI 16)]))] := hD
                refine fin_i5 hP hD hS hA [2, 1] [0, 3, 4, 5, 6] (wr := [(pz, .inr (13, [.ref gr, .ref mr, .ref cl])), (mo, .inr (15, [.int (nI 0), .ref al, .long (lN zn), .null, .ref pf, .int rs])), (al, .inr (4, [.int mdh, .ref edh, .int (nI 1)])), (edh, .inl (gyO G, 10, .inr (.inr (.inr (.inr fb))))), (q_28, .inr (12, [.int (nI 49152), .int (nI 16)]))]) rfl rfl (by decide) (by decide) (va_runF (As := [.ref q_28]) (rest := []) (hK.1 4 _ rfl).2 ⟨hx, hb, hml, hown, hts⟩ (c_add_room l (gSet G (fun y => y = q_28)) cl mdc edc n gc q_28 (by omega) (by omega) H.size) (va_cwF 1 hts (gF q988 q991 q469 q48 q471) rfl rfl rfl (hE.1.2.1 _ FW1) (by decide +kernel) ⟨Nat.le_of_ble_eq_true rfl, Nat.le_of_ble_eq_true rfl⟩) (preVG (ob_cell (q0 := 6) (ci := 12) hK hP hD rfl rfl (vb_asgC (hE.1.1 _ nq1393)) [2, 1] rfl (by decide)) (q0 := 2) (ci := 4) hK hE hP hD hS hA [2, 1] rfl (by decide) rfl rfl) rfl rfl hl.1 rfl (lv_room (Nat.le_of_ble_eq_true rfl)) dX10_addCage_125 ⟨Nat.le_of_ble_eq_true rfl, Nat.le_of_ble_eq_true rfl⟩) (fun r_33 u9 hw_32 H locs hP hD hS => ?_)
                obtain ⟨md2_31, rfl⟩ : ∃ z, z = u9 := ⟨_, rfl⟩
                have hP : va_P (gD G) vwCl [(pz, .inr (13, [.ref gr, .ref mr, .ref cl])), (mo, .inr (15, [.int (nI 0), .ref al, .long (lN zn), .null, .ref pf, .int rs])), (al, .inr (4, [.int mdh, .ref edh, .int (nI 1)])), (edh, .inl (gyO G, 10, .inr (.inr (.inr (.inr fb))))), (q_28, .inr (12, [.int (nI 49152), .int (nI 16)])), (cl, .inr (4, [.int md2_31, .ref edc, .int (nI (n + 1))])), (edc, .inl (gyO G, 10, .inr (.inr (.inr (.inr (va_up gc n (some q_28)))))))] H := hP
                have hD : va_D A [(pz, .inr (13, [.ref gr, .ref mr, .ref cl])), (mo, .inr (15, [.int (nI 0), .ref al, .long (lN zn), .null, .ref pf, .int rs])), (al, .inr (4, [.int mdh, .ref edh, .int (nI 1)])), (edh, .inl (gyO G, 10, .inr (.inr (.inr (.inr fb))))), (q_28, .inr (12, [.int (nI 49152), .int (nI 16)])), (cl, .inr (4, [.int md2_31, .ref edc, .int (nI (n + 1))])), (edc, .inl (gyO G, 10, .inr (.inr (.inr (.inr (va_up gc n (some q_28)))))))] := hD
                refine lv_pop hx hb dX10_addCage_130 rfl ?_
                refine lv_aload_n hx hb dX10_addCage_131 rfl (lv_at hl 1 rfl) ?_
                refine va_get (D := gD G) (ci := 15) (v := .ref al) (C := RX10) (T := TX10) (N := 6) hx hb hts fwX10 hown hK hP 1 rfl rfl 1 (by decide) (hts _ q928) (fun _ h9 => h9) rfl dX10_addCage_132 ?_
                refine lv_iload_n hx hb dX10_addCage_135 rfl (lv_at hl 2 rfl) ?_
                refine fin_r5 hP hD hS hA [2, 3] [0, 1, 4, 5, 6] (wr := [(pz, .inr (13, [.ref gr, .ref mr, .ref cl])), (mo, .inr (15, [.int (nI 0), .ref al, .long (lN zn), .null, .ref pf, .int rs])), (q_28, .inr (12, [.int (nI 49152), .int (nI 16)])), (cl, .inr (4, [.int md2_31, .ref edc, .int (nI (n + 1))])), (edc, .inl (gyO G, 10, .inr (.inr (.inr (.inr (va_up gc n (some q_28)))))))]) rfl rfl (by decide) (by decide) (va_runF (As := [.int (nI 0)]) (rest := []) (hK.1 4 _ rfl).2 ⟨hx, hb, hml, hown, hts⟩ (c_Jx4a65c_get_915e3 l G al mdh edh 1 10 fb 0 pz (by omega) (by omega) (by omega) hfb H.size) (va_cwF 1 hts (gF q1013 q1016 q213 q48 q215) rfl rfl rfl (hE.1.2.1 _ FW5) (by decide +kernel) ⟨Nat.le_of_ble_eq_true rfl, Nat.le_of_ble_eq_true rfl⟩) (preV (q0 := 2) (ci := 4) hK hE hP hD hS hA [2, 3] rfl (by decide) rfl rfl) rfl rfl hl.1 rfl (lv_room (Nat.le_of_ble_eq_true rfl)) dX10_addCage_136 ⟨Nat.le_of_ble_eq_true rfl, Nat.le_of_ble_eq_true rfl⟩) (fun u9 r_35 hw_34 H locs hP hD hS => ?_)
                have hr_36 := hw_34
                have hr_36 : r_35 = pz := hr_36
                have hP : va_P (gD G) vwCl [(pz, .inr (13, [.ref gr, .ref mr, .ref cl])), (mo, .inr (15, [.int (nI 0), .ref al, .long (lN zn), .null, .ref pf, .int rs])), (q_28, .inr (12, [.int (nI 49152), .int (nI 16)])), (cl, .inr (4, [.int md2_31, .ref edc, .int (nI (n + 1))])), (edc, .inl (gyO G, 10, .inr (.inr (.inr (.inr (va_up gc n (some q_28))))))), (al, .inr (4, [.int mdh, .ref edh, .int (nI 1)])), (edh, .inl (gyO G, 10, .inr (.inr (.inr (.inr fb)))))] H := hP
                have hD : va_D A [(pz, .inr (13, [.ref gr, .ref mr, .ref cl])), (mo, .inr (15, [.int (nI 0), .ref al, .long (lN zn), .null, .ref pf, .int rs])), (q_28, .inr (12, [.int (nI 49152), .int (nI 16)])), (cl, .inr (4, [.int md2_31, .ref edc, .int (nI (n + 1))])), (edc, .inl (gyO G, 10, .inr (.inr (.inr (.inr (va_up gc n (some q_28))))))), (al, .inr (4, [.int mdh, .ref edh, .int (nI 1)])), (edh, .inl (gyO G, 10, .inr (.inr (.inr (.inr fb)))))] := hD
                refine lv_ter hr_36 ?_
                refine va_castE (nm := "PegboardryModel$Puzzle") hx hb hown (hts _ q966) (va_recv hK hP (show vwCl[13]? = some (RX8, TX8, 3) from rfl) (show ([(pz, .inr (13, [.ref gr, .ref mr, .ref cl])), (mo, .inr (15, [.int (nI 0), .ref al, .long (lN zn), .null, .ref pf, .int rs])), (q_28, .inr (12, [.int (nI 49152), .int (nI 16)])), (cl, .inr (4, [.int md2_31, .ref edc, .int (nI (n + 1))])), (edc, .inl (gyO G, 10, .inr (.inr (.inr (.inr (va_up gc n (some q_28))))))), (al, .inr (4, [.int mdh, .ref edh, .int (nI 1)])), (edh, .inl (gyO G, 10, .inr (.inr (.inr (.inr fb)))))] : va_W)[0]? = some (pz, .inr (13, [.ref gr, .ref mr, .ref cl])) from rfl)) dX10_addCage_141 ?_
                refine va_getN (D := gD G) (ci := 13) (v := .ref cl) (C := RX8) (T := TX8) (N := 3) hx hb hts fwX8 hown hK hP 0 rfl rfl 2 (by decide) (va_Nw.use rfl (hE.1.1 _ nq979)) (fun _ h9 => h9) rfl dX10_addCage_144 ?_
                refine fin_i5 hP hD hS hA [3] [0, 1, 2, 4, 5, 6] (wr := [(pz, .inr (13, [.ref gr, .ref mr, .ref cl])), (mo, .inr (15, [.int (nI 0), .ref al, .long (lN zn), .null, .ref pf, .int rs])), (q_28, .inr (12, [.int (nI 49152), .int (nI 16)])), (edc, .inl (gyO G, 10, .inr (.inr (.inr (.inr (va_up gc n (some q_28))))))), (al, .inr (4, [.int mdh, .ref edh, .int (nI 1)])), (edh, .inl (gyO G, 10, .inr (.inr (.inr (.inr fb)))))]) rfl rfl (by decide) (by decide) (va_runF (As := []) (rest := []) (hK.1 4 _ rfl).2 ⟨hx, hb, hml, hown, hts⟩ (c_Jx4a65c_size_8abf5 l G cl md2_31 edc (n + 1) H.size) (va_cwF 0 hts (gF q955 q959 q209 q48 q211) rfl rfl rfl (hE.1.2.1 _ FW0) (by decide +kernel) ⟨Nat.le_of_ble_eq_true rfl, Nat.le_of_ble_eq_true rfl⟩) (preV (q0 := 3) (ci := 4) hK hE hP hD hS hA [3] rfl (by decide) rfl rfl) rfl rfl hl.1 rfl (lv_room (Nat.le_of_ble_eq_true rfl)) dX10_addCage_147 ⟨Nat.le_of_ble_eq_true rfl, Nat.le_of_ble_eq_true rfl⟩) (fun r_38 u9 hw_37 H locs hP hD hS => ?_)
                subst hw_37
                have hP : va_P (gD G) vwCl [(pz, .inr (13, [.ref gr, .ref mr, .ref cl])), (mo, .inr (15, [.int (nI 0), .ref al, .long (lN zn), .null, .ref pf, .int rs])), (q_28, .inr (12, [.int (nI 49152), .int (nI 16)])), (edc, .inl (gyO G, 10, .inr (.inr (.inr (.inr (va_up gc n (some q_28))))))), (al, .inr (4, [.int mdh, .ref edh, .int (nI 1)])), (edh, .inl (gyO G, 10, .inr (.inr (.inr (.inr fb))))), (cl, .inr (4, [.int md2_31, .ref edc, .int (nI (n + 1))]))] H := hP
                have hD : va_D A [(pz, .inr (13, [.ref gr, .ref mr, .ref cl])), (mo, .inr (15, [.int (nI 0), .ref al, .long (lN zn), .null, .ref pf, .int rs])), (q_28, .inr (12, [.int (nI 49152), .int (nI 16)])), (edc, .inl (gyO G, 10, .inr (.inr (.inr (.inr (va_up gc n (some q_28))))))), (al, .inr (4, [.int mdh, .ref edh, .int (nI 1)])), (edh, .inl (gyO G, 10, .inr (.inr (.inr (.inr fb))))), (cl, .inr (4, [.int md2_31, .ref edc, .int (nI (n + 1))]))] := hD
                have hP9 := hP.sub (ws' := [(mo, .inr (15, [.int (nI 0), .ref al, .long (lN zn), .null, .ref pf, .int rs])), (al, .inr (4, [.int mdh, .ref edh, .int (nI 1)])), (edh, .inl (gyO G, 10, .inr (.inr (.inr (.inr fb))))), (pz, .inr (13, [.ref gr, .ref mr, .ref cl])), (cl, .inr (4, [.int md2_31, .ref edc, .int (nI (n + 1))])), (edc, .inl (gyO G, 10, .inr (.inr (.inr (.inr (va_up gc n (some q_28))))))), (q_28, .inr (12, [.int (nI 49152), .int (nI 16)]))]) [1, 4, 5, 0, 6, 3, 2] rfl
                have hD9 := hD.sub (ws' := [(mo, .inr (15, [.int (nI 0), .ref al, .long (lN zn), .null, .ref pf, .int rs])), (al, .inr (4, [.int mdh, .ref edh, .int (nI 1)])), (edh, .inl (gyO G, 10, .inr (.inr (.inr (.inr fb))))), (pz, .inr (13, [.ref gr, .ref mr, .ref cl])), (cl, .inr (4, [.int md2_31, .ref edc, .int (nI (n + 1))])), (edc, .inl (gyO G, 10, .inr (.inr (.inr (.inr (va_up gc n (some q_28))))))), (q_28, .inr (12, [.int (nI 49152), .int (nI 16)]))]) [1, 4, 5, 0, 6, 3, 2] (by decide) rfl
                refine W.widen (k := 3) (n := 14) (Nat.le_of_ble_eq_true rfl) (Nat.le_of_ble_eq_true rfl) ?_
                subst hQ
                exact W.iret (v := nI (n + 1)) hx hb hr (fun t ht hW => ⟨⟨nI (n + 1), (md2_31, q_28), rfl, rfl, by rw [ht]; exact hP9, hD9⟩, hS.F ht⟩) hS.2.2 dX10_addCage_152
              · skip
                have c_24 : ¬ 0 = 0 := fun z => c_24 ((nI_eq (a := 0) (b := 0) (by omega) (by omega)).mpr z)
                exact absurd c_24 (by decide)
            · skip
              have c_21 : n = 6 := (nI_eq (a := n) (b := 6) (by omega) (by omega)).mp c_21
              exfalso; omega
          · skip
            have c_15 : 1 = 0 := (nI_eq (a := 1) (b := 0) (by omega) (by omega)).mp c_15
            exact absurd c_15 (by decide)
        · skip
          have c_14 : 1 = 0 := (nI_eq (a := 1) (b := 0) (by omega) (by omega)).mp c_14
          exact absurd c_14 (by decide)
