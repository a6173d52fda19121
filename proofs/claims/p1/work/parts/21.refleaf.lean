theorem q52 : (Jvm.Cond.initialized "PegboardryModel") ∈ WW := inW 52 (by decide +kernel) rfl
theorem q62 : (Jvm.Cond.initialized "PegboardryModel$Puzzle") ∈ WW := inW 62 (by decide +kernel) rfl
theorem q974 : (Jvm.Cond.fieldLink "PegboardryModel$Puzzle" (9 : Nat) "PegboardryModel$Puzzle" "givens" "[I") ∈ WW := inW 974 (by decide +kernel) rfl
theorem nq1076 : (Jvm.Cond.methodLinkNest "PegboardryModel$Way" (55 : Nat) ({ cls := "PegboardryModel", name := "isIn", desc := "(II)Z" } : Jvm.MethodName) "PegboardryModel") ∈ NWs := inN 1076 (by decide +kernel) rfl
theorem q1077 : (Jvm.Cond.static ({ cls := "PegboardryModel", name := "isIn", desc := "(II)Z" } : Jvm.MethodName)) ∈ WW := inW 1077 (by decide +kernel) rfl
theorem q1078 : (Jvm.Cond.code ({ cls := "PegboardryModel", name := "isIn", desc := "(II)Z" } : Jvm.MethodName) prog_9_method_6_code (2 : Nat) (Option.some Jvm.ClassFile.FieldType.boolean)) ∈ WW := inW 1078 (by decide +kernel) rfl
theorem q1079 : (Jvm.Cond.methodLink "PegboardryModel$Way" (59 : Nat) ({ cls := "PegboardryModel$Puzzle", name := "isTaken", desc := "(III[I)Z" } : Jvm.MethodName)) ∈ WW := inW 1079 (by decide +kernel) rfl
theorem q1080 : (Jvm.Cond.instanceMethod ({ cls := "PegboardryModel$Puzzle", name := "isTaken", desc := "(III[I)Z" } : Jvm.MethodName)) ∈ WW := inW 1080 (by decide +kernel) rfl
theorem q1081 : (Jvm.Cond.selects "PegboardryModel$Puzzle" ({ cls := "PegboardryModel$Puzzle", name := "isTaken", desc := "(III[I)Z" } : Jvm.MethodName) ({ cls := "PegboardryModel$Puzzle", name := "isTaken", desc := "(III[I)Z" } : Jvm.MethodName)) ∈ WW := inW 1081 (by decide +kernel) rfl
theorem q1082 : (Jvm.Cond.code ({ cls := "PegboardryModel$Puzzle", name := "isTaken", desc := "(III[I)Z" } : Jvm.MethodName) prog_11_method_2_code (5 : Nat) (Option.some Jvm.ClassFile.FieldType.boolean)) ∈ WW := inW 1082 (by decide +kernel) rfl
theorem q1083 : (Jvm.Cond.methodLink "PegboardryModel$Puzzle" (25 : Nat) ({ cls := "PegboardryModel$Puzzle", name := "byOnly", desc := "(II[I)Z" } : Jvm.MethodName)) ∈ WW := inW 1083 (by decide +kernel) rfl
theorem q1084 : (Jvm.Cond.static ({ cls := "PegboardryModel$Puzzle", name := "byOnly", desc := "(II[I)Z" } : Jvm.MethodName)) ∈ WW := inW 1084 (by decide +kernel) rfl
theorem q1085 : (Jvm.Cond.code ({ cls := "PegboardryModel$Puzzle", name := "byOnly", desc := "(II[I)Z" } : Jvm.MethodName) prog_11_method_3_code (5 : Nat) (Option.some Jvm.ClassFile.FieldType.boolean)) ∈ WW := inW 1085 (by decide +kernel) rfl
theorem nq1086 : (Jvm.Cond.methodLinkNest "PegboardryModel$Puzzle" (38 : Nat) ({ cls := "PegboardryModel", name := "areInLine", desc := "(II)Z" } : Jvm.MethodName) "PegboardryModel") ∈ NWs := inN 1086 (by decide +kernel) rfl
theorem q1087 : (Jvm.Cond.static ({ cls := "PegboardryModel", name := "areInLine", desc := "(II)Z" } : Jvm.MethodName)) ∈ WW := inW 1087 (by decide +kernel) rfl
theorem q1088 : (Jvm.Cond.code ({ cls := "PegboardryModel", name := "areInLine", desc := "(II)Z" } : Jvm.MethodName) prog_9_method_7_code (2 : Nat) (Option.some Jvm.ClassFile.FieldType.boolean)) ∈ WW := inW 1088 (by decide +kernel) rfl
theorem q1089 : (Jvm.Cond.methodLink "PegboardryModel$Puzzle" (29 : Nat) ({ cls := "PegboardryModel$Puzzle", name := "byPlace", desc := "(II[I)Z" } : Jvm.MethodName)) ∈ WW := inW 1089 (by decide +kernel) rfl
theorem q1090 : (Jvm.Cond.static ({ cls := "PegboardryModel$Puzzle", name := "byPlace", desc := "(II[I)Z" } : Jvm.MethodName)) ∈ WW := inW 1090 (by decide +kernel) rfl
theorem q1091 : (Jvm.Cond.code ({ cls := "PegboardryModel$Puzzle", name := "byPlace", desc := "(II[I)Z" } : Jvm.MethodName) prog_11_method_4_code (6 : Nat) (Option.some Jvm.ClassFile.FieldType.boolean)) ∈ WW := inW 1091 (by decide +kernel) rfl
theorem q1092 : (Jvm.Cond.methodLink "PegboardryModel$Puzzle" (32 : Nat) ({ cls := "PegboardryModel$Puzzle", name := "byPair", desc := "(II[I)Z" } : Jvm.MethodName)) ∈ WW := inW 1092 (by decide +kernel) rfl
theorem q1093 : (Jvm.Cond.static ({ cls := "PegboardryModel$Puzzle", name := "byPair", desc := "(II[I)Z" } : Jvm.MethodName)) ∈ WW := inW 1093 (by decide +kernel) rfl
theorem q1094 : (Jvm.Cond.code ({ cls := "PegboardryModel$Puzzle", name := "byPair", desc := "(II[I)Z" } : Jvm.MethodName) prog_11_method_5_code (8 : Nat) (Option.some Jvm.ClassFile.FieldType.boolean)) ∈ WW := inW 1094 (by decide +kernel) rfl
theorem q1095 : (Jvm.Cond.methodLink "PegboardryModel$Puzzle" (42 : Nat) ({ cls := "java/lang/Integer", name := "bitCount", desc := "(I)I" } : Jvm.MethodName)) ∈ WW := inW 1095 (by decide +kernel) rfl
theorem nq1096 : (Jvm.Cond.methodLinkNest "PegboardryModel$Puzzle" (48 : Nat) ({ cls := "PegboardryModel", name := "isIn", desc := "(II)Z" } : Jvm.MethodName) "PegboardryModel") ∈ NWs := inN 1096 (by decide +kernel) rfl
theorem q1198 : (Jvm.Cond.methodLink "PegboardryModel$Way" (47 : Nat) ({ cls := "java/lang/Integer", name := "bitCount", desc := "(I)I" } : Jvm.MethodName)) ∈ WW := inW 1198 (by decide +kernel) rfl
theorem q1203 : (Jvm.Cond.fieldLink "PegboardryModel$Way" (9 : Nat) "PegboardryModel$Way" "candidates" "[I") ∈ WW := inW 1203 (by decide +kernel) rfl
theorem dX10_isIn_0 : decode cX10_isIn 0 = .ok (.iload_n 0, 1) := by decide +kernel
theorem dX10_isIn_1 : decode cX10_isIn 1 = .ok (.iload_n 1, 1) := by decide +kernel
theorem dX10_isIn_2 : decode cX10_isIn 2 = .ok (.iconst 1, 1) := by decide +kernel
theorem dX10_isIn_3 : decode cX10_isIn 3 = .ok (.isub, 1) := by decide +kernel
theorem dX10_isIn_4 : decode cX10_isIn 4 = .ok (.ishr, 1) := by decide +kernel
theorem dX10_isIn_5 : decode cX10_isIn 5 = .ok (.iconst 1, 1) := by decide +kernel
theorem dX10_isIn_6 : decode cX10_isIn 6 = .ok (.iand, 1) := by decide +kernel
theorem dX10_isIn_7 : decode cX10_isIn 7 = .ok (.ifCond .eq 7, 3) := by decide +kernel
theorem dX10_isIn_14 : decode cX10_isIn 14 = .ok (.iconst 0, 1) := by decide +kernel
theorem dX10_isIn_15 : decode cX10_isIn 15 = .ok (.ireturn, 1) := by decide +kernel
theorem dX10_isIn_10 : decode cX10_isIn 10 = .ok (.iconst 1, 1) := by decide +kernel
theorem dX10_isIn_11 : decode cX10_isIn 11 = .ok (.goto 4, 3) := by decide +kernel
theorem dX10_areInLine_0 : decode cX10_areInLine 0 = .ok (.iload_n 0, 1) := by decide +kernel
theorem dX10_areInLine_1 : decode cX10_areInLine 1 = .ok (.iload_n 1, 1) := by decide +kernel
theorem dX10_areInLine_2 : decode cX10_areInLine 2 = .ok (.if_icmp .eq 25, 3) := by decide +kernel
theorem dX10_areInLine_27 : decode cX10_areInLine 27 = .ok (.iconst 0, 1) := by decide +kernel
theorem dX10_areInLine_28 : decode cX10_areInLine 28 = .ok (.ireturn, 1) := by decide +kernel
theorem dX10_areInLine_5 : decode cX10_areInLine 5 = .ok (.iload_n 0, 1) := by decide +kernel
theorem dX10_areInLine_6 : decode cX10_areInLine 6 = .ok (.iconst 4, 1) := by decide +kernel
theorem dX10_areInLine_7 : decode cX10_areInLine 7 = .ok (.idiv, 1) := by decide +kernel
theorem dX10_areInLine_8 : decode cX10_areInLine 8 = .ok (.iload_n 1, 1) := by decide +kernel
theorem dX10_areInLine_9 : decode cX10_areInLine 9 = .ok (.iconst 4, 1) := by decide +kernel
theorem dX10_areInLine_10 : decode cX10_areInLine 10 = .ok (.idiv, 1) := by decide +kernel
theorem dX10_areInLine_11 : decode cX10_areInLine 11 = .ok (.if_icmp .eq 12, 3) := by decide +kernel
theorem dX10_areInLine_23 : decode cX10_areInLine 23 = .ok (.iconst 1, 1) := by decide +kernel
theorem dX10_areInLine_24 : decode cX10_areInLine 24 = .ok (.goto 4, 3) := by decide +kernel
theorem dX10_areInLine_14 : decode cX10_areInLine 14 = .ok (.iload_n 0, 1) := by decide +kernel
theorem dX10_areInLine_15 : decode cX10_areInLine 15 = .ok (.iconst 4, 1) := by decide +kernel
theorem dX10_areInLine_16 : decode cX10_areInLine 16 = .ok (.irem, 1) := by decide +kernel
theorem dX10_areInLine_17 : decode cX10_areInLine 17 = .ok (.iload_n 1, 1) := by decide +kernel
theorem dX10_areInLine_18 : decode cX10_areInLine 18 = .ok (.iconst 4, 1) := by decide +kernel
theorem dX10_areInLine_19 : decode cX10_areInLine 19 = .ok (.irem, 1) := by decide +kernel
theorem dX10_areInLine_20 : decode cX10_areInLine 20 = .ok (.if_icmp .ne 7, 3) := by decide +kernel
theorem dX8_byOnly_0 : decode cX8_byOnly 0 = .ok (.iconst 0, 1) := by decide +kernel
theorem dX8_byOnly_1 : decode cX8_byOnly 1 = .ok (.istore_n 3, 1) := by decide +kernel
theorem dX8_byOnly_2 : decode cX8_byOnly 2 = .ok (.iconst 0, 1) := by decide +kernel
theorem dX8_byOnly_3 : decode cX8_byOnly 3 = .ok (.istore 4, 2) := by decide +kernel
theorem dX8_byOnly_5 : decode cX8_byOnly 5 = .ok (.iload 4, 2) := by decide +kernel
theorem dX8_byOnly_7 : decode cX8_byOnly 7 = .ok (.bipush 16, 2) := by decide +kernel
theorem dX8_byOnly_9 : decode cX8_byOnly 9 = .ok (.if_icmp .ge 38, 3) := by decide +kernel
theorem dX8_byOnly_47 : decode cX8_byOnly 47 = .ok (.iload_n 3, 1) := by decide +kernel
theorem dX8_byOnly_48 : decode cX8_byOnly 48 = .ok (.ireturn, 1) := by decide +kernel
theorem dX8_byOnly_12 : decode cX8_byOnly 12 = .ok (.iload_n 3, 1) := by decide +kernel
theorem dX8_byOnly_13 : decode cX8_byOnly 13 = .ok (.iload 4, 2) := by decide +kernel
theorem dX8_byOnly_15 : decode cX8_byOnly 15 = .ok (.iload_n 0, 1) := by decide +kernel
theorem dX8_byOnly_16 : decode cX8_byOnly 16 = .ok (.invokestatic 38, 3) := by decide +kernel
theorem dX8_byOnly_19 : decode cX8_byOnly 19 = .ok (.ifCond .eq 19, 3) := by decide +kernel
theorem dX8_byOnly_38 : decode cX8_byOnly 38 = .ok (.iconst 0, 1) := by decide +kernel
theorem dX8_byOnly_39 : decode cX8_byOnly 39 = .ok (.ior, 1) := by decide +kernel
theorem dX8_byOnly_40 : decode cX8_byOnly 40 = .ok (.istore_n 3, 1) := by decide +kernel
theorem dX8_byOnly_41 : decode cX8_byOnly 41 = .ok (.iinc 4 1, 3) := by decide +kernel
theorem dX8_byOnly_44 : decode cX8_byOnly 44 = .ok (.goto (-39), 3) := by decide +kernel
theorem dX8_byOnly_22 : decode cX8_byOnly 22 = .ok (.aload_n 2, 1) := by decide +kernel
theorem dX8_byOnly_23 : decode cX8_byOnly 23 = .ok (.iload 4, 2) := by decide +kernel
theorem dX8_byOnly_25 : decode cX8_byOnly 25 = .ok (.iaload, 1) := by decide +kernel
theorem dX8_byOnly_26 : decode cX8_byOnly 26 = .ok (.iconst 1, 1) := by decide +kernel
theorem dX8_byOnly_27 : decode cX8_byOnly 27 = .ok (.iload_n 1, 1) := by decide +kernel
theorem dX8_byOnly_28 : decode cX8_byOnly 28 = .ok (.iconst 1, 1) := by decide +kernel
theorem dX8_byOnly_29 : decode cX8_byOnly 29 = .ok (.isub, 1) := by decide +kernel
theorem dX8_byOnly_30 : decode cX8_byOnly 30 = .ok (.ishl, 1) := by decide +kernel
theorem dX8_byOnly_31 : decode cX8_byOnly 31 = .ok (.if_icmp .ne 7, 3) := by decide +kernel
theorem dX8_byOnly_34 : decode cX8_byOnly 34 = .ok (.iconst 1, 1) := by decide +kernel
theorem dX8_byOnly_35 : decode cX8_byOnly 35 = .ok (.goto 4, 3) := by decide +kernel
theorem dX8_byPlace_0 : decode cX8_byPlace 0 = .ok (.iconst 0, 1) := by decide +kernel
theorem dX8_byPlace_1 : decode cX8_byPlace 1 = .ok (.istore_n 3, 1) := by decide +kernel
theorem dX8_byPlace_2 : decode cX8_byPlace 2 = .ok (.iconst 0, 1) := by decide +kernel
theorem dX8_byPlace_3 : decode cX8_byPlace 3 = .ok (.istore 4, 2) := by decide +kernel
theorem dX8_byPlace_5 : decode cX8_byPlace 5 = .ok (.iconst 0, 1) := by decide +kernel
theorem dX8_byPlace_6 : decode cX8_byPlace 6 = .ok (.istore 5, 2) := by decide +kernel
theorem dX8_byPlace_8 : decode cX8_byPlace 8 = .ok (.iload 5, 2) := by decide +kernel
theorem dX8_byPlace_10 : decode cX8_byPlace 10 = .ok (.bipush 16, 2) := by decide +kernel
theorem dX8_byPlace_12 : decode cX8_byPlace 12 = .ok (.if_icmp .ge 57, 3) := by decide +kernel
theorem dX8_byPlace_69 : decode cX8_byPlace 69 = .ok (.aload_n 2, 1) := by decide +kernel
theorem dX8_byPlace_70 : decode cX8_byPlace 70 = .ok (.iload_n 0, 1) := by decide +kernel
theorem dX8_byPlace_71 : decode cX8_byPlace 71 = .ok (.iaload, 1) := by decide +kernel
theorem dX8_byPlace_72 : decode cX8_byPlace 72 = .ok (.iconst 1, 1) := by decide +kernel
theorem dX8_byPlace_73 : decode cX8_byPlace 73 = .ok (.iload_n 1, 1) := by decide +kernel
theorem dX8_byPlace_74 : decode cX8_byPlace 74 = .ok (.iconst 1, 1) := by decide +kernel
theorem dX8_byPlace_75 : decode cX8_byPlace 75 = .ok (.isub, 1) := by decide +kernel
theorem dX8_byPlace_76 : decode cX8_byPlace 76 = .ok (.ishl, 1) := by decide +kernel
theorem dX8_byPlace_77 : decode cX8_byPlace 77 = .ok (.iconst (-1), 1) := by decide +kernel
theorem dX8_byPlace_78 : decode cX8_byPlace 78 = .ok (.ixor, 1) := by decide +kernel
theorem dX8_byPlace_79 : decode cX8_byPlace 79 = .ok (.iand, 1) := by decide +kernel
theorem dX8_byPlace_80 : decode cX8_byPlace 80 = .ok (.istore 5, 2) := by decide +kernel
theorem dX8_byPlace_82 : decode cX8_byPlace 82 = .ok (.iload 5, 2) := by decide +kernel
theorem dX8_byPlace_84 : decode cX8_byPlace 84 = .ok (.iload_n 3, 1) := by decide +kernel
theorem dX8_byPlace_85 : decode cX8_byPlace 85 = .ok (.iconst (-1), 1) := by decide +kernel
theorem dX8_byPlace_86 : decode cX8_byPlace 86 = .ok (.ixor, 1) := by decide +kernel
theorem dX8_byPlace_87 : decode cX8_byPlace 87 = .ok (.iand, 1) := by decide +kernel
theorem dX8_byPlace_88 : decode cX8_byPlace 88 = .ok (.ifCond .ne 13, 3) := by decide +kernel
theorem dX8_byPlace_101 : decode cX8_byPlace 101 = .ok (.iconst 1, 1) := by decide +kernel
theorem dX8_byPlace_102 : decode cX8_byPlace 102 = .ok (.goto 4, 3) := by decide +kernel
theorem dX8_byPlace_106 : decode cX8_byPlace 106 = .ok (.ireturn, 1) := by decide +kernel
theorem dX8_byPlace_91 : decode cX8_byPlace 91 = .ok (.iload 5, 2) := by decide +kernel
theorem dX8_byPlace_93 : decode cX8_byPlace 93 = .ok (.iload 4, 2) := by decide +kernel
theorem dX8_byPlace_95 : decode cX8_byPlace 95 = .ok (.iconst (-1), 1) := by decide +kernel
theorem dX8_byPlace_96 : decode cX8_byPlace 96 = .ok (.ixor, 1) := by decide +kernel
theorem dX8_byPlace_97 : decode cX8_byPlace 97 = .ok (.iand, 1) := by decide +kernel
theorem dX8_byPlace_98 : decode cX8_byPlace 98 = .ok (.ifCond .eq 7, 3) := by decide +kernel
theorem dX8_byPlace_105 : decode cX8_byPlace 105 = .ok (.iconst 0, 1) := by decide +kernel
theorem dX8_byPlace_15 : decode cX8_byPlace 15 = .ok (.iload 5, 2) := by decide +kernel
theorem dX8_byPlace_17 : decode cX8_byPlace 17 = .ok (.iload_n 0, 1) := by decide +kernel
theorem dX8_byPlace_18 : decode cX8_byPlace 18 = .ok (.if_icmp .eq 20, 3) := by decide +kernel
theorem dX8_byPlace_38 : decode cX8_byPlace 38 = .ok (.iload 5, 2) := by decide +kernel
theorem dX8_byPlace_40 : decode cX8_byPlace 40 = .ok (.iload_n 0, 1) := by decide +kernel
theorem dX8_byPlace_41 : decode cX8_byPlace 41 = .ok (.if_icmp .eq 22, 3) := by decide +kernel
theorem dX8_byPlace_63 : decode cX8_byPlace 63 = .ok (.iinc 5 1, 3) := by decide +kernel
theorem dX8_byPlace_66 : decode cX8_byPlace 66 = .ok (.goto (-58), 3) := by decide +kernel
theorem dX8_byPlace_44 : decode cX8_byPlace 44 = .ok (.iload 5, 2) := by decide +kernel
theorem dX8_byPlace_46 : decode cX8_byPlace 46 = .ok (.iconst 4, 1) := by decide +kernel
theorem dX8_byPlace_47 : decode cX8_byPlace 47 = .ok (.irem, 1) := by decide +kernel
theorem dX8_byPlace_48 : decode cX8_byPlace 48 = .ok (.iload_n 0, 1) := by decide +kernel
theorem dX8_byPlace_49 : decode cX8_byPlace 49 = .ok (.iconst 4, 1) := by decide +kernel
theorem dX8_byPlace_50 : decode cX8_byPlace 50 = .ok (.irem, 1) := by decide +kernel
theorem dX8_byPlace_51 : decode cX8_byPlace 51 = .ok (.if_icmp .ne 12, 3) := by decide +kernel
theorem dX8_byPlace_54 : decode cX8_byPlace 54 = .ok (.iload 4, 2) := by decide +kernel
theorem dX8_byPlace_56 : decode cX8_byPlace 56 = .ok (.aload_n 2, 1) := by decide +kernel
theorem dX8_byPlace_57 : decode cX8_byPlace 57 = .ok (.iload 5, 2) := by decide +kernel
theorem dX8_byPlace_59 : decode cX8_byPlace 59 = .ok (.iaload, 1) := by decide +kernel
theorem dX8_byPlace_60 : decode cX8_byPlace 60 = .ok (.ior, 1) := by decide +kernel
theorem dX8_byPlace_61 : decode cX8_byPlace 61 = .ok (.istore 4, 2) := by decide +kernel
theorem dX8_byPlace_21 : decode cX8_byPlace 21 = .ok (.iload 5, 2) := by decide +kernel
theorem dX8_byPlace_23 : decode cX8_byPlace 23 = .ok (.iconst 4, 1) := by decide +kernel
theorem dX8_byPlace_24 : decode cX8_byPlace 24 = .ok (.idiv, 1) := by decide +kernel
theorem dX8_byPlace_25 : decode cX8_byPlace 25 = .ok (.iload_n 0, 1) := by decide +kernel
theorem dX8_byPlace_26 : decode cX8_byPlace 26 = .ok (.iconst 4, 1) := by decide +kernel
theorem dX8_byPlace_27 : decode cX8_byPlace 27 = .ok (.idiv, 1) := by decide +kernel
theorem dX8_byPlace_28 : decode cX8_byPlace 28 = .ok (.if_icmp .ne 10, 3) := by decide +kernel
theorem dX8_byPlace_31 : decode cX8_byPlace 31 = .ok (.iload_n 3, 1) := by decide +kernel
theorem dX8_byPlace_32 : decode cX8_byPlace 32 = .ok (.aload_n 2, 1) := by decide +kernel
theorem dX8_byPlace_33 : decode cX8_byPlace 33 = .ok (.iload 5, 2) := by decide +kernel
theorem dX8_byPlace_35 : decode cX8_byPlace 35 = .ok (.iaload, 1) := by decide +kernel
theorem dX8_byPlace_36 : decode cX8_byPlace 36 = .ok (.ior, 1) := by decide +kernel
theorem dX8_byPlace_37 : decode cX8_byPlace 37 = .ok (.istore_n 3, 1) := by decide +kernel
theorem dX8_byPair_0 : decode cX8_byPair 0 = .ok (.iconst 0, 1) := by decide +kernel
theorem dX8_byPair_1 : decode cX8_byPair 1 = .ok (.istore_n 3, 1) := by decide +kernel
theorem dX8_byPair_2 : decode cX8_byPair 2 = .ok (.iload_n 3, 1) := by decide +kernel
theorem dX8_byPair_3 : decode cX8_byPair 3 = .ok (.bipush 16, 2) := by decide +kernel
theorem dX8_byPair_5 : decode cX8_byPair 5 = .ok (.if_icmp .ge 144, 3) := by decide +kernel
theorem dX8_byPair_149 : decode cX8_byPair 149 = .ok (.iconst 0, 1) := by decide +kernel
theorem dX8_byPair_150 : decode cX8_byPair 150 = .ok (.ireturn, 1) := by decide +kernel
theorem dX8_byPair_8 : decode cX8_byPair 8 = .ok (.iload_n 3, 1) := by decide +kernel
theorem dX8_byPair_9 : decode cX8_byPair 9 = .ok (.iconst 1, 1) := by decide +kernel
theorem dX8_byPair_10 : decode cX8_byPair 10 = .ok (.iadd, 1) := by decide +kernel
theorem dX8_byPair_11 : decode cX8_byPair 11 = .ok (.istore 4, 2) := by decide +kernel
theorem dX8_byPair_13 : decode cX8_byPair 13 = .ok (.iload 4, 2) := by decide +kernel
theorem dX8_byPair_15 : decode cX8_byPair 15 = .ok (.bipush 16, 2) := by decide +kernel
theorem dX8_byPair_17 : decode cX8_byPair 17 = .ok (.if_icmp .ge 126, 3) := by decide +kernel
theorem dX8_byPair_143 : decode cX8_byPair 143 = .ok (.iinc 3 1, 3) := by decide +kernel
theorem dX8_byPair_146 : decode cX8_byPair 146 = .ok (.goto (-144), 3) := by decide +kernel
theorem dX8_byPair_44 : decode cX8_byPair 44 = .ok (.istore 5, 2) := by decide +kernel
theorem dX8_byPair_70 : decode cX8_byPair 70 = .ok (.istore 6, 2) := by decide +kernel
theorem dX8_byPair_97 : decode cX8_byPair 97 = .ok (.istore 7, 2) := by decide +kernel
theorem dX8_byPair_99 : decode cX8_byPair 99 = .ok (.iload_n 3, 1) := by decide +kernel
theorem dX8_byPair_100 : decode cX8_byPair 100 = .ok (.iload_n 0, 1) := by decide +kernel
theorem dX8_byPair_101 : decode cX8_byPair 101 = .ok (.if_icmp .eq 36, 3) := by decide +kernel
theorem dX8_byPair_137 : decode cX8_byPair 137 = .ok (.iinc 4 1, 3) := by decide +kernel
theorem dX8_byPair_140 : decode cX8_byPair 140 = .ok (.goto (-127), 3) := by decide +kernel
theorem dX8_byPair_104 : decode cX8_byPair 104 = .ok (.iload 4, 2) := by decide +kernel
theorem dX8_byPair_106 : decode cX8_byPair 106 = .ok (.iload_n 0, 1) := by decide +kernel
theorem dX8_byPair_107 : decode cX8_byPair 107 = .ok (.if_icmp .eq 30, 3) := by decide +kernel
theorem dX8_byPair_110 : decode cX8_byPair 110 = .ok (.iload 5, 2) := by decide +kernel
theorem dX8_byPair_112 : decode cX8_byPair 112 = .ok (.ifCond .ne 8, 3) := by decide +kernel
theorem dX8_byPair_120 : decode cX8_byPair 120 = .ok (.iload 7, 2) := by decide +kernel
theorem dX8_byPair_122 : decode cX8_byPair 122 = .ok (.ifCond .eq 15, 3) := by decide +kernel
theorem dX8_byPair_125 : decode cX8_byPair 125 = .ok (.aload_n 2, 1) := by decide +kernel
theorem dX8_byPair_126 : decode cX8_byPair 126 = .ok (.iload_n 3, 1) := by decide +kernel
theorem dX8_byPair_127 : decode cX8_byPair 127 = .ok (.iaload, 1) := by decide +kernel
theorem dX8_byPair_128 : decode cX8_byPair 128 = .ok (.iload_n 1, 1) := by decide +kernel
theorem dX8_byPair_129 : decode cX8_byPair 129 = .ok (.invokestatic 48, 3) := by decide +kernel
theorem dX8_byPair_132 : decode cX8_byPair 132 = .ok (.ifCond .eq 5, 3) := by decide +kernel
theorem dX8_byPair_135 : decode cX8_byPair 135 = .ok (.iconst 1, 1) := by decide +kernel
theorem dX8_byPair_136 : decode cX8_byPair 136 = .ok (.ireturn, 1) := by decide +kernel
theorem dX8_byPair_115 : decode cX8_byPair 115 = .ok (.iload 6, 2) := by decide +kernel
theorem dX8_byPair_117 : decode cX8_byPair 117 = .ok (.ifCond .eq 20, 3) := by decide +kernel
theorem dX8_byPair_72 : decode cX8_byPair 72 = .ok (.aload_n 2, 1) := by decide +kernel
theorem dX8_byPair_73 : decode cX8_byPair 73 = .ok (.iload_n 3, 1) := by decide +kernel
theorem dX8_byPair_74 : decode cX8_byPair 74 = .ok (.iaload, 1) := by decide +kernel
theorem dX8_byPair_75 : decode cX8_byPair 75 = .ok (.aload_n 2, 1) := by decide +kernel
theorem dX8_byPair_76 : decode cX8_byPair 76 = .ok (.iload 4, 2) := by decide +kernel
theorem dX8_byPair_78 : decode cX8_byPair 78 = .ok (.iaload, 1) := by decide +kernel
theorem dX8_byPair_79 : decode cX8_byPair 79 = .ok (.if_icmp .ne 17, 3) := by decide +kernel
theorem dX8_byPair_96 : decode cX8_byPair 96 = .ok (.iconst 0, 1) := by decide +kernel
theorem dX8_byPair_82 : decode cX8_byPair 82 = .ok (.aload_n 2, 1) := by decide +kernel
theorem dX8_byPair_83 : decode cX8_byPair 83 = .ok (.iload_n 3, 1) := by decide +kernel
theorem dX8_byPair_84 : decode cX8_byPair 84 = .ok (.iaload, 1) := by decide +kernel
theorem dX8_byPair_85 : decode cX8_byPair 85 = .ok (.invokestatic 42, 3) := by decide +kernel
theorem dX8_byPair_88 : decode cX8_byPair 88 = .ok (.iconst 2, 1) := by decide +kernel
theorem dX8_byPair_89 : decode cX8_byPair 89 = .ok (.if_icmp .ne 7, 3) := by decide +kernel
theorem dX8_byPair_92 : decode cX8_byPair 92 = .ok (.iconst 1, 1) := by decide +kernel
theorem dX8_byPair_93 : decode cX8_byPair 93 = .ok (.goto 4, 3) := by decide +kernel
theorem dX8_byPair_46 : decode cX8_byPair 46 = .ok (.iload_n 3, 1) := by decide +kernel
theorem dX8_byPair_47 : decode cX8_byPair 47 = .ok (.iconst 4, 1) := by decide +kernel
theorem dX8_byPair_48 : decode cX8_byPair 48 = .ok (.irem, 1) := by decide +kernel
theorem dX8_byPair_49 : decode cX8_byPair 49 = .ok (.iload_n 0, 1) := by decide +kernel
theorem dX8_byPair_50 : decode cX8_byPair 50 = .ok (.iconst 4, 1) := by decide +kernel
theorem dX8_byPair_51 : decode cX8_byPair 51 = .ok (.irem, 1) := by decide +kernel
theorem dX8_byPair_52 : decode cX8_byPair 52 = .ok (.if_icmp .ne 17, 3) := by decide +kernel
theorem dX8_byPair_69 : decode cX8_byPair 69 = .ok (.iconst 0, 1) := by decide +kernel
theorem dX8_byPair_55 : decode cX8_byPair 55 = .ok (.iload 4, 2) := by decide +kernel
theorem dX8_byPair_57 : decode cX8_byPair 57 = .ok (.iconst 4, 1) := by decide +kernel
theorem dX8_byPair_58 : decode cX8_byPair 58 = .ok (.irem, 1) := by decide +kernel
theorem dX8_byPair_59 : decode cX8_byPair 59 = .ok (.iload_n 0, 1) := by decide +kernel
theorem dX8_byPair_60 : decode cX8_byPair 60 = .ok (.iconst 4, 1) := by decide +kernel
theorem dX8_byPair_61 : decode cX8_byPair 61 = .ok (.irem, 1) := by decide +kernel
theorem dX8_byPair_62 : decode cX8_byPair 62 = .ok (.if_icmp .ne 7, 3) := by decide +kernel
theorem dX8_byPair_65 : decode cX8_byPair 65 = .ok (.iconst 1, 1) := by decide +kernel
theorem dX8_byPair_66 : decode cX8_byPair 66 = .ok (.goto 4, 3) := by decide +kernel
theorem dX8_byPair_20 : decode cX8_byPair 20 = .ok (.iload_n 3, 1) := by decide +kernel
theorem dX8_byPair_21 : decode cX8_byPair 21 = .ok (.iconst 4, 1) := by decide +kernel
theorem dX8_byPair_22 : decode cX8_byPair 22 = .ok (.idiv, 1) := by decide +kernel
theorem dX8_byPair_23 : decode cX8_byPair 23 = .ok (.iload_n 0, 1) := by decide +kernel
theorem dX8_byPair_24 : decode cX8_byPair 24 = .ok (.iconst 4, 1) := by decide +kernel
theorem dX8_byPair_25 : decode cX8_byPair 25 = .ok (.idiv, 1) := by decide +kernel
theorem dX8_byPair_26 : decode cX8_byPair 26 = .ok (.if_icmp .ne 17, 3) := by decide +kernel
theorem dX8_byPair_43 : decode cX8_byPair 43 = .ok (.iconst 0, 1) := by decide +kernel
theorem dX8_byPair_29 : decode cX8_byPair 29 = .ok (.iload 4, 2) := by decide +kernel
theorem dX8_byPair_31 : decode cX8_byPair 31 = .ok (.iconst 4, 1) := by decide +kernel
theorem dX8_byPair_32 : decode cX8_byPair 32 = .ok (.idiv, 1) := by decide +kernel
theorem dX8_byPair_33 : decode cX8_byPair 33 = .ok (.iload_n 0, 1) := by decide +kernel
theorem dX8_byPair_34 : decode cX8_byPair 34 = .ok (.iconst 4, 1) := by decide +kernel
theorem dX8_byPair_35 : decode cX8_byPair 35 = .ok (.idiv, 1) := by decide +kernel
theorem dX8_byPair_36 : decode cX8_byPair 36 = .ok (.if_icmp .ne 7, 3) := by decide +kernel
theorem dX8_byPair_39 : decode cX8_byPair 39 = .ok (.iconst 1, 1) := by decide +kernel
theorem dX8_byPair_40 : decode cX8_byPair 40 = .ok (.goto 4, 3) := by decide +kernel
theorem dX8_isTaken_0 : decode cX8_isTaken 0 = .ok (.iload_n 1, 1) := by decide +kernel
theorem dX8_isTaken_1 : decode cX8_isTaken 1 = .ok (.tableswitch 80 0 3 #[31, 56, 64, 72], 31) := by decide +kernel
theorem dX8_isTaken_32 : decode cX8_isTaken 32 = .ok (.aload_n 0, 1) := by decide +kernel
theorem dX8_isTaken_33 : decode cX8_isTaken 33 = .ok (.getfield 9, 3) := by decide +kernel
theorem dX8_isTaken_36 : decode cX8_isTaken 36 = .ok (.iload_n 2, 1) := by decide +kernel
theorem dX8_isTaken_37 : decode cX8_isTaken 37 = .ok (.iaload, 1) := by decide +kernel
theorem dX8_isTaken_38 : decode cX8_isTaken 38 = .ok (.ifCond .le 17, 3) := by decide +kernel
theorem dX8_isTaken_55 : decode cX8_isTaken 55 = .ok (.iconst 0, 1) := by decide +kernel
theorem dX8_isTaken_56 : decode cX8_isTaken 56 = .ok (.ireturn, 1) := by decide +kernel
theorem dX8_isTaken_41 : decode cX8_isTaken 41 = .ok (.aload_n 0, 1) := by decide +kernel
theorem dX8_isTaken_42 : decode cX8_isTaken 42 = .ok (.getfield 9, 3) := by decide +kernel
theorem dX8_isTaken_45 : decode cX8_isTaken 45 = .ok (.iload_n 2, 1) := by decide +kernel
theorem dX8_isTaken_46 : decode cX8_isTaken 46 = .ok (.iaload, 1) := by decide +kernel
theorem dX8_isTaken_47 : decode cX8_isTaken 47 = .ok (.iload_n 3, 1) := by decide +kernel
theorem dX8_isTaken_48 : decode cX8_isTaken 48 = .ok (.if_icmp .eq 7, 3) := by decide +kernel
theorem dX8_isTaken_51 : decode cX8_isTaken 51 = .ok (.iconst 1, 1) := by decide +kernel
theorem dX8_isTaken_52 : decode cX8_isTaken 52 = .ok (.goto 4, 3) := by decide +kernel
theorem dX8_isTaken_57 : decode cX8_isTaken 57 = .ok (.iload_n 2, 1) := by decide +kernel
theorem dX8_isTaken_58 : decode cX8_isTaken 58 = .ok (.iload_n 3, 1) := by decide +kernel
theorem dX8_isTaken_59 : decode cX8_isTaken 59 = .ok (.aload 4, 2) := by decide +kernel
theorem dX8_isTaken_61 : decode cX8_isTaken 61 = .ok (.invokestatic 25, 3) := by decide +kernel
theorem dX8_isTaken_64 : decode cX8_isTaken 64 = .ok (.ireturn, 1) := by decide +kernel
theorem dX8_isTaken_65 : decode cX8_isTaken 65 = .ok (.iload_n 2, 1) := by decide +kernel
theorem dX8_isTaken_66 : decode cX8_isTaken 66 = .ok (.iload_n 3, 1) := by decide +kernel
theorem dX8_isTaken_67 : decode cX8_isTaken 67 = .ok (.aload 4, 2) := by decide +kernel
theorem dX8_isTaken_69 : decode cX8_isTaken 69 = .ok (.invokestatic 29, 3) := by decide +kernel
theorem dX8_isTaken_72 : decode cX8_isTaken 72 = .ok (.ireturn, 1) := by decide +kernel
theorem dX8_isTaken_73 : decode cX8_isTaken 73 = .ok (.iload_n 2, 1) := by decide +kernel
theorem dX8_isTaken_74 : decode cX8_isTaken 74 = .ok (.iload_n 3, 1) := by decide +kernel
theorem dX8_isTaken_75 : decode cX8_isTaken 75 = .ok (.aload 4, 2) := by decide +kernel
theorem dX8_isTaken_77 : decode cX8_isTaken 77 = .ok (.invokestatic 32, 3) := by decide +kernel
theorem dX8_isTaken_80 : decode cX8_isTaken 80 = .ok (.ireturn, 1) := by decide +kernel
theorem dX9_next_0 : decode cX9_next 0 = .ok (.iconst 0, 1) := by decide +kernel
theorem dX9_next_1 : decode cX9_next 1 = .ok (.istore_n 3, 1) := by decide +kernel
theorem dX9_next_2 : decode cX9_next 2 = .ok (.iload_n 3, 1) := by decide +kernel
theorem dX9_next_3 : decode cX9_next 3 = .ok (.iload_n 2, 1) := by decide +kernel
theorem dX9_next_4 : decode cX9_next 4 = .ok (.if_icmp .gt 84, 3) := by decide +kernel
theorem dX9_next_88 : decode cX9_next 88 = .ok (.iconst (-1), 1) := by decide +kernel
theorem dX9_next_89 : decode cX9_next 89 = .ok (.ireturn, 1) := by decide +kernel
theorem dX9_next_7 : decode cX9_next 7 = .ok (.iconst 0, 1) := by decide +kernel
theorem dX9_next_8 : decode cX9_next 8 = .ok (.istore 4, 2) := by decide +kernel
theorem dX9_next_10 : decode cX9_next 10 = .ok (.iload 4, 2) := by decide +kernel
theorem dX9_next_12 : decode cX9_next 12 = .ok (.bipush 16, 2) := by decide +kernel
theorem dX9_next_14 : decode cX9_next 14 = .ok (.if_icmp .ge 68, 3) := by decide +kernel
theorem dX9_next_82 : decode cX9_next 82 = .ok (.iinc 3 1, 3) := by decide +kernel
theorem dX9_next_85 : decode cX9_next 85 = .ok (.goto (-83), 3) := by decide +kernel
theorem dX9_next_17 : decode cX9_next 17 = .ok (.iconst 1, 1) := by decide +kernel
theorem dX9_next_18 : decode cX9_next 18 = .ok (.istore 5, 2) := by decide +kernel
theorem dX9_next_20 : decode cX9_next 20 = .ok (.iload 5, 2) := by decide +kernel
theorem dX9_next_22 : decode cX9_next 22 = .ok (.iconst 4, 1) := by decide +kernel
theorem dX9_next_23 : decode cX9_next 23 = .ok (.if_icmp .gt 53, 3) := by decide +kernel
theorem dX9_next_76 : decode cX9_next 76 = .ok (.iinc 4 1, 3) := by decide +kernel
theorem dX9_next_79 : decode cX9_next 79 = .ok (.goto (-69), 3) := by decide +kernel
theorem dX9_next_26 : decode cX9_next 26 = .ok (.aload_n 0, 1) := by decide +kernel
theorem dX9_next_27 : decode cX9_next 27 = .ok (.getfield 9, 3) := by decide +kernel
theorem dX9_next_30 : decode cX9_next 30 = .ok (.iload 4, 2) := by decide +kernel
theorem dX9_next_32 : decode cX9_next 32 = .ok (.iaload, 1) := by decide +kernel
theorem dX9_next_33 : decode cX9_next 33 = .ok (.iload 5, 2) := by decide +kernel
theorem dX9_next_35 : decode cX9_next 35 = .ok (.invokestatic 55, 3) := by decide +kernel
theorem dX9_next_38 : decode cX9_next 38 = .ok (.ifCond .eq 32, 3) := by decide +kernel
theorem dX9_next_70 : decode cX9_next 70 = .ok (.iinc 5 1, 3) := by decide +kernel
theorem dX9_next_73 : decode cX9_next 73 = .ok (.goto (-53), 3) := by decide +kernel
theorem dX9_next_41 : decode cX9_next 41 = .ok (.aload_n 1, 1) := by decide +kernel
theorem dX9_next_42 : decode cX9_next 42 = .ok (.iload_n 3, 1) := by decide +kernel
theorem dX9_next_43 : decode cX9_next 43 = .ok (.iload 4, 2) := by decide +kernel
theorem dX9_next_45 : decode cX9_next 45 = .ok (.iload 5, 2) := by decide +kernel
theorem dX9_next_47 : decode cX9_next 47 = .ok (.aload_n 0, 1) := by decide +kernel
theorem dX9_next_48 : decode cX9_next 48 = .ok (.getfield 9, 3) := by decide +kernel
theorem dX9_next_51 : decode cX9_next 51 = .ok (.invokevirtual 59, 3) := by decide +kernel
theorem dX9_next_54 : decode cX9_next 54 = .ok (.ifCond .eq 16, 3) := by decide +kernel
theorem dX9_next_57 : decode cX9_next 57 = .ok (.bipush 100, 2) := by decide +kernel
theorem dX9_next_59 : decode cX9_next 59 = .ok (.iload_n 3, 1) := by decide +kernel
theorem dX9_next_60 : decode cX9_next 60 = .ok (.imul, 1) := by decide +kernel
theorem dX9_next_61 : decode cX9_next 61 = .ok (.iconst 5, 1) := by decide +kernel
theorem dX9_next_62 : decode cX9_next 62 = .ok (.iload 4, 2) := by decide +kernel
theorem dX9_next_64 : decode cX9_next 64 = .ok (.imul, 1) := by decide +kernel
theorem dX9_next_65 : decode cX9_next 65 = .ok (.iadd, 1) := by decide +kernel
theorem dX9_next_66 : decode cX9_next 66 = .ok (.iload 5, 2) := by decide +kernel
theorem dX9_next_68 : decode cX9_next 68 = .ok (.iadd, 1) := by decide +kernel
theorem dX9_next_69 : decode cX9_next 69 = .ok (.ireturn, 1) := by decide +kernel
theorem dX9_state_0 : decode cX9_state 0 = .ok (.iconst 1, 1) := by decide +kernel
theorem dX9_state_1 : decode cX9_state 1 = .ok (.istore_n 1, 1) := by decide +kernel
theorem dX9_state_2 : decode cX9_state 2 = .ok (.aload_n 0, 1) := by decide +kernel
theorem dX9_state_3 : decode cX9_state 3 = .ok (.getfield 9, 3) := by decide +kernel
theorem dX9_state_6 : decode cX9_state 6 = .ok (.astore_n 2, 1) := by decide +kernel
theorem dX9_state_7 : decode cX9_state 7 = .ok (.aload_n 2, 1) := by decide +kernel
theorem dX9_state_8 : decode cX9_state 8 = .ok (.arraylength, 1) := by decide +kernel
theorem dX9_state_9 : decode cX9_state 9 = .ok (.istore_n 3, 1) := by decide +kernel
theorem dX9_state_10 : decode cX9_state 10 = .ok (.iconst 0, 1) := by decide +kernel
theorem dX9_state_11 : decode cX9_state 11 = .ok (.istore 4, 2) := by decide +kernel
theorem dX9_state_13 : decode cX9_state 13 = .ok (.iload 4, 2) := by decide +kernel
theorem dX9_state_15 : decode cX9_state 15 = .ok (.iload_n 3, 1) := by decide +kernel
theorem dX9_state_16 : decode cX9_state 16 = .ok (.if_icmp .ge 40, 3) := by decide +kernel
theorem dX9_state_56 : decode cX9_state 56 = .ok (.iload_n 1, 1) := by decide +kernel
theorem dX9_state_57 : decode cX9_state 57 = .ok (.ifCond .eq 8, 3) := by decide +kernel
theorem dX9_state_65 : decode cX9_state 65 = .ok (.bipush 110, 2) := by decide +kernel
theorem dX9_state_67 : decode cX9_state 67 = .ok (.ireturn, 1) := by decide +kernel
theorem dX9_state_60 : decode cX9_state 60 = .ok (.bipush 115, 2) := by decide +kernel
theorem dX9_state_62 : decode cX9_state 62 = .ok (.goto 5, 3) := by decide +kernel
theorem dX9_state_19 : decode cX9_state 19 = .ok (.aload_n 2, 1) := by decide +kernel
theorem dX9_state_20 : decode cX9_state 20 = .ok (.iload 4, 2) := by decide +kernel
theorem dX9_state_22 : decode cX9_state 22 = .ok (.iaload, 1) := by decide +kernel
theorem dX9_state_23 : decode cX9_state 23 = .ok (.istore 5, 2) := by decide +kernel
theorem dX9_state_25 : decode cX9_state 25 = .ok (.iload 5, 2) := by decide +kernel
theorem dX9_state_27 : decode cX9_state 27 = .ok (.ifCond .ne 6, 3) := by decide +kernel
theorem dX9_state_33 : decode cX9_state 33 = .ok (.iload_n 1, 1) := by decide +kernel
theorem dX9_state_34 : decode cX9_state 34 = .ok (.iload 5, 2) := by decide +kernel
theorem dX9_state_36 : decode cX9_state 36 = .ok (.invokestatic 47, 3) := by decide +kernel
theorem dX9_state_39 : decode cX9_state 39 = .ok (.iconst 1, 1) := by decide +kernel
theorem dX9_state_40 : decode cX9_state 40 = .ok (.if_icmp .ne 7, 3) := by decide +kernel
theorem dX9_state_47 : decode cX9_state 47 = .ok (.iconst 0, 1) := by decide +kernel
theorem dX9_state_48 : decode cX9_state 48 = .ok (.iand, 1) := by decide +kernel
theorem dX9_state_49 : decode cX9_state 49 = .ok (.istore_n 1, 1) := by decide +kernel
theorem dX9_state_50 : decode cX9_state 50 = .ok (.iinc 4 1, 3) := by decide +kernel
theorem dX9_state_53 : decode cX9_state 53 = .ok (.goto (-40), 3) := by decide +kernel
theorem dX9_state_43 : decode cX9_state 43 = .ok (.iconst 1, 1) := by decide +kernel
theorem dX9_state_44 : decode cX9_state 44 = .ok (.goto 4, 3) := by decide +kernel
theorem dX9_state_30 : decode cX9_state 30 = .ok (.bipush 98, 2) := by decide +kernel
theorem dX9_state_32 : decode cX9_state 32 = .ok (.ireturn, 1) := by decide +kernel
set_option maxHeartbeats 4000000 in
set_option maxRecDepth 100000 in
theorem c_isIn (l : Launch) (G : GG) (st : Nat) (v : Nat) (hst : st < 16) (hv1 : 1 ≤ v) (hv4 : v ≤ 4) : Mi l G yX10_isIn cX10_isIn 2 (some .boolean) ({ frames := 0, cells := 0, slots := 0, locals := 0 } : Room) [.int (nI st), .int (nI v)] [] (fun (r : Int32) (u : Nat) => r = nI u ∧ u ≤ 1 ∧ (u = 1 → st / pw v % 2 = 1)) (fun (u : Nat) => []) := by
  intro sz
  refine Met.ofW (cc := cX10_isIn) (maxL := 2) (ret := (some .boolean)) (by decide) rfl ?_
  intro p e s m args below meth c s₁ B9 hml hv
  obtain ⟨rfl, hsz, hP, hK, hD0, hE⟩ := hv
  have hx := B9.exec
  have hb := B9.bytes
  have hr := B9.returns
  have hts : ∀ w ∈ WW, w.before ([.int (nI st), .int (nI v)] : List Value).toArray s = true := fun w h => atoms_spec (ws := .code yX10_isIn cX10_isIn 2 (some .boolean) :: WW) B9.pre w (List.mem_cons_of_mem _ h)
  have hown : s.vm.findClass RX10 = some m.cls := findClass_of_methodNamed B9.named
  subst hsz
  have hD := hD0.self (sz := s.heap.size)
  generalize hAe : va_A [] s.heap.size = A at hD hE ⊢
  have hA : ∀ q : Nat, s.heap.size ≤ q → A q := fun q h => by rw [← hAe]; exact Or.inr h
  have hl := lv_entry ([.int (nI st), .int (nI v)]) (n := 2) (Nat.le_of_ble_eq_true rfl)
  rw [lg_entry_eq]
  generalize (lg_sl ([.int (nI st), .int (nI v)]) ++ List.replicate (2 - (lg_sl ([.int (nI st), .int (nI v)])).length) Slot.unset).toArray = ls at hl ⊢
  have hl : lv_has ls 2 [(0, .int (nI st)), (1, .int (nI v))] := hl
  refine qgen (fun Q hQ => ?_)
  refine hgen (fun H locs hP hD hS => ?_) hP hD
  rcases (show v = 1 ∨ v = 2 ∨ v = 3 ∨ v = 4 by omega) with rfl | rfl | rfl | rfl
  · skip
    refine lv_iload_n hx hb dX10_isIn_0 rfl (lv_at hl 0 rfl) ?_
    refine lv_iload_n hx hb dX10_isIn_1 rfl (lv_at hl 1 rfl) ?_
    refine lv_iconst (v := nI 1) hx hb dX10_isIn_2 (by decide) ?_
    refine lv_isub hx hb dX10_isIn_3 ?_
    refine lv_toe (pk_sub (a := 1) (b := 1) (by omega)) ?_
    refine lv_ishr hx hb dX10_isIn_4 ?_
    refine lv_toe (show _ = nI (st / 1) from pk_shrN (n := st) (by omega) (nI 0 &&& 31) 0 (by decide)) ?_
    refine lv_iconst (v := nI 1) hx hb dX10_isIn_5 (by decide) ?_
    refine lv_iand hx hb dX10_isIn_6 ?_
    refine lv_toe (andm _ (by omega)) ?_
    refine lv_if_eq (tgt := 14) hx hb dX10_isIn_7 (by decide) (fun c_1 => ?_) (fun c_1 => ?_)
    · skip
      have c_1 : ((st / 1) % 2) = 0 := (nI_eq (a := (st / 1) % 2) (b := 0) (by omega) (by omega)).mp c_1
      refine lv_iconst (v := nI 0) hx hb dX10_isIn_14 (by decide) ?_
      have hP9 := hP.sub (ws' := []) [] rfl
      have hD9 := hD.sub (ws' := []) [] (by decide) rfl
      subst hQ
      exact W.zret (v := nI 0) hx hb hr (by decide) (fun t ht hW => ⟨⟨nI 0, 0, rfl, ⟨rfl, (show 0 ≤ 1 by omega), (fun z => absurd z (by decide))⟩, by rw [ht]; exact hP9, hD9⟩, hS.F ht⟩) hS.2.2 dX10_isIn_15
    · skip
      have c_1 : ¬ ((st / 1) % 2) = 0 := fun z => c_1 ((nI_eq (a := (st / 1) % 2) (b := 0) (by omega) (by omega)).mpr z)
      refine lv_iconst (v := nI 1) hx hb dX10_isIn_10 (by decide) ?_
      refine lv_goto (tgt := 15) hx hb dX10_isIn_11 (by decide) ?_
      have hP9 := hP.sub (ws' := []) [] rfl
      have hD9 := hD.sub (ws' := []) [] (by decide) rfl
      subst hQ
      exact W.zret (v := nI 1) hx hb hr (by decide) (fun t ht hW => ⟨⟨nI 1, 1, rfl, ⟨rfl, (show 1 ≤ 1 by omega), (fun _ => by show st / 1 % 2 = 1; omega)⟩, by rw [ht]; exact hP9, hD9⟩, hS.F ht⟩) hS.2.2 dX10_isIn_15
  · skip
    refine lv_iload_n hx hb dX10_isIn_0 rfl (lv_at hl 0 rfl) ?_
    refine lv_iload_n hx hb dX10_isIn_1 rfl (lv_at hl 1 rfl) ?_
    refine lv_iconst (v := nI 1) hx hb dX10_isIn_2 (by decide) ?_
    refine lv_isub hx hb dX10_isIn_3 ?_
    refine lv_toe (pk_sub (a := 2) (b := 1) (by omega)) ?_
    refine lv_ishr hx hb dX10_isIn_4 ?_
    refine lv_toe (show _ = nI (st / 2) from pk_shrN (n := st) (by omega) (nI 1 &&& 31) 1 (by decide)) ?_
    refine lv_iconst (v := nI 1) hx hb dX10_isIn_5 (by decide) ?_
    refine lv_iand hx hb dX10_isIn_6 ?_
    refine lv_toe (andm _ (by omega)) ?_
    refine lv_if_eq (tgt := 14) hx hb dX10_isIn_7 (by decide) (fun c_2 => ?_) (fun c_2 => ?_)
    · skip
      have c_2 : ((st / 2) % 2) = 0 := (nI_eq (a := (st / 2) % 2) (b := 0) (by omega) (by omega)).mp c_2
      refine lv_iconst (v := nI 0) hx hb dX10_isIn_14 (by decide) ?_
      have hP9 := hP.sub (ws' := []) [] rfl
      have hD9 := hD.sub (ws' := []) [] (by decide) rfl
      subst hQ
      exact W.zret (v := nI 0) hx hb hr (by decide) (fun t ht hW => ⟨⟨nI 0, 0, rfl, ⟨rfl, (show 0 ≤ 1 by omega), (fun z => absurd z (by decide))⟩, by rw [ht]; exact hP9, hD9⟩, hS.F ht⟩) hS.2.2 dX10_isIn_15
    · skip
      have c_2 : ¬ ((st / 2) % 2) = 0 := fun z => c_2 ((nI_eq (a := (st / 2) % 2) (b := 0) (by omega) (by omega)).mpr z)
      refine lv_iconst (v := nI 1) hx hb dX10_isIn_10 (by decide) ?_
      refine lv_goto (tgt := 15) hx hb dX10_isIn_11 (by decide) ?_
      have hP9 := hP.sub (ws' := []) [] rfl
      have hD9 := hD.sub (ws' := []) [] (by decide) rfl
      subst hQ
      exact W.zret (v := nI 1) hx hb hr (by decide) (fun t ht hW => ⟨⟨nI 1, 1, rfl, ⟨rfl, (show 1 ≤ 1 by omega), (fun _ => by show st / 2 % 2 = 1; omega)⟩, by rw [ht]; exact hP9, hD9⟩, hS.F ht⟩) hS.2.2 dX10_isIn_15
  · skip
    refine lv_iload_n hx hb dX10_isIn_0 rfl (lv_at hl 0 rfl) ?_
    refine lv_iload_n hx hb dX10_isIn_1 rfl (lv_at hl 1 rfl) ?_
    refine lv_iconst (v := nI 1) hx hb dX10_isIn_2 (by decide) ?_
    refine lv_isub hx hb dX10_isIn_3 ?_
    refine lv_toe (pk_sub (a := 3) (b := 1) (by omega)) ?_
    refine lv_ishr hx hb dX10_isIn_4 ?_
    refine lv_toe (show _ = nI (st / 4) from pk_shrN (n := st) (by omega) (nI 2 &&& 31) 2 (by decide)) ?_
    refine lv_iconst (v := nI 1) hx hb dX10_isIn_5 (by decide) ?_
    refine lv_iand hx hb dX10_isIn_6 ?_
    refine lv_toe (andm _ (by omega)) ?_
    refine lv_if_eq (tgt := 14) hx hb dX10_isIn_7 (by decide) (fun c_3 => ?_) (fun c_3 => ?_)
    · skip
      have c_3 : ((st / 4) % 2) = 0 := (nI_eq (a := (st / 4) % 2) (b := 0) (by omega) (by omega)).mp c_3
      refine lv_iconst (v := nI 0) hx hb dX10_isIn_14 (by decide) ?_
      have hP9 := hP.sub (ws' := []) [] rfl
      have hD9 := hD.sub (ws' := []) [] (by decide) rfl
      subst hQ
      exact W.zret (v := nI 0) hx hb hr (by decide) (fun t ht hW => ⟨⟨nI 0, 0, rfl, ⟨rfl, (show 0 ≤ 1 by omega), (fun z => absurd z (by decide))⟩, by rw [ht]; exact hP9, hD9⟩, hS.F ht⟩) hS.2.2 dX10_isIn_15
    · skip
      have c_3 : ¬ ((st / 4) % 2) = 0 := fun z => c_3 ((nI_eq (a := (st / 4) % 2) (b := 0) (by omega) (by omega)).mpr z)
      refine lv_iconst (v := nI 1) hx hb dX10_isIn_10 (by decide) ?_
      refine lv_goto (tgt := 15) hx hb dX10_isIn_11 (by decide) ?_
      have hP9 := hP.sub (ws' := []) [] rfl
      have hD9 := hD.sub (ws' := []) [] (by decide) rfl
      subst hQ
      exact W.zret (v := nI 1) hx hb hr (by decide) (fun t ht hW => ⟨⟨nI 1, 1, rfl, ⟨rfl, (show 1 ≤ 1 by omega), (fun _ => by show st / 4 % 2 = 1; omega)⟩, by rw [ht]; exact hP9, hD9⟩, hS.F ht⟩) hS.2.2 dX10_isIn_15
  · skip
    refine lv_iload_n hx hb dX10_isIn_0 rfl (lv_at hl 0 rfl) ?_
    refine lv_iload_n hx hb dX10_isIn_1 rfl (lv_at hl 1 rfl) ?_
    refine lv_iconst (v := nI 1) hx hb dX10_isIn_2 (by decide) ?_
    refine lv_isub hx hb dX10_isIn_3 ?_
    refine lv_toe (pk_sub (a := 4) (b := 1) (by omega)) ?_
    refine lv_ishr hx hb dX10_isIn_4 ?_
    refine lv_toe (show _ = nI (st / 8) from pk_shrN (n := st) (by omega) (nI 3 &&& 31) 3 (by decide)) ?_
    refine lv_iconst (v := nI 1) hx hb dX10_isIn_5 (by decide) ?_
    refine lv_iand hx hb dX10_isIn_6 ?_
    refine lv_toe (andm _ (by omega)) ?_
    refine lv_if_eq (tgt := 14) hx hb dX10_isIn_7 (by decide) (fun c_4 => ?_) (fun c_4 => ?_)
    · skip
      have c_4 : ((st / 8) % 2) = 0 := (nI_eq (a := (st / 8) % 2) (b := 0) (by omega) (by omega)).mp c_4
      refine lv_iconst (v := nI 0) hx hb dX10_isIn_14 (by decide) ?_
      have hP9 := hP.sub (ws' := []) [] rfl
      have hD9 := hD.sub (ws' := []) [] (by decide) rfl
      subst hQ
      exact W.zret (v := nI 0) hx hb hr (by decide) (fun t ht hW => ⟨⟨nI 0, 0, rfl, ⟨rfl, (show 0 ≤ 1 by omega), (fun z => absurd z (by decide))⟩, by rw [ht]; exact hP9, hD9⟩, hS.F ht⟩) hS.2.2 dX10_isIn_15
    · skip
      have c_4 : ¬ ((st / 8) % 2) = 0 := fun z => c_4 ((nI_eq (a := (st / 8) % 2) (b := 0) (by omega) (by omega)).mpr z)
      refine lv_iconst (v := nI 1) hx hb dX10_isIn_10 (by decide) ?_
      refine lv_goto (tgt := 15) hx hb dX10_isIn_11 (by decide) ?_
      have hP9 := hP.sub (ws' := []) [] rfl
      have hD9 := hD.sub (ws' := []) [] (by decide) rfl
      subst hQ
      exact W.zret (v := nI 1) hx hb hr (by decide) (fun t ht hW => ⟨⟨nI 1, 1, rfl, ⟨rfl, (show 1 ≤ 1 by omega), (fun _ => by show st / 8 % 2 = 1; omega)⟩, by rw [ht]; exact hP9, hD9⟩, hS.F ht⟩) hS.2.2 dX10_isIn_15
set_option maxHeartbeats 4000000 in
set_option maxRecDepth 100000 in
theorem c_isIn_any (l : Launch) (G : GG) (st : Int32) (v : Int32) : Mi l G yX10_isIn cX10_isIn 2 (some .boolean) ({ frames := 0, cells := 0, slots := 0, locals := 0 } : Room) [.int st, .int v] [] (fun (r : Int32) (u : Unit) => True) (fun (u : Unit) => []) := by
  intro sz
  refine Met.ofW (cc := cX10_isIn) (maxL := 2) (ret := (some .boolean)) (by decide) rfl ?_
  intro p e s m args below meth c s₁ B9 hml hv
  obtain ⟨rfl, hsz, hP, hK, hD0, hE⟩ := hv
  have hx := B9.exec
  have hb := B9.bytes
  have hr := B9.returns
  have hts : ∀ w ∈ WW, w.before ([.int st, .int v] : List Value).toArray s = true := fun w h => atoms_spec (ws := .code yX10_isIn cX10_isIn 2 (some .boolean) :: WW) B9.pre w (List.mem_cons_of_mem _ h)
  have hown : s.vm.findClass RX10 = some m.cls := findClass_of_methodNamed B9.named
  subst hsz
  have hD := hD0.self (sz := s.heap.size)
  generalize hAe : va_A [] s.heap.size = A at hD hE ⊢
  have hA : ∀ q : Nat, s.heap.size ≤ q → A q := fun q h => by rw [← hAe]; exact Or.inr h
  have hl := lv_entry ([.int st, .int v]) (n := 2) (Nat.le_of_ble_eq_true rfl)
  rw [lg_entry_eq]
  generalize (lg_sl ([.int st, .int v]) ++ List.replicate (2 - (lg_sl ([.int st, .int v])).length) Slot.unset).toArray = ls at hl ⊢
  have hl : lv_has ls 2 [(0, .int st), (1, .int v)] := hl
  refine qgen (fun Q hQ => ?_)
  refine hgen (fun H locs hP hD hS => ?_) hP hD
  refine lv_iload_n hx hb dX10_isIn_0 rfl (lv_at hl 0 rfl) ?_
  refine lv_iload_n hx hb dX10_isIn_1 rfl (lv_at hl 1 rfl) ?_
  refine lv_iconst (v := nI 1) hx hb dX10_isIn_2 (by decide) ?_
  refine lv_isub hx hb dX10_isIn_3 ?_
  refine lv_topi (fun w_1 ew_1 => ?_)
  refine lv_ishr hx hb dX10_isIn_4 ?_
  refine lv_topi (fun w_2 ew_2 => ?_)
  refine lv_iconst (v := nI 1) hx hb dX10_isIn_5 (by decide) ?_
  refine lv_iand hx hb dX10_isIn_6 ?_
  refine lv_topi (fun w_3 ew_3 => ?_)
  refine lv_if_eq (tgt := 14) hx hb dX10_isIn_7 (by decide) (fun c_4 => ?_) (fun c_4 => ?_)
  · skip
    refine lv_iconst (v := nI 0) hx hb dX10_isIn_14 (by decide) ?_
    have hP9 := hP.sub (ws' := []) [] rfl
    have hD9 := hD.sub (ws' := []) [] (by decide) rfl
    subst hQ
    exact W.zret (v := nI 0) hx hb hr (by decide) (fun t ht hW => ⟨⟨nI 0, (), rfl, trivial, by rw [ht]; exact hP9, hD9⟩, hS.F ht⟩) hS.2.2 dX10_isIn_15
  · skip
    refine lv_iconst (v := nI 1) hx hb dX10_isIn_10 (by decide) ?_
    refine lv_goto (tgt := 15) hx hb dX10_isIn_11 (by decide) ?_
    have hP9 := hP.sub (ws' := []) [] rfl
    have hD9 := hD.sub (ws' := []) [] (by decide) rfl
    subst hQ
    exact W.zret (v := nI 1) hx hb hr (by decide) (fun t ht hW => ⟨⟨nI 1, (), rfl, trivial, by rw [ht]; exact hP9, hD9⟩, hS.F ht⟩) hS.2.2 dX10_isIn_15
set_option maxHeartbeats 4000000 in
set_option maxRecDepth 100000 in
theorem c_X10_areInLine (l : Launch) (G : GG) (a : Nat) (b : Nat) (ha : a < 16) (hb2 : b < 16) : Mi l G yX10_areInLine cX10_areInLine 2 (some .boolean) ({ frames := 0, cells := 0, slots := 0, locals := 0 } : Room) [.int (nI a), .int (nI b)] [] (fun (r : Int32) (u : Unit) => True) (fun (u : Unit) => []) := by
  intro sz
  refine Met.ofW (cc := cX10_areInLine) (maxL := 2) (ret := (some .boolean)) (by decide) rfl ?_
  intro p e s m args below meth c s₁ B9 hml hv
  obtain ⟨rfl, hsz, hP, hK, hD0, hE⟩ := hv
  have hx := B9.exec
  have hb := B9.bytes
  have hr := B9.returns
  have hts : ∀ w ∈ WW, w.before ([.int (nI a), .int (nI b)] : List Value).toArray s = true := fun w h => atoms_spec (ws := .code yX10_areInLine cX10_areInLine 2 (some .boolean) :: WW) B9.pre w (List.mem_cons_of_mem _ h)
  have hown : s.vm.findClass RX10 = some m.cls := findClass_of_methodNamed B9.named
  subst hsz
  have hD := hD0.self (sz := s.heap.size)
  generalize hAe : va_A [] s.heap.size = A at hD hE ⊢
  have hA : ∀ q : Nat, s.heap.size ≤ q → A q := fun q h => by rw [← hAe]; exact Or.inr h
  have hl := lv_entry ([.int (nI a), .int (nI b)]) (n := 2) (Nat.le_of_ble_eq_true rfl)
  rw [lg_entry_eq]
  generalize (lg_sl ([.int (nI a), .int (nI b)]) ++ List.replicate (2 - (lg_sl ([.int (nI a), .int (nI b)])).length) Slot.unset).toArray = ls at hl ⊢
  have hl : lv_has ls 2 [(0, .int (nI a)), (1, .int (nI b))] := hl
  refine qgen (fun Q hQ => ?_)
  refine hgen (fun H locs hP hD hS => ?_) hP hD
  refine lv_iload_n hx hb dX10_areInLine_0 rfl (lv_at hl 0 rfl) ?_
  refine lv_iload_n hx hb dX10_areInLine_1 rfl (lv_at hl 1 rfl) ?_
  refine lv_icmp_eq (tgt := 27) hx hb dX10_areInLine_2 (by decide) (fun c_1 => ?_) (fun c_1 => ?_)
  · skip
    have c_1 : a = b := (nI_eq (a := a) (b := b) (by omega) (by omega)).mp c_1
    refine lv_iconst (v := nI 0) hx hb dX10_areInLine_27 (by decide) ?_
    have hP9 := hP.sub (ws' := []) [] rfl
    have hD9 := hD.sub (ws' := []) [] (by decide) rfl
    subst hQ
    exact W.zret (v := nI 0) hx hb hr (by decide) (fun t ht hW => ⟨⟨nI 0, (), rfl, trivial, by rw [ht]; exact hP9, hD9⟩, hS.F ht⟩) hS.2.2 dX10_areInLine_28
  · skip
    have c_1 : ¬ a = b := fun z => c_1 ((nI_eq (a := a) (b := b) (by omega) (by omega)).mpr z)
    refine lv_iload_n hx hb dX10_areInLine_5 rfl (lv_at hl 0 rfl) ?_
    refine lv_iconst (v := nI 4) hx hb dX10_areInLine_6 (by decide) ?_
    refine lv_idiv hx hb dX10_areInLine_7 (nI_ne0 (by omega) (by omega)) ?_
    refine lv_toe (pk_div (a := a) (d := 4) (by omega) (by omega) (by omega)) ?_
    refine lv_iload_n hx hb dX10_areInLine_8 rfl (lv_at hl 1 rfl) ?_
    refine lv_iconst (v := nI 4) hx hb dX10_areInLine_9 (by decide) ?_
    refine lv_idiv hx hb dX10_areInLine_10 (nI_ne0 (by omega) (by omega)) ?_
    refine lv_toe (pk_div (a := b) (d := 4) (by omega) (by omega) (by omega)) ?_
    refine lv_icmp_eq (tgt := 23) hx hb dX10_areInLine_11 (by decide) (fun c_2 => ?_) (fun c_2 => ?_)
    · skip
      have c_2 : (a / 4) = (b / 4) := (nI_eq (a := a / 4) (b := b / 4) (by omega) (by omega)).mp c_2
      refine lv_iconst (v := nI 1) hx hb dX10_areInLine_23 (by decide) ?_
      refine lv_goto (tgt := 28) hx hb dX10_areInLine_24 (by decide) ?_
      have hP9 := hP.sub (ws' := []) [] rfl
      have hD9 := hD.sub (ws' := []) [] (by decide) rfl
      subst hQ
      exact W.zret (v := nI 1) hx hb hr (by decide) (fun t ht hW => ⟨⟨nI 1, (), rfl, trivial, by rw [ht]; exact hP9, hD9⟩, hS.F ht⟩) hS.2.2 dX10_areInLine_28
    · skip
      have c_2 : ¬ (a / 4) = (b / 4) := fun z => c_2 ((nI_eq (a := a / 4) (b := b / 4) (by omega) (by omega)).mpr z)
      refine lv_iload_n hx hb dX10_areInLine_14 rfl (lv_at hl 0 rfl) ?_
      refine lv_iconst (v := nI 4) hx hb dX10_areInLine_15 (by decide) ?_
      refine lv_irem hx hb dX10_areInLine_16 (nI_ne0 (by omega) (by omega)) ?_
      refine lv_toe (pk_rem (a := a) (d := 4) (by omega) (by omega) (by omega)) ?_
      refine lv_iload_n hx hb dX10_areInLine_17 rfl (lv_at hl 1 rfl) ?_
      refine lv_iconst (v := nI 4) hx hb dX10_areInLine_18 (by decide) ?_
      refine lv_irem hx hb dX10_areInLine_19 (nI_ne0 (by omega) (by omega)) ?_
      refine lv_toe (pk_rem (a := b) (d := 4) (by omega) (by omega) (by omega)) ?_
      refine lv_icmp_ne (tgt := 27) hx hb dX10_areInLine_20 (by decide) (fun c_3 => ?_) (fun c_3 => ?_)
      · skip
        have c_3 : ¬ (a % 4) = (b % 4) := fun z => c_3 ((nI_eq (a := a % 4) (b := b % 4) (by omega) (by omega)).mpr z)
        refine lv_iconst (v := nI 0) hx hb dX10_areInLine_27 (by decide) ?_
        have hP9 := hP.sub (ws' := []) [] rfl
        have hD9 := hD.sub (ws' := []) [] (by decide) rfl
        subst hQ
        exact W.zret (v := nI 0) hx hb hr (by decide) (fun t ht hW => ⟨⟨nI 0, (), rfl, trivial, by rw [ht]; exact hP9, hD9⟩, hS.F ht⟩) hS.2.2 dX10_areInLine_28
      · skip
        have c_3 : (a % 4) = (b % 4) := (nI_eq (a := a % 4) (b := b % 4) (by omega) (by omega)).mp c_3
        refine lv_iconst (v := nI 1) hx hb dX10_areInLine_23 (by decide) ?_
        refine lv_goto (tgt := 28) hx hb dX10_areInLine_24 (by decide) ?_
        have hP9 := hP.sub (ws' := []) [] rfl
        have hD9 := hD.sub (ws' := []) [] (by decide) rfl
        subst hQ
        exact W.zret (v := nI 1) hx hb hr (by decide) (fun t ht hW => ⟨⟨nI 1, (), rfl, trivial, by rw [ht]; exact hP9, hD9⟩, hS.F ht⟩) hS.2.2 dX10_areInLine_28
set_option maxHeartbeats 4000000 in
set_option maxRecDepth 100000 in
theorem c_X8_byOnly (l : Launch) (G : GG) (k : Nat) (v : Int32) (ca : Nat) (f : Nat → Int32) (hk : k < 16) : Mi l G yX8_byOnly cX8_byOnly 5 (some .boolean) ({ frames := 1, cells := 0, slots := 0, locals := 21 } : Room) [.int (nI k), .int v, .ref ca] [(ca, .inl (gyI G, 16, .inl f))] (fun (r : Int32) (u : Nat) => r = nI u ∧ u ≤ 1) (fun (u : Nat) => [(ca, .inl (gyI G, 16, .inl f))]) := by
  intro sz
  refine Met.ofW (cc := cX8_byOnly) (maxL := 5) (ret := (some .boolean)) (by decide) rfl ?_
  intro p e s m args below meth c s₁ B9 hml hv
  obtain ⟨rfl, hsz, hP, hK, hD0, hE⟩ := hv
  have hx := B9.exec
  have hb := B9.bytes
  have hr := B9.returns
  have hts : ∀ w ∈ WW, w.before ([.int (nI k), .int v, .ref ca] : List Value).toArray s = true := fun w h => atoms_spec (ws := .code yX8_byOnly cX8_byOnly 5 (some .boolean) :: WW) B9.pre w (List.mem_cons_of_mem _ h)
  have hown : s.vm.findClass RX8 = some m.cls := findClass_of_methodNamed B9.named
  subst hsz
  have hD := hD0.self (sz := s.heap.size)
  generalize hAe : va_A [(ca, .inl (gyI G, 16, .inl f))] s.heap.size = A at hD hE ⊢
  have hA : ∀ q : Nat, s.heap.size ≤ q → A q := fun q h => by rw [← hAe]; exact Or.inr h
  have hl := lv_entry ([.int (nI k), .int v, .ref ca]) (n := 5) (Nat.le_of_ble_eq_true rfl)
  rw [lg_entry_eq]
  generalize (lg_sl ([.int (nI k), .int v, .ref ca]) ++ List.replicate (5 - (lg_sl ([.int (nI k), .int v, .ref ca])).length) Slot.unset).toArray = ls at hl ⊢
  have hl : lv_has ls 5 [(0, .int (nI k)), (1, .int v), (2, .ref ca)] := hl
  refine qgen (fun Q hQ => ?_)
  refine hgen (fun H locs hP hD hS => ?_) hP hD
  refine lv_iconst (v := nI 0) hx hb dX8_byOnly_0 (by decide) ?_
  refine lv_istore_n (lv' := [(3, .int (nI 0)), (0, .int (nI k)), (1, .int v), (2, .ref ca)]) hx hb dX8_byOnly_1 rfl hl (by decide) rfl (fun ls hl => ?_)
  refine lv_iconst (v := nI 0) hx hb dX8_byOnly_2 (by decide) ?_
  refine lv_istore (lv' := [(4, .int (nI 0)), (3, .int (nI 0)), (0, .int (nI k)), (1, .int v), (2, .ref ca)]) hx hb dX8_byOnly_3 hl (by decide) rfl (fun ls hl => ?_)
  have cut_5_1 : ∀ (n9 : Nat) (bs : Nat) (i : Nat) (hbs : bs ≤ 1) (hi : i ≤ 16) (hm9 : 16 - i < n9) (H : Heap) (locs : List Loc), va_P (gD G) vwCl [(ca, .inl (gyI G, 16, .inl f))] H → va_D A [(ca, .inl (gyI G, 16, .inl f))] → va_S A s.heap H locs → ∀ (ls : Array Slot), lv_has ls 5 [(0, .int (nI k)), (1, .int v), (2, .ref ca), (3, .int (nI bs)), (4, .int (nI i))] → W p l e ({ frames := 1, cells := 0, slots := 0, locals := 21 } : Room) s m ([.int (nI k), .int v, .ref ca] : List Value).toArray below meth c H locs 0 0 Q (F0 m 5 ls []) := by
    intro n9
    induction n9 with
    | zero =>
      intro bs i hbs hi hm9
      exact absurd hm9 (Nat.not_lt_zero _)
    | succ n9 ih_5_1 =>
      intro bs i hbs hi hm9 H locs hP hD hS ls hl
      refine lv_iload hx hb dX8_byOnly_5 (lv_at hl 4 rfl) ?_
      refine lv_bipush (v := nI 16) hx hb dX8_byOnly_7 (by decide) ?_
      refine lv_icmp_ge (tgt := 47) hx hb dX8_byOnly_9 (by decide) (fun c_1 => ?_) (fun c_1 => ?_)
      · skip
        have c_1 : 16 ≤ i := (nI_leI (a := 16) (b := i) (by omega) (by omega)).mp c_1
        refine lv_iload_n hx hb dX8_byOnly_47 rfl (lv_at hl 3 rfl) ?_
        have hP9 := hP.sub (ws' := [(ca, .inl (gyI G, 16, .inl f))]) [0] rfl
        have hD9 := hD.sub (ws' := [(ca, .inl (gyI G, 16, .inl f))]) [0] (by decide) rfl
        subst hQ
        exact W.zret (v := nI bs) hx hb hr (nar_b (by omega)) (fun t ht hW => ⟨⟨nI bs, bs, rfl, ⟨rfl, (show bs ≤ 1 by omega)⟩, by rw [ht]; exact hP9, hD9⟩, hS.F ht⟩) hS.2.2 dX8_byOnly_48
      · skip
        have c_1 : ¬ 16 ≤ i := fun z => c_1 ((nI_leI (a := 16) (b := i) (by omega) (by omega)).mpr z)
        refine lv_iload_n hx hb dX8_byOnly_12 rfl (lv_at hl 3 rfl) ?_
        refine lv_iload hx hb dX8_byOnly_13 (lv_at hl 4 rfl) ?_
        refine lv_iload_n hx hb dX8_byOnly_15 rfl (lv_at hl 0 rfl) ?_
        refine fin_i hP hD hS hA [] [0] (wr := [(ca, .inl (gyI G, 16, .inl f))]) rfl rfl (by decide) (by decide) (va_runSN (As := [.int (nI i), .int (nI k)]) (rest := [.int (nI bs)]) ⟨hx, hb, hml, hown, hts⟩ (c_X10_areInLine l G i k (by omega) (by omega) H.size) ⟨(va_cnB 2 hts (gI q1088) rfl rfl rfl (hE.1.1 _ nq1086) (hts _ q52) (by decide +kernel) ⟨Nat.le_of_ble_eq_true rfl, Nat.le_of_ble_eq_true rfl⟩), hts _ q1087, trivial⟩ (preS hK hE hP hD hS hA [] rfl (by decide)) rfl rfl hl.1 rfl (lv_room (Nat.le_of_ble_eq_true rfl)) dX8_byOnly_16 ⟨Nat.le_of_ble_eq_true rfl, Nat.le_of_ble_eq_true rfl⟩) (fun r_3 u9 hw_2 H locs hP hD hS => ?_)
        have hP : va_P (gD G) vwCl [(ca, .inl (gyI G, 16, .inl f))] H := hP
        have hD : va_D A [(ca, .inl (gyI G, 16, .inl f))] := hD
        refine lv_if_eq (tgt := 38) hx hb dX8_byOnly_19 (by decide) (fun c_4 => ?_) (fun c_4 => ?_)
        · skip
          refine lv_iconst (v := nI 0) hx hb dX8_byOnly_38 (by decide) ?_
          refine lv_ior hx hb dX8_byOnly_39 ?_
          refine lv_toe (bor0 (by omega)) ?_
          refine lv_istore_n (lv' := [(3, .int (nI bs)), (0, .int (nI k)), (1, .int v), (2, .ref ca), (4, .int (nI i))]) hx hb dX8_byOnly_40 rfl hl (by decide) rfl (fun ls hl => ?_)
          refine lv_iinc (v := nI (i + 1)) (lv' := [(4, .int (nI (i + 1))), (3, .int (nI bs)), (0, .int (nI k)), (1, .int v), (2, .ref ca)]) hx hb dX8_byOnly_41 hl (k := 4) rfl (nI_add i 1) (by decide) rfl (fun ls hl => ?_)
          refine lv_goto (tgt := 5) hx hb dX8_byOnly_44 (by decide) ?_
          exact ih_5_1 bs (i + 1) (by omega) (by omega) (by omega) _ _ (hP.sub [0] rfl) (hD.sub [0] (by decide) rfl) hS ls (lv_sub hl [2, 3, 4, 1, 0] rfl)
        · skip
          refine lv_aload_n hx hb dX8_byOnly_22 rfl (lv_at hl 2 rfl) ?_
          refine lv_iload hx hb dX8_byOnly_23 (lv_at hl 4 rfl) ?_
          refine va_iald (D := gD G) (cA := gyI G) (n := 16) (f := f) hx hb hK hP 0 0 rfl rfl (vp_in_nI (n := i) (N := 16) (by omega) (by omega)) dX8_byOnly_25 ?_
          refine lv_topi (fun w_5 ew_5 => ?_)
          refine lv_iconst (v := nI 1) hx hb dX8_byOnly_26 (by decide) ?_
          refine lv_iload_n hx hb dX8_byOnly_27 rfl (lv_at hl 1 rfl) ?_
          refine lv_iconst (v := nI 1) hx hb dX8_byOnly_28 (by decide) ?_
          refine lv_isub hx hb dX8_byOnly_29 ?_
          refine lv_topi (fun w_6 ew_6 => ?_)
          refine lv_ishl hx hb dX8_byOnly_30 ?_
          refine lv_topi (fun w_7 ew_7 => ?_)
          refine lv_icmp_ne (tgt := 38) hx hb dX8_byOnly_31 (by decide) (fun c_8 => ?_) (fun c_8 => ?_)
          · skip
            refine lv_iconst (v := nI 0) hx hb dX8_byOnly_38 (by decide) ?_
            refine lv_ior hx hb dX8_byOnly_39 ?_
            refine lv_toe (bor0 (by omega)) ?_
            refine lv_istore_n (lv' := [(3, .int (nI bs)), (0, .int (nI k)), (1, .int v), (2, .ref ca), (4, .int (nI i))]) hx hb dX8_byOnly_40 rfl hl (by decide) rfl (fun ls hl => ?_)
            refine lv_iinc (v := nI (i + 1)) (lv' := [(4, .int (nI (i + 1))), (3, .int (nI bs)), (0, .int (nI k)), (1, .int v), (2, .ref ca)]) hx hb dX8_byOnly_41 hl (k := 4) rfl (nI_add i 1) (by decide) rfl (fun ls hl => ?_)
            refine lv_goto (tgt := 5) hx hb dX8_byOnly_44 (by decide) ?_
            exact ih_5_1 bs (i + 1) (by omega) (by omega) (by omega) _ _ (hP.sub [0] rfl) (hD.sub [0] (by decide) rfl) hS ls (lv_sub hl [2, 3, 4, 1, 0] rfl)
          · skip
            refine lv_iconst (v := nI 1) hx hb dX8_byOnly_34 (by decide) ?_
            refine lv_goto (tgt := 39) hx hb dX8_byOnly_35 (by decide) ?_
            refine lv_ior hx hb dX8_byOnly_39 ?_
            refine lv_toe (bor1 (by omega)) ?_
            refine lv_istore_n (lv' := [(3, .int (nI 1)), (0, .int (nI k)), (1, .int v), (2, .ref ca), (4, .int (nI i))]) hx hb dX8_byOnly_40 rfl hl (by decide) rfl (fun ls hl => ?_)
            refine lv_iinc (v := nI (i + 1)) (lv' := [(4, .int (nI (i + 1))), (3, .int (nI 1)), (0, .int (nI k)), (1, .int v), (2, .ref ca)]) hx hb dX8_byOnly_41 hl (k := 4) rfl (nI_add i 1) (by decide) rfl (fun ls hl => ?_)
            refine lv_goto (tgt := 5) hx hb dX8_byOnly_44 (by decide) ?_
            exact ih_5_1 1 (i + 1) (by omega) (by omega) (by omega) _ _ (hP.sub [0] rfl) (hD.sub [0] (by decide) rfl) hS ls (lv_sub hl [2, 3, 4, 1, 0] rfl)
  exact cut_5_1 (16 - 0 + 1) 0 0 (by omega) (by omega) (Nat.lt_succ_self _) _ _ (hP.sub [0] rfl) (hD.sub [0] (by decide) rfl) hS ls (lv_sub hl [2, 3, 4, 1, 0] rfl)
set_option maxHeartbeats 4000000 in
set_option maxRecDepth 100000 in
theorem c_X8_byPlace (l : Launch) (G : GG) (k : Nat) (v : Int32) (ca : Nat) (f : Nat → Int32) (hk : k < 16) : Mi l G yX8_byPlace cX8_byPlace 6 (some .boolean) ({ frames := 0, cells := 0, slots := 0, locals := 0 } : Room) [.int (nI k), .int v, .ref ca] [(ca, .inl (gyI G, 16, .inl f))] (fun (r : Int32) (u : Nat) => r = nI u ∧ u ≤ 1) (fun (u : Nat) => [(ca, .inl (gyI G, 16, .inl f))]) := by
  intro sz
  refine Met.ofW (cc := cX8_byPlace) (maxL := 6) (ret := (some .boolean)) (by decide) rfl ?_
  intro p e s m args below meth c s₁ B9 hml hv
  obtain ⟨rfl, hsz, hP, hK, hD0, hE⟩ := hv
  have hx := B9.exec
  have hb := B9.bytes
  have hr := B9.returns
  have hts : ∀ w ∈ WW, w.before ([.int (nI k), .int v, .ref ca] : List Value).toArray s = true := fun w h => atoms_spec (ws := .code yX8_byPlace cX8_byPlace 6 (some .boolean) :: WW) B9.pre w (List.mem_cons_of_mem _ h)
  have hown : s.vm.findClass RX8 = some m.cls := findClass_of_methodNamed B9.named
  subst hsz
  have hD := hD0.self (sz := s.heap.size)
  generalize hAe : va_A [(ca, .inl (gyI G, 16, .inl f))] s.heap.size = A at hD hE ⊢
  have hA : ∀ q : Nat, s.heap.size ≤ q → A q := fun q h => by rw [← hAe]; exact Or.inr h
  have hl := lv_entry ([.int (nI k), .int v, .ref ca]) (n := 6) (Nat.le_of_ble_eq_true rfl)
  rw [lg_entry_eq]
  generalize (lg_sl ([.int (nI k), .int v, .ref ca]) ++ List.replicate (6 - (lg_sl ([.int (nI k), .int v, .ref ca])).length) Slot.unset).toArray = ls at hl ⊢
  have hl : lv_has ls 6 [(0, .int (nI k)), (1, .int v), (2, .ref ca)] := hl
  refine qgen (fun Q hQ => ?_)
  refine hgen (fun H locs hP hD hS => ?_) hP hD
  refine lv_iconst (v := nI 0) hx hb dX8_byPlace_0 (by decide) ?_
  refine lv_istore_n (lv' := [(3, .int (nI 0)), (0, .int (nI k)), (1, .int v), (2, .ref ca)]) hx hb dX8_byPlace_1 rfl hl (by decide) rfl (fun ls hl => ?_)
  refine lv_iconst (v := nI 0) hx hb dX8_byPlace_2 (by decide) ?_
  refine lv_istore (lv' := [(4, .int (nI 0)), (3, .int (nI 0)), (0, .int (nI k)), (1, .int v), (2, .ref ca)]) hx hb dX8_byPlace_3 hl (by decide) rfl (fun ls hl => ?_)
  refine lv_iconst (v := nI 0) hx hb dX8_byPlace_5 (by decide) ?_
  refine lv_istore (lv' := [(5, .int (nI 0)), (4, .int (nI 0)), (3, .int (nI 0)), (0, .int (nI k)), (1, .int v), (2, .ref ca)]) hx hb dX8_byPlace_6 hl (by decide) rfl (fun ls hl => ?_)
  have cut_8_1 : ∀ (n9 : Nat) (x3 : Int32) (x4 : Int32) (i : Nat) (hi : i ≤ 16) (hm9 : 16 - i < n9) (H : Heap) (locs : List Loc), va_P (gD G) vwCl [(ca, .inl (gyI G, 16, .inl f))] H → va_D A [(ca, .inl (gyI G, 16, .inl f))] → va_S A s.heap H locs → ∀ (ls : Array Slot), lv_has ls 6 [(0, .int (nI k)), (1, .int v), (2, .ref ca), (3, .int x3), (4, .int x4), (5, .int (nI i))] → W p l e ({ frames := 0, cells := 0, slots := 0, locals := 0 } : Room) s m ([.int (nI k), .int v, .ref ca] : List Value).toArray below meth c H locs 0 0 Q (F0 m 8 ls []) := by
    intro n9
    induction n9 with
    | zero =>
      intro x3 x4 i hi hm9
      exact absurd hm9 (Nat.not_lt_zero _)
    | succ n9 ih_8_1 =>
      intro x3 x4 i hi hm9 H locs hP hD hS ls hl
      refine lv_iload hx hb dX8_byPlace_8 (lv_at hl 5 rfl) ?_
      refine lv_bipush (v := nI 16) hx hb dX8_byPlace_10 (by decide) ?_
      refine lv_icmp_ge (tgt := 69) hx hb dX8_byPlace_12 (by decide) (fun c_1 => ?_) (fun c_1 => ?_)
      · skip
        have c_1 : 16 ≤ i := (nI_leI (a := 16) (b := i) (by omega) (by omega)).mp c_1
        refine lv_aload_n hx hb dX8_byPlace_69 rfl (lv_at hl 2 rfl) ?_
        refine lv_iload_n hx hb dX8_byPlace_70 rfl (lv_at hl 0 rfl) ?_
        refine va_iald (D := gD G) (cA := gyI G) (n := 16) (f := f) hx hb hK hP 0 0 rfl rfl (vp_in_nI (n := k) (N := 16) (by omega) (by omega)) dX8_byPlace_71 ?_
        refine lv_topi (fun w_2 ew_2 => ?_)
        refine lv_iconst (v := nI 1) hx hb dX8_byPlace_72 (by decide) ?_
        refine lv_iload_n hx hb dX8_byPlace_73 rfl (lv_at hl 1 rfl) ?_
        refine lv_iconst (v := nI 1) hx hb dX8_byPlace_74 (by decide) ?_
        refine lv_isub hx hb dX8_byPlace_75 ?_
        refine lv_topi (fun w_3 ew_3 => ?_)
        refine lv_ishl hx hb dX8_byPlace_76 ?_
        refine lv_topi (fun w_4 ew_4 => ?_)
        refine lv_iconst (v := -1) hx hb dX8_byPlace_77 (by decide) ?_
        refine lv_ixor hx hb dX8_byPlace_78 ?_
        refine lv_topi (fun w_5 ew_5 => ?_)
        refine lv_iand hx hb dX8_byPlace_79 ?_
        refine lv_topi (fun w_6 ew_6 => ?_)
        refine lv_istore (lv' := [(5, .int w_6), (0, .int (nI k)), (1, .int v), (2, .ref ca), (3, .int x3), (4, .int x4)]) hx hb dX8_byPlace_80 hl (by decide) rfl (fun ls hl => ?_)
        refine lv_iload hx hb dX8_byPlace_82 (lv_at hl 0 rfl) ?_
        refine lv_iload_n hx hb dX8_byPlace_84 rfl (lv_at hl 4 rfl) ?_
        refine lv_iconst (v := -1) hx hb dX8_byPlace_85 (by decide) ?_
        refine lv_ixor hx hb dX8_byPlace_86 ?_
        refine lv_topi (fun w_7 ew_7 => ?_)
        refine lv_iand hx hb dX8_byPlace_87 ?_
        refine lv_topi (fun w_8 ew_8 => ?_)
        refine lv_if_ne (tgt := 101) hx hb dX8_byPlace_88 (by decide) (fun c_9 => ?_) (fun c_9 => ?_)
        · skip
          refine lv_iconst (v := nI 1) hx hb dX8_byPlace_101 (by decide) ?_
          refine lv_goto (tgt := 106) hx hb dX8_byPlace_102 (by decide) ?_
          have hP9 := hP.sub (ws' := [(ca, .inl (gyI G, 16, .inl f))]) [0] rfl
          have hD9 := hD.sub (ws' := [(ca, .inl (gyI G, 16, .inl f))]) [0] (by decide) rfl
          subst hQ
          exact W.zret (v := nI 1) hx hb hr (by decide) (fun t ht hW => ⟨⟨nI 1, 1, rfl, ⟨rfl, (show 1 ≤ 1 by omega)⟩, by rw [ht]; exact hP9, hD9⟩, hS.F ht⟩) hS.2.2 dX8_byPlace_106
        · skip
          refine lv_iload hx hb dX8_byPlace_91 (lv_at hl 0 rfl) ?_
          refine lv_iload hx hb dX8_byPlace_93 (lv_at hl 5 rfl) ?_
          refine lv_iconst (v := -1) hx hb dX8_byPlace_95 (by decide) ?_
          refine lv_ixor hx hb dX8_byPlace_96 ?_
          refine lv_topi (fun w_10 ew_10 => ?_)
          refine lv_iand hx hb dX8_byPlace_97 ?_
          refine lv_topi (fun w_11 ew_11 => ?_)
          refine lv_if_eq (tgt := 105) hx hb dX8_byPlace_98 (by decide) (fun c_12 => ?_) (fun c_12 => ?_)
          · skip
            refine lv_iconst (v := nI 0) hx hb dX8_byPlace_105 (by decide) ?_
            have hP9 := hP.sub (ws' := [(ca, .inl (gyI G, 16, .inl f))]) [0] rfl
            have hD9 := hD.sub (ws' := [(ca, .inl (gyI G, 16, .inl f))]) [0] (by decide) rfl
            subst hQ
            exact W.zret (v := nI 0) hx hb hr (by decide) (fun t ht hW => ⟨⟨nI 0, 0, rfl, ⟨rfl, (show 0 ≤ 1 by omega)⟩, by rw [ht]; exact hP9, hD9⟩, hS.F ht⟩) hS.2.2 dX8_byPlace_106
          · skip
            refine lv_iconst (v := nI 1) hx hb dX8_byPlace_101 (by decide) ?_
            refine lv_goto (tgt := 106) hx hb dX8_byPlace_102 (by decide) ?_
            have hP9 := hP.sub (ws' := [(ca, .inl (gyI G, 16, .inl f))]) [0] rfl
            have hD9 := hD.sub (ws' := [(ca, .inl (gyI G, 16, .inl f))]) [0] (by decide) rfl
            subst hQ
            exact W.zret (v := nI 1) hx hb hr (by decide) (fun t ht hW => ⟨⟨nI 1, 1, rfl, ⟨rfl, (show 1 ≤ 1 by omega)⟩, by rw [ht]; exact hP9, hD9⟩, hS.F ht⟩) hS.2.2 dX8_byPlace_106
      · skip
        have c_1 : ¬ 16 ≤ i := fun z => c_1 ((nI_leI (a := 16) (b := i) (by omega) (by omega)).mpr z)
        refine lv_iload hx hb dX8_byPlace_15 (lv_at hl 5 rfl) ?_
        refine lv_iload_n hx hb dX8_byPlace_17 rfl (lv_at hl 0 rfl) ?_
        refine lv_icmp_eq (tgt := 38) hx hb dX8_byPlace_18 (by decide) (fun c_13 => ?_) (fun c_13 => ?_)
        · skip
          have c_13 : i = k := (nI_eq (a := i) (b := k) (by omega) (by omega)).mp c_13
          refine lv_iload hx hb dX8_byPlace_38 (lv_at hl 5 rfl) ?_
          refine lv_iload_n hx hb dX8_byPlace_40 rfl (lv_at hl 0 rfl) ?_
          refine lv_icmp_eq (tgt := 63) hx hb dX8_byPlace_41 (by decide) (fun c_14 => ?_) (fun c_14 => ?_)
          · skip
            have c_14 : i = k := (nI_eq (a := i) (b := k) (by omega) (by omega)).mp c_14
            refine lv_iinc (v := nI (i + 1)) (lv' := [(5, .int (nI (i + 1))), (0, .int (nI k)), (1, .int v), (2, .ref ca), (3, .int x3), (4, .int x4)]) hx hb dX8_byPlace_63 hl (k := 5) rfl (nI_add i 1) (by decide) rfl (fun ls hl => ?_)
            refine lv_goto (tgt := 8) hx hb dX8_byPlace_66 (by decide) ?_
            exact ih_8_1 x3 x4 (i + 1) (by omega) (by omega) _ _ (hP.sub [0] rfl) (hD.sub [0] (by decide) rfl) hS ls (lv_sub hl [1, 2, 3, 4, 5, 0] rfl)
          · skip
            have c_14 : ¬ i = k := fun z => c_14 ((nI_eq (a := i) (b := k) (by omega) (by omega)).mpr z)
            refine lv_iload hx hb dX8_byPlace_44 (lv_at hl 5 rfl) ?_
            refine lv_iconst (v := nI 4) hx hb dX8_byPlace_46 (by decide) ?_
            refine lv_irem hx hb dX8_byPlace_47 (nI_ne0 (by omega) (by omega)) ?_
            refine lv_toe (pk_rem (a := i) (d := 4) (by omega) (by omega) (by omega)) ?_
            refine lv_iload_n hx hb dX8_byPlace_48 rfl (lv_at hl 0 rfl) ?_
            refine lv_iconst (v := nI 4) hx hb dX8_byPlace_49 (by decide) ?_
            refine lv_irem hx hb dX8_byPlace_50 (nI_ne0 (by omega) (by omega)) ?_
            refine lv_toe (pk_rem (a := k) (d := 4) (by omega) (by omega) (by omega)) ?_
            refine lv_icmp_ne (tgt := 63) hx hb dX8_byPlace_51 (by decide) (fun c_15 => ?_) (fun c_15 => ?_)
            · skip
              have c_15 : ¬ (i % 4) = (k % 4) := fun z => c_15 ((nI_eq (a := i % 4) (b := k % 4) (by omega) (by omega)).mpr z)
              refine lv_iinc (v := nI (i + 1)) (lv' := [(5, .int (nI (i + 1))), (0, .int (nI k)), (1, .int v), (2, .ref ca), (3, .int x3), (4, .int x4)]) hx hb dX8_byPlace_63 hl (k := 5) rfl (nI_add i 1) (by decide) rfl (fun ls hl => ?_)
              refine lv_goto (tgt := 8) hx hb dX8_byPlace_66 (by decide) ?_
              exact ih_8_1 x3 x4 (i + 1) (by omega) (by omega) _ _ (hP.sub [0] rfl) (hD.sub [0] (by decide) rfl) hS ls (lv_sub hl [1, 2, 3, 4, 5, 0] rfl)
            · skip
              have c_15 : (i % 4) = (k % 4) := (nI_eq (a := i % 4) (b := k % 4) (by omega) (by omega)).mp c_15
              refine lv_iload hx hb dX8_byPlace_54 (lv_at hl 4 rfl) ?_
              refine lv_aload_n hx hb dX8_byPlace_56 rfl (lv_at hl 2 rfl) ?_
              refine lv_iload hx hb dX8_byPlace_57 (lv_at hl 5 rfl) ?_
              refine va_iald (D := gD G) (cA := gyI G) (n := 16) (f := f) hx hb hK hP 0 0 rfl rfl (vp_in_nI (n := i) (N := 16) (by omega) (by omega)) dX8_byPlace_59 ?_
              refine lv_topi (fun w_16 ew_16 => ?_)
              refine lv_ior hx hb dX8_byPlace_60 ?_
              refine lv_topi (fun w_17 ew_17 => ?_)
              refine lv_istore (lv' := [(4, .int w_17), (0, .int (nI k)), (1, .int v), (2, .ref ca), (3, .int x3), (5, .int (nI i))]) hx hb dX8_byPlace_61 hl (by decide) rfl (fun ls hl => ?_)
              refine lv_iinc (v := nI (i + 1)) (lv' := [(5, .int (nI (i + 1))), (4, .int w_17), (0, .int (nI k)), (1, .int v), (2, .ref ca), (3, .int x3)]) hx hb dX8_byPlace_63 hl (k := 5) rfl (nI_add i 1) (by decide) rfl (fun ls hl => ?_)
              refine lv_goto (tgt := 8) hx hb dX8_byPlace_66 (by decide) ?_
              exact ih_8_1 x3 w_17 (i + 1) (by omega) (by omega) _ _ (hP.sub [0] rfl) (hD.sub [0] (by decide) rfl) hS ls (lv_sub hl [2, 3, 4, 5, 1, 0] rfl)
        · skip
          have c_13 : ¬ i = k := fun z => c_13 ((nI_eq (a := i) (b := k) (by omega) (by omega)).mpr z)
          refine lv_iload hx hb dX8_byPlace_21 (lv_at hl 5 rfl) ?_
          refine lv_iconst (v := nI 4) hx hb dX8_byPlace_23 (by decide) ?_
          refine lv_idiv hx hb dX8_byPlace_24 (nI_ne0 (by omega) (by omega)) ?_
          refine lv_toe (pk_div (a := i) (d := 4) (by omega) (by omega) (by omega)) ?_
          refine lv_iload_n hx hb dX8_byPlace_25 rfl (lv_at hl 0 rfl) ?_
          refine lv_iconst (v := nI 4) hx hb dX8_byPlace_26 (by decide) ?_
          refine lv_idiv hx hb dX8_byPlace_27 (nI_ne0 (by omega) (by omega)) ?_
          refine lv_toe (pk_div (a := k) (d := 4) (by omega) (by omega) (by omega)) ?_
          refine lv_icmp_ne (tgt := 38) hx hb dX8_byPlace_28 (by decide) (fun c_18 => ?_) (fun c_18 => ?_)
          · skip
            have c_18 : ¬ (i / 4) = (k / 4) := fun z => c_18 ((nI_eq (a := i / 4) (b := k / 4) (by omega) (by omega)).mpr z)
            refine lv_iload hx hb dX8_byPlace_38 (lv_at hl 5 rfl) ?_
            refine lv_iload_n hx hb dX8_byPlace_40 rfl (lv_at hl 0 rfl) ?_
            refine lv_icmp_eq (tgt := 63) hx hb dX8_byPlace_41 (by decide) (fun c_19 => ?_) (fun c_19 => ?_)
            · skip
              have c_19 : i = k := (nI_eq (a := i) (b := k) (by omega) (by omega)).mp c_19
              refine lv_iinc (v := nI (i + 1)) (lv' := [(5, .int (nI (i + 1))), (0, .int (nI k)), (1, .int v), (2, .ref ca), (3, .int x3), (4, .int x4)]) hx hb dX8_byPlace_63 hl (k := 5) rfl (nI_add i 1) (by decide) rfl (fun ls hl => ?_)
              refine lv_goto (tgt := 8) hx hb dX8_byPlace_66 (by decide) ?_
              exact ih_8_1 x3 x4 (i + 1) (by omega) (by omega) _ _ (hP.sub [0] rfl) (hD.sub [0] (by decide) rfl) hS ls (lv_sub hl [1, 2, 3, 4, 5, 0] rfl)
            · skip
              have c_19 : ¬ i = k := fun z => c_19 ((nI_eq (a := i) (b := k) (by omega) (by omega)).mpr z)
              refine lv_iload hx hb dX8_byPlace_44 (lv_at hl 5 rfl) ?_
              refine lv_iconst (v := nI 4) hx hb dX8_byPlace_46 (by decide) ?_
              refine lv_irem hx hb dX8_byPlace_47 (nI_ne0 (by omega) (by omega)) ?_
              refine lv_toe (pk_rem (a := i) (d := 4) (by omega) (by omega) (by omega)) ?_
              refine lv_iload_n hx hb dX8_byPlace_48 rfl (lv_at hl 0 rfl) ?_
              refine lv_iconst (v := nI 4) hx hb dX8_byPlace_49 (by decide) ?_
              refine lv_irem hx hb dX8_byPlace_50 (nI_ne0 (by omega) (by omega)) ?_
              refine lv_toe (pk_rem (a := k) (d := 4) (by omega) (by omega) (by omega)) ?_
              refine lv_icmp_ne (tgt := 63) hx hb dX8_byPlace_51 (by decide) (fun c_20 => ?_) (fun c_20 => ?_)
              · skip
                have c_20 : ¬ (i % 4) = (k % 4) := fun z => c_20 ((nI_eq (a := i % 4) (b := k % 4) (by omega) (by omega)).mpr z)
                refine lv_iinc (v := nI (i + 1)) (lv' := [(5, .int (nI (i + 1))), (0, .int (nI k)), (1, .int v), (2, .ref ca), (3, .int x3), (4, .int x4)]) hx hb dX8_byPlace_63 hl (k := 5) rfl (nI_add i 1) (by decide) rfl (fun ls hl => ?_)
                refine lv_goto (tgt := 8) hx hb dX8_byPlace_66 (by decide) ?_
                exact ih_8_1 x3 x4 (i + 1) (by omega) (by omega) _ _ (hP.sub [0] rfl) (hD.sub [0] (by decide) rfl) hS ls (lv_sub hl [1, 2, 3, 4, 5, 0] rfl)
              · skip
                have c_20 : (i % 4) = (k % 4) := (nI_eq (a := i % 4) (b := k % 4) (by omega) (by omega)).mp c_20
                refine lv_iload hx hb dX8_byPlace_54 (lv_at hl 4 rfl) ?_
                refine lv_aload_n hx hb dX8_byPlace_56 rfl (lv_at hl 2 rfl) ?_
                refine lv_iload hx hb dX8_byPlace_57 (lv_at hl 5 rfl) ?_
                refine va_iald (D := gD G) (cA := gyI G) (n := 16) (f := f) hx hb hK hP 0 0 rfl rfl (vp_in_nI (n := i) (N := 16) (by omega) (by omega)) dX8_byPlace_59 ?_
                refine lv_topi (fun w_21 ew_21 => ?_)
                refine lv_ior hx hb dX8_byPlace_60 ?_
                refine lv_topi (fun w_22 ew_22 => ?_)
                refine lv_istore (lv' := [(4, .int w_22), (0, .int (nI k)), (1, .int v), (2, .ref ca), (3, .int x3), (5, .int (nI i))]) hx hb dX8_byPlace_61 hl (by decide) rfl (fun ls hl => ?_)
                refine lv_iinc (v := nI (i + 1)) (lv' := [(5, .int (nI (i + 1))), (4, .int w_22), (0, .int (nI k)), (1, .int v), (2, .ref ca), (3, .int x3)]) hx hb dX8_byPlace_63 hl (k := 5) rfl (nI_add i 1) (by decide) rfl (fun ls hl => ?_)
                refine lv_goto (tgt := 8) hx hb dX8_byPlace_66 (by decide) ?_
                exact ih_8_1 x3 w_22 (i + 1) (by omega) (by omega) _ _ (hP.sub [0] rfl) (hD.sub [0] (by decide) rfl) hS ls (lv_sub hl [2, 3, 4, 5, 1, 0] rfl)
          · skip
            have c_18 : (i / 4) = (k / 4) := (nI_eq (a := i / 4) (b := k / 4) (by omega) (by omega)).mp c_18
            refine lv_iload_n hx hb dX8_byPlace_31 rfl (lv_at hl 3 rfl) ?_
            refine lv_aload_n hx hb dX8_byPlace_32 rfl (lv_at hl 2 rfl) ?_
            refine lv_iload hx hb dX8_byPlace_33 (lv_at hl 5 rfl) ?_
            refine va_iald (D := gD G) (cA := gyI G) (n := 16) (f := f) hx hb hK hP 0 0 rfl rfl (vp_in_nI (n := i) (N := 16) (by omega) (by omega)) dX8_byPlace_35 ?_
            refine lv_topi (fun w_23 ew_23 => ?_)
            refine lv_ior hx hb dX8_byPlace_36 ?_
            refine lv_topi (fun w_24 ew_24 => ?_)
            refine lv_istore_n (lv' := [(3, .int w_24), (0, .int (nI k)), (1, .int v), (2, .ref ca), (4, .int x4), (5, .int (nI i))]) hx hb dX8_byPlace_37 rfl hl (by decide) rfl (fun ls hl => ?_)
            refine lv_iload hx hb dX8_byPlace_38 (lv_at hl 5 rfl) ?_
            refine lv_iload_n hx hb dX8_byPlace_40 rfl (lv_at hl 1 rfl) ?_
            refine lv_icmp_eq (tgt := 63) hx hb dX8_byPlace_41 (by decide) (fun c_25 => ?_) (fun c_25 => ?_)
            · skip
              have c_25 : i = k := (nI_eq (a := i) (b := k) (by omega) (by omega)).mp c_25
              refine lv_iinc (v := nI (i + 1)) (lv' := [(5, .int (nI (i + 1))), (3, .int w_24), (0, .int (nI k)), (1, .int v), (2, .ref ca), (4, .int x4)]) hx hb dX8_byPlace_63 hl (k := 5) rfl (nI_add i 1) (by decide) rfl (fun ls hl => ?_)
              refine lv_goto (tgt := 8) hx hb dX8_byPlace_66 (by decide) ?_
              exact ih_8_1 w_24 x4 (i + 1) (by omega) (by omega) _ _ (hP.sub [0] rfl) (hD.sub [0] (by decide) rfl) hS ls (lv_sub hl [2, 3, 4, 1, 5, 0] rfl)
            · skip
              have c_25 : ¬ i = k := fun z => c_25 ((nI_eq (a := i) (b := k) (by omega) (by omega)).mpr z)
              refine lv_iload hx hb dX8_byPlace_44 (lv_at hl 5 rfl) ?_
              refine lv_iconst (v := nI 4) hx hb dX8_byPlace_46 (by decide) ?_
              refine lv_irem hx hb dX8_byPlace_47 (nI_ne0 (by omega) (by omega)) ?_
              refine lv_toe (pk_rem (a := i) (d := 4) (by omega) (by omega) (by omega)) ?_
              refine lv_iload_n hx hb dX8_byPlace_48 rfl (lv_at hl 1 rfl) ?_
              refine lv_iconst (v := nI 4) hx hb dX8_byPlace_49 (by decide) ?_
              refine lv_irem hx hb dX8_byPlace_50 (nI_ne0 (by omega) (by omega)) ?_
              refine lv_toe (pk_rem (a := k) (d := 4) (by omega) (by omega) (by omega)) ?_
              refine lv_icmp_ne (tgt := 63) hx hb dX8_byPlace_51 (by decide) (fun c_26 => ?_) (fun c_26 => ?_)
              · skip
                have c_26 : ¬ (i % 4) = (k % 4) := fun z => c_26 ((nI_eq (a := i % 4) (b := k % 4) (by omega) (by omega)).mpr z)
                refine lv_iinc (v := nI (i + 1)) (lv' := [(5, .int (nI (i + 1))), (3, .int w_24), (0, .int (nI k)), (1, .int v), (2, .ref ca), (4, .int x4)]) hx hb dX8_byPlace_63 hl (k := 5) rfl (nI_add i 1) (by decide) rfl (fun ls hl => ?_)
                refine lv_goto (tgt := 8) hx hb dX8_byPlace_66 (by decide) ?_
                exact ih_8_1 w_24 x4 (i + 1) (by omega) (by omega) _ _ (hP.sub [0] rfl) (hD.sub [0] (by decide) rfl) hS ls (lv_sub hl [2, 3, 4, 1, 5, 0] rfl)
              · skip
                have c_26 : (i % 4) = (k % 4) := (nI_eq (a := i % 4) (b := k % 4) (by omega) (by omega)).mp c_26
                refine lv_iload hx hb dX8_byPlace_54 (lv_at hl 4 rfl) ?_
                refine lv_aload_n hx hb dX8_byPlace_56 rfl (lv_at hl 3 rfl) ?_
                refine lv_iload hx hb dX8_byPlace_57 (lv_at hl 5 rfl) ?_
                refine va_iald (D := gD G) (cA := gyI G) (n := 16) (f := f) hx hb hK hP 0 0 rfl rfl (vp_in_nI (n := i) (N := 16) (by omega) (by omega)) dX8_byPlace_59 ?_
                refine lv_topi (fun w_27 ew_27 => ?_)
                refine lv_ior hx hb dX8_byPlace_60 ?_
                refine lv_topi (fun w_28 ew_28 => ?_)
                refine lv_istore (lv' := [(4, .int w_28), (3, .int w_24), (0, .int (nI k)), (1, .int v), (2, .ref ca), (5, .int (nI i))]) hx hb dX8_byPlace_61 hl (by decide) rfl (fun ls hl => ?_)
                refine lv_iinc (v := nI (i + 1)) (lv' := [(5, .int (nI (i + 1))), (4, .int w_28), (3, .int w_24), (0, .int (nI k)), (1, .int v), (2, .ref ca)]) hx hb dX8_byPlace_63 hl (k := 5) rfl (nI_add i 1) (by decide) rfl (fun ls hl => ?_)
                refine lv_goto (tgt := 8) hx hb dX8_byPlace_66 (by decide) ?_
                exact ih_8_1 w_24 w_28 (i + 1) (by omega) (by omega) _ _ (hP.sub [0] rfl) (hD.sub [0] (by decide) rfl) hS ls (lv_sub hl [3, 4, 5, 2, 1, 0] rfl)
  exact cut_8_1 (16 - 0 + 1) (nI 0) (nI 0) 0 (by omega) (Nat.lt_succ_self _) _ _ (hP.sub [0] rfl) (hD.sub [0] (by decide) rfl) hS ls (lv_sub hl [3, 4, 5, 2, 1, 0] rfl)
set_option maxHeartbeats 4000000 in
set_option maxRecDepth 100000 in
theorem c_X8_byPair (l : Launch) (G : GG) (k : Nat) (v : Int32) (ca : Nat) (f : Nat → Int32) (hk : k < 16) : Mi l G yX8_byPair cX8_byPair 8 (some .boolean) ({ frames := 1, cells := 0, slots := 0, locals := 21 } : Room) [.int (nI k), .int v, .ref ca] [(ca, .inl (gyI G, 16, .inl f))] (fun (r : Int32) (u : Nat) => r = nI u ∧ u ≤ 1) (fun (u : Nat) => [(ca, .inl (gyI G, 16, .inl f))]) := by
  intro sz
  refine Met.ofW (cc := cX8_byPair) (maxL := 8) (ret := (some .boolean)) (by decide) rfl ?_
  intro p e s m args below meth c s₁ B9 hml hv
  obtain ⟨rfl, hsz, hP, hK, hD0, hE⟩ := hv
  have hx := B9.exec
  have hb := B9.bytes
  have hr := B9.returns
  have hts : ∀ w ∈ WW, w.before ([.int (nI k), .int v, .ref ca] : List Value).toArray s = true := fun w h => atoms_spec (ws := .code yX8_byPair cX8_byPair 8 (some .boolean) :: WW) B9.pre w (List.mem_cons_of_mem _ h)
  have hown : s.vm.findClass RX8 = some m.cls := findClass_of_methodNamed B9.named
  subst hsz
  have hD := hD0.self (sz := s.heap.size)
  generalize hAe : va_A [(ca, .inl (gyI G, 16, .inl f))] s.heap.size = A at hD hE ⊢
  have hA : ∀ q : Nat, s.heap.size ≤ q → A q := fun q h => by rw [← hAe]; exact Or.inr h
  have hl := lv_entry ([.int (nI k), .int v, .ref ca]) (n := 8) (Nat.le_of_ble_eq_true rfl)
  rw [lg_entry_eq]
  generalize (lg_sl ([.int (nI k), .int v, .ref ca]) ++ List.replicate (8 - (lg_sl ([.int (nI k), .int v, .ref ca])).length) Slot.unset).toArray = ls at hl ⊢
  have hl : lv_has ls 8 [(0, .int (nI k)), (1, .int v), (2, .ref ca)] := hl
  refine qgen (fun Q hQ => ?_)
  refine hgen (fun H locs hP hD hS => ?_) hP hD
  refine lv_iconst (v := nI 0) hx hb dX8_byPair_0 (by decide) ?_
  refine lv_istore_n (lv' := [(3, .int (nI 0)), (0, .int (nI k)), (1, .int v), (2, .ref ca)]) hx hb dX8_byPair_1 rfl hl (by decide) rfl (fun ls hl => ?_)
  have cut_2_1 : ∀ (n9 : Nat) (a : Nat) (ha : a ≤ 16) (hm9 : 16 - a < n9) (H : Heap) (locs : List Loc), va_P (gD G) vwCl [(ca, .inl (gyI G, 16, .inl f))] H → va_D A [(ca, .inl (gyI G, 16, .inl f))] → va_S A s.heap H locs → ∀ (ls : Array Slot), lv_has ls 8 [(0, .int (nI k)), (1, .int v), (2, .ref ca), (3, .int (nI a))] → W p l e ({ frames := 1, cells := 0, slots := 0, locals := 21 } : Room) s m ([.int (nI k), .int v, .ref ca] : List Value).toArray below meth c H locs 0 0 Q (F0 m 2 ls []) := by
    intro n9
    induction n9 with
    | zero =>
      intro a ha hm9
      exact absurd hm9 (Nat.not_lt_zero _)
    | succ n9 ih_2_1 =>
      intro a ha hm9 H locs hP hD hS ls hl
      refine lv_iload_n hx hb dX8_byPair_2 rfl (lv_at hl 3 rfl) ?_
      refine lv_bipush (v := nI 16) hx hb dX8_byPair_3 (by decide) ?_
      refine lv_icmp_ge (tgt := 149) hx hb dX8_byPair_5 (by decide) (fun c_1 => ?_) (fun c_1 => ?_)
      · skip
        have c_1 : 16 ≤ a := (nI_leI (a := 16) (b := a) (by omega) (by omega)).mp c_1
        refine lv_iconst (v := nI 0) hx hb dX8_byPair_149 (by decide) ?_
        have hP9 := hP.sub (ws' := [(ca, .inl (gyI G, 16, .inl f))]) [0] rfl
        have hD9 := hD.sub (ws' := [(ca, .inl (gyI G, 16, .inl f))]) [0] (by decide) rfl
        subst hQ
        exact W.zret (v := nI 0) hx hb hr (by decide) (fun t ht hW => ⟨⟨nI 0, 0, rfl, ⟨rfl, (show 0 ≤ 1 by omega)⟩, by rw [ht]; exact hP9, hD9⟩, hS.F ht⟩) hS.2.2 dX8_byPair_150
      · skip
        have c_1 : ¬ 16 ≤ a := fun z => c_1 ((nI_leI (a := 16) (b := a) (by omega) (by omega)).mpr z)
        refine lv_iload_n hx hb dX8_byPair_8 rfl (lv_at hl 3 rfl) ?_
        refine lv_iconst (v := nI 1) hx hb dX8_byPair_9 (by decide) ?_
        refine lv_iadd hx hb dX8_byPair_10 ?_
        refine lv_toe (nI_add a 1) ?_
        refine lv_istore (lv' := [(4, .int (nI (a + 1))), (0, .int (nI k)), (1, .int v), (2, .ref ca), (3, .int (nI a))]) hx hb dX8_byPair_11 hl (by decide) rfl (fun ls hl => ?_)
        have cut_13_2 : ∀ (n9 : Nat) (b : Nat) (hb2 : b ≤ 16) (hm9 : 16 - b < n9) (H : Heap) (locs : List Loc), va_P (gD G) vwCl [(ca, .inl (gyI G, 16, .inl f))] H → va_D A [(ca, .inl (gyI G, 16, .inl f))] → va_S A s.heap H locs → ∀ (ls : Array Slot), lv_has ls 8 [(0, .int (nI k)), (1, .int v), (2, .ref ca), (3, .int (nI a)), (4, .int (nI b))] → W p l e ({ frames := 1, cells := 0, slots := 0, locals := 21 } : Room) s m ([.int (nI k), .int v, .ref ca] : List Value).toArray below meth c H locs 0 0 Q (F0 m 13 ls []) := by
          intro n9
          induction n9 with
          | zero =>
            intro b hb2 hm9
            exact absurd hm9 (Nat.not_lt_zero _)
          | succ n9 ih_13_2 =>
            intro b hb2 hm9 H locs hP hD hS ls hl
            refine lv_iload hx hb dX8_byPair_13 (lv_at hl 4 rfl) ?_
            refine lv_bipush (v := nI 16) hx hb dX8_byPair_15 (by decide) ?_
            refine lv_icmp_ge (tgt := 143) hx hb dX8_byPair_17 (by decide) (fun c_2 => ?_) (fun c_2 => ?_)
            · skip
              have c_2 : 16 ≤ b := (nI_leI (a := 16) (b := b) (by omega) (by omega)).mp c_2
              refine lv_iinc (v := nI (a + 1)) (lv' := [(3, .int (nI (a + 1))), (0, .int (nI k)), (1, .int v), (2, .ref ca), (4, .int (nI b))]) hx hb dX8_byPair_143 hl (k := 3) rfl (nI_add a 1) (by decide) rfl (fun ls hl => ?_)
              refine lv_goto (tgt := 2) hx hb dX8_byPair_146 (by decide) ?_
              exact ih_2_1 (a + 1) (by omega) (by omega) _ _ (hP.sub [0] rfl) (hD.sub [0] (by decide) rfl) hS ls (lv_sub hl [1, 2, 3, 0] rfl)
            · skip
              have c_2 : ¬ 16 ≤ b := fun z => c_2 ((nI_leI (a := 16) (b := b) (by omega) (by omega)).mpr z)
              have cut_44_3 : ∀ (b5 : Nat) (hb5 : b5 ≤ 1) (H : Heap) (locs : List Loc), va_P (gD G) vwCl [(ca, .inl (gyI G, 16, .inl f))] H → va_D A [(ca, .inl (gyI G, 16, .inl f))] → va_S A s.heap H locs → ∀ (ls : Array Slot), lv_has ls 8 [(0, .int (nI k)), (1, .int v), (2, .ref ca), (3, .int (nI a)), (4, .int (nI b))] → W p l e ({ frames := 1, cells := 0, slots := 0, locals := 21 } : Room) s m ([.int (nI k), .int v, .ref ca] : List Value).toArray below meth c H locs 0 0 Q (F0 m 44 ls [.int (nI b5)]) := by
                intro b5 hb5 H locs hP hD hS ls hl
                refine lv_istore (lv' := [(5, .int (nI b5)), (0, .int (nI k)), (1, .int v), (2, .ref ca), (3, .int (nI a)), (4, .int (nI b))]) hx hb dX8_byPair_44 hl (by decide) rfl (fun ls hl => ?_)
                have cut_70_4 : ∀ (b6 : Nat) (hb6 : b6 ≤ 1) (H : Heap) (locs : List Loc), va_P (gD G) vwCl [(ca, .inl (gyI G, 16, .inl f))] H → va_D A [(ca, .inl (gyI G, 16, .inl f))] → va_S A s.heap H locs → ∀ (ls : Array Slot), lv_has ls 8 [(0, .int (nI k)), (1, .int v), (2, .ref ca), (3, .int (nI a)), (4, .int (nI b)), (5, .int (nI b5))] → W p l e ({ frames := 1, cells := 0, slots := 0, locals := 21 } : Room) s m ([.int (nI k), .int v, .ref ca] : List Value).toArray below meth c H locs 0 0 Q (F0 m 70 ls [.int (nI b6)]) := by
                  intro b6 hb6 H locs hP hD hS ls hl
                  refine lv_istore (lv' := [(6, .int (nI b6)), (0, .int (nI k)), (1, .int v), (2, .ref ca), (3, .int (nI a)), (4, .int (nI b)), (5, .int (nI b5))]) hx hb dX8_byPair_70 hl (by decide) rfl (fun ls hl => ?_)
                  have cut_97_5 : ∀ (b7 : Nat) (hb7 : b7 ≤ 1) (H : Heap) (locs : List Loc), va_P (gD G) vwCl [(ca, .inl (gyI G, 16, .inl f))] H → va_D A [(ca, .inl (gyI G, 16, .inl f))] → va_S A s.heap H locs → ∀ (ls : Array Slot), lv_has ls 8 [(0, .int (nI k)), (1, .int v), (2, .ref ca), (3, .int (nI a)), (4, .int (nI b)), (5, .int (nI b5)), (6, .int (nI b6))] → W p l e ({ frames := 1, cells := 0, slots := 0, locals := 21 } : Room) s m ([.int (nI k), .int v, .ref ca] : List Value).toArray below meth c H locs 0 0 Q (F0 m 97 ls [.int (nI b7)]) := by
                    intro b7 hb7 H locs hP hD hS ls hl
                    refine lv_istore (lv' := [(7, .int (nI b7)), (0, .int (nI k)), (1, .int v), (2, .ref ca), (3, .int (nI a)), (4, .int (nI b)), (5, .int (nI b5)), (6, .int (nI b6))]) hx hb dX8_byPair_97 hl (by decide) rfl (fun ls hl => ?_)
                    refine lv_iload_n hx hb dX8_byPair_99 rfl (lv_at hl 4 rfl) ?_
                    refine lv_iload_n hx hb dX8_byPair_100 rfl (lv_at hl 1 rfl) ?_
                    refine lv_icmp_eq (tgt := 137) hx hb dX8_byPair_101 (by decide) (fun c_3 => ?_) (fun c_3 => ?_)
                    · skip
                      have c_3 : a = k := (nI_eq (a := a) (b := k) (by omega) (by omega)).mp c_3
                      refine lv_iinc (v := nI (b + 1)) (lv' := [(4, .int (nI (b + 1))), (7, .int (nI b7)), (0, .int (nI k)), (1, .int v), (2, .ref ca), (3, .int (nI a)), (5, .int (nI b5)), (6, .int (nI b6))]) hx hb dX8_byPair_137 hl (k := 5) rfl (nI_add b 1) (by decide) rfl (fun ls hl => ?_)
                      refine lv_goto (tgt := 13) hx hb dX8_byPair_140 (by decide) ?_
                      exact ih_13_2 (b + 1) (by omega) (by omega) _ _ (hP.sub [0] rfl) (hD.sub [0] (by decide) rfl) hS ls (lv_sub hl [2, 3, 4, 5, 0] rfl)
                    · skip
                      have c_3 : ¬ a = k := fun z => c_3 ((nI_eq (a := a) (b := k) (by omega) (by omega)).mpr z)
                      refine lv_iload hx hb dX8_byPair_104 (lv_at hl 5 rfl) ?_
                      refine lv_iload_n hx hb dX8_byPair_106 rfl (lv_at hl 1 rfl) ?_
                      refine lv_icmp_eq (tgt := 137) hx hb dX8_byPair_107 (by decide) (fun c_4 => ?_) (fun c_4 => ?_)
                      · skip
                        have c_4 : b = k := (nI_eq (a := b) (b := k) (by omega) (by omega)).mp c_4
                        refine lv_iinc (v := nI (b + 1)) (lv' := [(4, .int (nI (b + 1))), (7, .int (nI b7)), (0, .int (nI k)), (1, .int v), (2, .ref ca), (3, .int (nI a)), (5, .int (nI b5)), (6, .int (nI b6))]) hx hb dX8_byPair_137 hl (k := 5) rfl (nI_add b 1) (by decide) rfl (fun ls hl => ?_)
                        refine lv_goto (tgt := 13) hx hb dX8_byPair_140 (by decide) ?_
                        exact ih_13_2 (b + 1) (by omega) (by omega) _ _ (hP.sub [0] rfl) (hD.sub [0] (by decide) rfl) hS ls (lv_sub hl [2, 3, 4, 5, 0] rfl)
                      · skip
                        have c_4 : ¬ b = k := fun z => c_4 ((nI_eq (a := b) (b := k) (by omega) (by omega)).mpr z)
                        refine lv_iload hx hb dX8_byPair_110 (lv_at hl 6 rfl) ?_
                        refine lv_if_ne (tgt := 120) hx hb dX8_byPair_112 (by decide) (fun c_5 => ?_) (fun c_5 => ?_)
                        · skip
                          have c_5 : ¬ b5 = 0 := fun z => c_5 ((nI_eq (a := b5) (b := 0) (by omega) (by omega)).mpr z)
                          refine lv_iload hx hb dX8_byPair_120 (lv_at hl 0 rfl) ?_
                          refine lv_if_eq (tgt := 137) hx hb dX8_byPair_122 (by decide) (fun c_6 => ?_) (fun c_6 => ?_)
                          · skip
                            have c_6 : b7 = 0 := (nI_eq (a := b7) (b := 0) (by omega) (by omega)).mp c_6
                            refine lv_iinc (v := nI (b + 1)) (lv' := [(4, .int (nI (b + 1))), (7, .int (nI b7)), (0, .int (nI k)), (1, .int v), (2, .ref ca), (3, .int (nI a)), (5, .int (nI b5)), (6, .int (nI b6))]) hx hb dX8_byPair_137 hl (k := 5) rfl (nI_add b 1) (by decide) rfl (fun ls hl => ?_)
                            refine lv_goto (tgt := 13) hx hb dX8_byPair_140 (by decide) ?_
                            exact ih_13_2 (b + 1) (by omega) (by omega) _ _ (hP.sub [0] rfl) (hD.sub [0] (by decide) rfl) hS ls (lv_sub hl [2, 3, 4, 5, 0] rfl)
                          · skip
                            have c_6 : ¬ b7 = 0 := fun z => c_6 ((nI_eq (a := b7) (b := 0) (by omega) (by omega)).mpr z)
                            refine lv_aload_n hx hb dX8_byPair_125 rfl (lv_at hl 3 rfl) ?_
                            refine lv_iload_n hx hb dX8_byPair_126 rfl (lv_at hl 4 rfl) ?_
                            refine va_iald (D := gD G) (cA := gyI G) (n := 16) (f := f) hx hb hK hP 0 0 rfl rfl (vp_in_nI (n := a) (N := 16) (by omega) (by omega)) dX8_byPair_127 ?_
                            refine lv_topi (fun w_7 ew_7 => ?_)
                            refine lv_iload_n hx hb dX8_byPair_128 rfl (lv_at hl 2 rfl) ?_
                            refine fin_i hP hD hS hA [] [0] (wr := [(ca, .inl (gyI G, 16, .inl f))]) rfl rfl (by decide) (by decide) (va_runSN (As := [.int w_7, .int v]) (rest := []) ⟨hx, hb, hml, hown, hts⟩ (c_isIn_any l G w_7 v H.size) ⟨(va_cnB 2 hts (gI q1078) rfl rfl rfl (hE.1.1 _ nq1096) (hts _ q52) (by decide +kernel) ⟨Nat.le_of_ble_eq_true rfl, Nat.le_of_ble_eq_true rfl⟩), hts _ q1077, trivial⟩ (preS hK hE hP hD hS hA [] rfl (by decide)) rfl rfl hl.1 rfl (lv_room (Nat.le_of_ble_eq_true rfl)) dX8_byPair_129 ⟨Nat.le_of_ble_eq_true rfl, Nat.le_of_ble_eq_true rfl⟩) (fun r_9 u9 hw_8 H locs hP hD hS => ?_)
                            have hP : va_P (gD G) vwCl [(ca, .inl (gyI G, 16, .inl f))] H := hP
                            have hD : va_D A [(ca, .inl (gyI G, 16, .inl f))] := hD
                            refine lv_if_eq (tgt := 137) hx hb dX8_byPair_132 (by decide) (fun c_10 => ?_) (fun c_10 => ?_)
                            · skip
                              refine lv_iinc (v := nI (b + 1)) (lv' := [(4, .int (nI (b + 1))), (7, .int (nI b7)), (0, .int (nI k)), (1, .int v), (2, .ref ca), (3, .int (nI a)), (5, .int (nI b5)), (6, .int (nI b6))]) hx hb dX8_byPair_137 hl (k := 5) rfl (nI_add b 1) (by decide) rfl (fun ls hl => ?_)
                              refine lv_goto (tgt := 13) hx hb dX8_byPair_140 (by decide) ?_
                              exact ih_13_2 (b + 1) (by omega) (by omega) _ _ (hP.sub [0] rfl) (hD.sub [0] (by decide) rfl) hS ls (lv_sub hl [2, 3, 4, 5, 0] rfl)
                            · skip
                              refine lv_iconst (v := nI 1) hx hb dX8_byPair_135 (by decide) ?_
                              have hP9 := hP.sub (ws' := [(ca, .inl (gyI G, 16, .inl f))]) [0] rfl
                              have hD9 := hD.sub (ws' := [(ca, .inl (gyI G, 16, .inl f))]) [0] (by decide) rfl
                              subst hQ
                              exact W.zret (v := nI 1) hx hb hr (by decide) (fun t ht hW => ⟨⟨nI 1, 1, rfl, ⟨rfl, (show 1 ≤ 1 by omega)⟩, by rw [ht]; exact hP9, hD9⟩, hS.F ht⟩) hS.2.2 dX8_byPair_136
                        · skip
                          have c_5 : b5 = 0 := (nI_eq (a := b5) (b := 0) (by omega) (by omega)).mp c_5
                          refine lv_iload hx hb dX8_byPair_115 (lv_at hl 7 rfl) ?_
                          refine lv_if_eq (tgt := 137) hx hb dX8_byPair_117 (by decide) (fun c_11 => ?_) (fun c_11 => ?_)
                          · skip
                            have c_11 : b6 = 0 := (nI_eq (a := b6) (b := 0) (by omega) (by omega)).mp c_11
                            refine lv_iinc (v := nI (b + 1)) (lv' := [(4, .int (nI (b + 1))), (7, .int (nI b7)), (0, .int (nI k)), (1, .int v), (2, .ref ca), (3, .int (nI a)), (5, .int (nI b5)), (6, .int (nI b6))]) hx hb dX8_byPair_137 hl (k := 5) rfl (nI_add b 1) (by decide) rfl (fun ls hl => ?_)
                            refine lv_goto (tgt := 13) hx hb dX8_byPair_140 (by decide) ?_
                            exact ih_13_2 (b + 1) (by omega) (by omega) _ _ (hP.sub [0] rfl) (hD.sub [0] (by decide) rfl) hS ls (lv_sub hl [2, 3, 4, 5, 0] rfl)
                          · skip
                            have c_11 : ¬ b6 = 0 := fun z => c_11 ((nI_eq (a := b6) (b := 0) (by omega) (by omega)).mpr z)
                            refine lv_iload hx hb dX8_byPair_120 (lv_at hl 0 rfl) ?_
                            refine lv_if_eq (tgt := 137) hx hb dX8_byPair_122 (by decide) (fun c_12 => ?_) (fun c_12 => ?_)
                            · skip
                              have c_12 : b7 = 0 := (nI_eq (a := b7) (b := 0) (by omega) (by omega)).mp c_12
                              refine lv_iinc (v := nI (b + 1)) (lv' := [(4, .int (nI (b + 1))), (7, .int (nI b7)), (0, .int (nI k)), (1, .int v), (2, .ref ca), (3, .int (nI a)), (5, .int (nI b5)), (6, .int (nI b6))]) hx hb dX8_byPair_137 hl (k := 5) rfl (nI_add b 1) (by decide) rfl (fun ls hl => ?_)
                              refine lv_goto (tgt := 13) hx hb dX8_byPair_140 (by decide) ?_
                              exact ih_13_2 (b + 1) (by omega) (by omega) _ _ (hP.sub [0] rfl) (hD.sub [0] (by decide) rfl) hS ls (lv_sub hl [2, 3, 4, 5, 0] rfl)
                            · skip
                              have c_12 : ¬ b7 = 0 := fun z => c_12 ((nI_eq (a := b7) (b := 0) (by omega) (by omega)).mpr z)
                              refine lv_aload_n hx hb dX8_byPair_125 rfl (lv_at hl 3 rfl) ?_
                              refine lv_iload_n hx hb dX8_byPair_126 rfl (lv_at hl 4 rfl) ?_
                              refine va_iald (D := gD G) (cA := gyI G) (n := 16) (f := f) hx hb hK hP 0 0 rfl rfl (vp_in_nI (n := a) (N := 16) (by omega) (by omega)) dX8_byPair_127 ?_
                              refine lv_topi (fun w_13 ew_13 => ?_)
                              refine lv_iload_n hx hb dX8_byPair_128 rfl (lv_at hl 2 rfl) ?_
                              refine fin_i hP hD hS hA [] [0] (wr := [(ca, .inl (gyI G, 16, .inl f))]) rfl rfl (by decide) (by decide) (va_runSN (As := [.int w_13, .int v]) (rest := []) ⟨hx, hb, hml, hown, hts⟩ (c_isIn_any l G w_13 v H.size) ⟨(va_cnB 2 hts (gI q1078) rfl rfl rfl (hE.1.1 _ nq1096) (hts _ q52) (by decide +kernel) ⟨Nat.le_of_ble_eq_true rfl, Nat.le_of_ble_eq_true rfl⟩), hts _ q1077, trivial⟩ (preS hK hE hP hD hS hA [] rfl (by decide)) rfl rfl hl.1 rfl (lv_room (Nat.le_of_ble_eq_true rfl)) dX8_byPair_129 ⟨Nat.le_of_ble_eq_true rfl, Nat.le_of_ble_eq_true rfl⟩) (fun r_15 u9 hw_14 H locs hP hD hS => ?_)
                              have hP : va_P (gD G) vwCl [(ca, .inl (gyI G, 16, .inl f))] H := hP
                              have hD : va_D A [(ca, .inl (gyI G, 16, .inl f))] := hD
                              refine lv_if_eq (tgt := 137) hx hb dX8_byPair_132 (by decide) (fun c_16 => ?_) (fun c_16 => ?_)
                              · skip
                                refine lv_iinc (v := nI (b + 1)) (lv' := [(4, .int (nI (b + 1))), (7, .int (nI b7)), (0, .int (nI k)), (1, .int v), (2, .ref ca), (3, .int (nI a)), (5, .int (nI b5)), (6, .int (nI b6))]) hx hb dX8_byPair_137 hl (k := 5) rfl (nI_add b 1) (by decide) rfl (fun ls hl => ?_)
                                refine lv_goto (tgt := 13) hx hb dX8_byPair_140 (by decide) ?_
                                exact ih_13_2 (b + 1) (by omega) (by omega) _ _ (hP.sub [0] rfl) (hD.sub [0] (by decide) rfl) hS ls (lv_sub hl [2, 3, 4, 5, 0] rfl)
                              · skip
                                refine lv_iconst (v := nI 1) hx hb dX8_byPair_135 (by decide) ?_
                                have hP9 := hP.sub (ws' := [(ca, .inl (gyI G, 16, .inl f))]) [0] rfl
                                have hD9 := hD.sub (ws' := [(ca, .inl (gyI G, 16, .inl f))]) [0] (by decide) rfl
                                subst hQ
                                exact W.zret (v := nI 1) hx hb hr (by decide) (fun t ht hW => ⟨⟨nI 1, 1, rfl, ⟨rfl, (show 1 ≤ 1 by omega)⟩, by rw [ht]; exact hP9, hD9⟩, hS.F ht⟩) hS.2.2 dX8_byPair_136
                  refine lv_aload_n hx hb dX8_byPair_72 rfl (lv_at hl 3 rfl) ?_
                  refine lv_iload_n hx hb dX8_byPair_73 rfl (lv_at hl 4 rfl) ?_
                  refine va_iald (D := gD G) (cA := gyI G) (n := 16) (f := f) hx hb hK hP 0 0 rfl rfl (vp_in_nI (n := a) (N := 16) (by omega) (by omega)) dX8_byPair_74 ?_
                  refine lv_topi (fun w_17 ew_17 => ?_)
                  refine lv_aload_n hx hb dX8_byPair_75 rfl (lv_at hl 3 rfl) ?_
                  refine lv_iload hx hb dX8_byPair_76 (lv_at hl 5 rfl) ?_
                  refine va_iald (D := gD G) (cA := gyI G) (n := 16) (f := f) hx hb hK hP 0 0 rfl rfl (vp_in_nI (n := b) (N := 16) (by omega) (by omega)) dX8_byPair_78 ?_
                  refine lv_topi (fun w_18 ew_18 => ?_)
                  refine lv_icmp_ne (tgt := 96) hx hb dX8_byPair_79 (by decide) (fun c_19 => ?_) (fun c_19 => ?_)
                  · skip
                    refine lv_iconst (v := nI 0) hx hb dX8_byPair_96 (by decide) ?_
                    exact cut_97_5 0 (by omega)  _ _ (hP.sub [0] rfl) (hD.sub [0] (by decide) rfl) hS ls (lv_sub hl [1, 2, 3, 4, 5, 6, 0] rfl)
                  · skip
                    refine lv_aload_n hx hb dX8_byPair_82 rfl (lv_at hl 3 rfl) ?_
                    refine lv_iload_n hx hb dX8_byPair_83 rfl (lv_at hl 4 rfl) ?_
                    refine va_iald (D := gD G) (cA := gyI G) (n := 16) (f := f) hx hb hK hP 0 0 rfl rfl (vp_in_nI (n := a) (N := 16) (by omega) (by omega)) dX8_byPair_84 ?_
                    refine lv_topi (fun w_20 ew_20 => ?_)
                    refine fin_i hP hD hS hA [] [0] (wr := [(ca, .inl (gyI G, 16, .inl f))]) rfl rfl (by decide) (by decide) (va_runS (As := [.int w_20]) (rest := []) ⟨hx, hb, hml, hown, hts⟩ (c_J6_bitCount_0f7a4 l G w_20 H.size) (va_cwS 1 hts (gSt q1095 q277 q70 q278) rfl rfl rfl (by decide +kernel) ⟨Nat.le_of_ble_eq_true rfl, Nat.le_of_ble_eq_true rfl⟩) (preS hK hE hP hD hS hA [] rfl (by decide)) rfl rfl hl.1 rfl (lv_room (Nat.le_of_ble_eq_true rfl)) dX8_byPair_85 ⟨Nat.le_of_ble_eq_true rfl, Nat.le_of_ble_eq_true rfl⟩) (fun r_22 u9 hw_21 H locs hP hD hS => ?_)
                    have hP : va_P (gD G) vwCl [(ca, .inl (gyI G, 16, .inl f))] H := hP
                    have hD : va_D A [(ca, .inl (gyI G, 16, .inl f))] := hD
                    refine lv_iconst (v := nI 2) hx hb dX8_byPair_88 (by decide) ?_
                    refine lv_icmp_ne (tgt := 96) hx hb dX8_byPair_89 (by decide) (fun c_23 => ?_) (fun c_23 => ?_)
                    · skip
                      refine lv_iconst (v := nI 0) hx hb dX8_byPair_96 (by decide) ?_
                      exact cut_97_5 0 (by omega)  _ _ (hP.sub [0] rfl) (hD.sub [0] (by decide) rfl) hS ls (lv_sub hl [1, 2, 3, 4, 5, 6, 0] rfl)
                    · skip
                      refine lv_iconst (v := nI 1) hx hb dX8_byPair_92 (by decide) ?_
                      refine lv_goto (tgt := 97) hx hb dX8_byPair_93 (by decide) ?_
                      exact cut_97_5 1 (by omega)  _ _ (hP.sub [0] rfl) (hD.sub [0] (by decide) rfl) hS ls (lv_sub hl [1, 2, 3, 4, 5, 6, 0] rfl)
                refine lv_iload_n hx hb dX8_byPair_46 rfl (lv_at hl 4 rfl) ?_
                refine lv_iconst (v := nI 4) hx hb dX8_byPair_47 (by decide) ?_
                refine lv_irem hx hb dX8_byPair_48 (nI_ne0 (by omega) (by omega)) ?_
                refine lv_toe (pk_rem (a := a) (d := 4) (by omega) (by omega) (by omega)) ?_
                refine lv_iload_n hx hb dX8_byPair_49 rfl (lv_at hl 1 rfl) ?_
                refine lv_iconst (v := nI 4) hx hb dX8_byPair_50 (by decide) ?_
                refine lv_irem hx hb dX8_byPair_51 (nI_ne0 (by omega) (by omega)) ?_
                refine lv_toe (pk_rem (a := k) (d := 4) (by omega) (by omega) (by omega)) ?_
                refine lv_icmp_ne (tgt := 69) hx hb dX8_byPair_52 (by decide) (fun c_24 => ?_) (fun c_24 => ?_)
                · skip
                  have c_24 : ¬ (a % 4) = (k % 4) := fun z => c_24 ((nI_eq (a := a % 4) (b := k % 4) (by omega) (by omega)).mpr z)
                  refine lv_iconst (v := nI 0) hx hb dX8_byPair_69 (by decide) ?_
                  exact cut_70_4 0 (by omega)  _ _ (hP.sub [0] rfl) (hD.sub [0] (by decide) rfl) hS ls (lv_sub hl [1, 2, 3, 4, 5, 0] rfl)
                · skip
                  have c_24 : (a % 4) = (k % 4) := (nI_eq (a := a % 4) (b := k % 4) (by omega) (by omega)).mp c_24
                  refine lv_iload hx hb dX8_byPair_55 (lv_at hl 5 rfl) ?_
                  refine lv_iconst (v := nI 4) hx hb dX8_byPair_57 (by decide) ?_
                  refine lv_irem hx hb dX8_byPair_58 (nI_ne0 (by omega) (by omega)) ?_
                  refine lv_toe (pk_rem (a := b) (d := 4) (by omega) (by omega) (by omega)) ?_
                  refine lv_iload_n hx hb dX8_byPair_59 rfl (lv_at hl 1 rfl) ?_
                  refine lv_iconst (v := nI 4) hx hb dX8_byPair_60 (by decide) ?_
                  refine lv_irem hx hb dX8_byPair_61 (nI_ne0 (by omega) (by omega)) ?_
                  refine lv_toe (pk_rem (a := k) (d := 4) (by omega) (by omega) (by omega)) ?_
                  refine lv_icmp_ne (tgt := 69) hx hb dX8_byPair_62 (by decide) (fun c_25 => ?_) (fun c_25 => ?_)
                  · skip
                    have c_25 : ¬ (b % 4) = (k % 4) := fun z => c_25 ((nI_eq (a := b % 4) (b := k % 4) (by omega) (by omega)).mpr z)
                    refine lv_iconst (v := nI 0) hx hb dX8_byPair_69 (by decide) ?_
                    exact cut_70_4 0 (by omega)  _ _ (hP.sub [0] rfl) (hD.sub [0] (by decide) rfl) hS ls (lv_sub hl [1, 2, 3, 4, 5, 0] rfl)
                  · skip
                    have c_25 : (b % 4) = (k % 4) := (nI_eq (a := b % 4) (b := k % 4) (by omega) (by omega)).mp c_25
                    refine lv_iconst (v := nI 1) hx hb dX8_byPair_65 (by decide) ?_
                    refine lv_goto (tgt := 70) hx hb dX8_byPair_66 (by decide) ?_
                    exact cut_70_4 1 (by omega)  _ _ (hP.sub [0] rfl) (hD.sub [0] (by decide) rfl) hS ls (lv_sub hl [1, 2, 3, 4, 5, 0] rfl)
              refine lv_iload_n hx hb dX8_byPair_20 rfl (lv_at hl 3 rfl) ?_
              refine lv_iconst (v := nI 4) hx hb dX8_byPair_21 (by decide) ?_
              refine lv_idiv hx hb dX8_byPair_22 (nI_ne0 (by omega) (by omega)) ?_
              refine lv_toe (pk_div (a := a) (d := 4) (by omega) (by omega) (by omega)) ?_
              refine lv_iload_n hx hb dX8_byPair_23 rfl (lv_at hl 0 rfl) ?_
              refine lv_iconst (v := nI 4) hx hb dX8_byPair_24 (by decide) ?_
              refine lv_idiv hx hb dX8_byPair_25 (nI_ne0 (by omega) (by omega)) ?_
              refine lv_toe (pk_div (a := k) (d := 4) (by omega) (by omega) (by omega)) ?_
              refine lv_icmp_ne (tgt := 43) hx hb dX8_byPair_26 (by decide) (fun c_26 => ?_) (fun c_26 => ?_)
              · skip
                have c_26 : ¬ (a / 4) = (k / 4) := fun z => c_26 ((nI_eq (a := a / 4) (b := k / 4) (by omega) (by omega)).mpr z)
                refine lv_iconst (v := nI 0) hx hb dX8_byPair_43 (by decide) ?_
                exact cut_44_3 0 (by omega)  _ _ (hP.sub [0] rfl) (hD.sub [0] (by decide) rfl) hS ls (lv_sub hl [0, 1, 2, 3, 4] rfl)
              · skip
                have c_26 : (a / 4) = (k / 4) := (nI_eq (a := a / 4) (b := k / 4) (by omega) (by omega)).mp c_26
                refine lv_iload hx hb dX8_byPair_29 (lv_at hl 4 rfl) ?_
                refine lv_iconst (v := nI 4) hx hb dX8_byPair_31 (by decide) ?_
                refine lv_idiv hx hb dX8_byPair_32 (nI_ne0 (by omega) (by omega)) ?_
                refine lv_toe (pk_div (a := b) (d := 4) (by omega) (by omega) (by omega)) ?_
                refine lv_iload_n hx hb dX8_byPair_33 rfl (lv_at hl 0 rfl) ?_
                refine lv_iconst (v := nI 4) hx hb dX8_byPair_34 (by decide) ?_
                refine lv_idiv hx hb dX8_byPair_35 (nI_ne0 (by omega) (by omega)) ?_
                refine lv_toe (pk_div (a := k) (d := 4) (by omega) (by omega) (by omega)) ?_
                refine lv_icmp_ne (tgt := 43) hx hb dX8_byPair_36 (by decide) (fun c_27 => ?_) (fun c_27 => ?_)
                · skip
                  have c_27 : ¬ (b / 4) = (k / 4) := fun z => c_27 ((nI_eq (a := b / 4) (b := k / 4) (by omega) (by omega)).mpr z)
                  refine lv_iconst (v := nI 0) hx hb dX8_byPair_43 (by decide) ?_
                  exact cut_44_3 0 (by omega)  _ _ (hP.sub [0] rfl) (hD.sub [0] (by decide) rfl) hS ls (lv_sub hl [0, 1, 2, 3, 4] rfl)
                · skip
                  have c_27 : (b / 4) = (k / 4) := (nI_eq (a := b / 4) (b := k / 4) (by omega) (by omega)).mp c_27
                  refine lv_iconst (v := nI 1) hx hb dX8_byPair_39 (by decide) ?_
                  refine lv_goto (tgt := 44) hx hb dX8_byPair_40 (by decide) ?_
                  exact cut_44_3 1 (by omega)  _ _ (hP.sub [0] rfl) (hD.sub [0] (by decide) rfl) hS ls (lv_sub hl [0, 1, 2, 3, 4] rfl)
        exact cut_13_2 (16 - (a + 1) + 1) (a + 1) (by omega) (Nat.lt_succ_self _) _ _ (hP.sub [0] rfl) (hD.sub [0] (by decide) rfl) hS ls (lv_sub hl [1, 2, 3, 4, 0] rfl)
  exact cut_2_1 (16 - 0 + 1) 0 (by omega) (Nat.lt_succ_self _) _ _ (hP.sub [0] rfl) (hD.sub [0] (by decide) rfl) hS ls (lv_sub hl [1, 2, 3, 0] rfl)
set_option maxHeartbeats 4000000 in
set_option maxRecDepth 100000 in
theorem c_X8_isTaken (l : Launch) (G : GG) (pz : Nat) (gr : Nat) (mr : Nat) (cg : Nat) (gv : Nat → Int32) (rl : Nat) (k : Nat) (v : Int32) (ca : Nat) (f : Nat → Int32) (hrl : rl < 4) (hk : k < 16) : Mi l G yX8_isTaken cX8_isTaken 5 (some .boolean) ({ frames := 2, cells := 0, slots := 0, locals := 48 } : Room) [.ref pz, .int (nI rl), .int (nI k), .int v, .ref ca] [(pz, .inr (13, [.ref gr, .ref mr, .ref cg])), (gr, .inl (gyI G, 16, .inl gv)), (ca, .inl (gyI G, 16, .inl f))] (fun (r : Int32) (u : Nat) => r = nI u ∧ u ≤ 1) (fun (u : Nat) => [(pz, .inr (13, [.ref gr, .ref mr, .ref cg])), (gr, .inl (gyI G, 16, .inl gv)), (ca, .inl (gyI G, 16, .inl f))]) := by
  intro sz
  refine Met.ofW (cc := cX8_isTaken) (maxL := 5) (ret := (some .boolean)) (by decide) rfl ?_
  intro p e s m args below meth c s₁ B9 hml hv
  obtain ⟨rfl, hsz, hP, hK, hD0, hE⟩ := hv
  have hx := B9.exec
  have hb := B9.bytes
  have hr := B9.returns
  have hts : ∀ w ∈ WW, w.before ([.ref pz, .int (nI rl), .int (nI k), .int v, .ref ca] : List Value).toArray s = true := fun w h => atoms_spec (ws := .code yX8_isTaken cX8_isTaken 5 (some .boolean) :: WW) B9.pre w (List.mem_cons_of_mem _ h)
  have hown : s.vm.findClass RX8 = some m.cls := findClass_of_methodNamed B9.named
  subst hsz
  have hD := hD0.self (sz := s.heap.size)
  generalize hAe : va_A [(pz, .inr (13, [.ref gr, .ref mr, .ref cg])), (gr, .inl (gyI G, 16, .inl gv)), (ca, .inl (gyI G, 16, .inl f))] s.heap.size = A at hD hE ⊢
  have hA : ∀ q : Nat, s.heap.size ≤ q → A q := fun q h => by rw [← hAe]; exact Or.inr h
  have hl := lv_entry ([.ref pz, .int (nI rl), .int (nI k), .int v, .ref ca]) (n := 5) (Nat.le_of_ble_eq_true rfl)
  rw [lg_entry_eq]
  generalize (lg_sl ([.ref pz, .int (nI rl), .int (nI k), .int v, .ref ca]) ++ List.replicate (5 - (lg_sl ([.ref pz, .int (nI rl), .int (nI k), .int v, .ref ca])).length) Slot.unset).toArray = ls at hl ⊢
  have hl : lv_has ls 5 [(0, .ref pz), (1, .int (nI rl)), (2, .int (nI k)), (3, .int v), (4, .ref ca)] := hl
  refine qgen (fun Q hQ => ?_)
  refine hgen (fun H locs hP hD hS => ?_) hP hD
  refine lv_iload_n hx hb dX8_isTaken_0 rfl (lv_at hl 1 rfl) ?_
  rcases (show rl = 0 ∨ rl = 1 ∨ rl = 2 ∨ rl = 3 by omega) with rfl | rfl | rfl | rfl
  · skip
    refine lv_tableIn (off := 31) (tgt := 32) hx hb dX8_isTaken_1 (by decide) (by decide) (by decide) (by decide) ?_
    refine lv_aload_n hx hb dX8_isTaken_32 rfl (lv_at hl 0 rfl) ?_
    refine va_get (D := gD G) (ci := 13) (v := .ref gr) (C := RX8) (T := TX8) (N := 3) hx hb hts fwX8 hown hK hP 0 rfl rfl 0 (by decide) (hts _ q974) (fun _ h9 => h9) rfl dX8_isTaken_33 ?_
    refine lv_iload_n hx hb dX8_isTaken_36 rfl (lv_at hl 2 rfl) ?_
    refine va_iald (D := gD G) (cA := gyI G) (n := 16) (f := gv) hx hb hK hP 1 0 rfl rfl (vp_in_nI (n := k) (N := 16) (by omega) (by omega)) dX8_isTaken_37 ?_
    refine lv_topi (fun w_1 ew_1 => ?_)
    refine lv_if_le (tgt := 55) hx hb dX8_isTaken_38 (by decide) (fun c_2 => ?_) (fun c_2 => ?_)
    · skip
      refine lv_iconst (v := nI 0) hx hb dX8_isTaken_55 (by decide) ?_
      have hP9 := hP.sub (ws' := [(pz, .inr (13, [.ref gr, .ref mr, .ref cg])), (gr, .inl (gyI G, 16, .inl gv)), (ca, .inl (gyI G, 16, .inl f))]) [0, 1, 2] rfl
      have hD9 := hD.sub (ws' := [(pz, .inr (13, [.ref gr, .ref mr, .ref cg])), (gr, .inl (gyI G, 16, .inl gv)), (ca, .inl (gyI G, 16, .inl f))]) [0, 1, 2] (by decide) rfl
      subst hQ
      exact W.zret (v := nI 0) hx hb hr (by decide) (fun t ht hW => ⟨⟨nI 0, 0, rfl, ⟨rfl, (show 0 ≤ 1 by omega)⟩, by rw [ht]; exact hP9, hD9⟩, hS.F ht⟩) hS.2.2 dX8_isTaken_56
    · skip
      refine lv_aload_n hx hb dX8_isTaken_41 rfl (lv_at hl 0 rfl) ?_
      refine va_get (D := gD G) (ci := 13) (v := .ref gr) (C := RX8) (T := TX8) (N := 3) hx hb hts fwX8 hown hK hP 0 rfl rfl 0 (by decide) (hts _ q974) (fun _ h9 => h9) rfl dX8_isTaken_42 ?_
      refine lv_iload_n hx hb dX8_isTaken_45 rfl (lv_at hl 2 rfl) ?_
      refine va_iald (D := gD G) (cA := gyI G) (n := 16) (f := gv) hx hb hK hP 1 0 rfl rfl (vp_in_nI (n := k) (N := 16) (by omega) (by omega)) dX8_isTaken_46 ?_
      refine lv_topi (fun w_3 ew_3 => ?_)
      refine lv_iload_n hx hb dX8_isTaken_47 rfl (lv_at hl 3 rfl) ?_
      refine lv_icmp_eq (tgt := 55) hx hb dX8_isTaken_48 (by decide) (fun c_4 => ?_) (fun c_4 => ?_)
      · skip
        refine lv_iconst (v := nI 0) hx hb dX8_isTaken_55 (by decide) ?_
        have hP9 := hP.sub (ws' := [(pz, .inr (13, [.ref gr, .ref mr, .ref cg])), (gr, .inl (gyI G, 16, .inl gv)), (ca, .inl (gyI G, 16, .inl f))]) [0, 1, 2] rfl
        have hD9 := hD.sub (ws' := [(pz, .inr (13, [.ref gr, .ref mr, .ref cg])), (gr, .inl (gyI G, 16, .inl gv)), (ca, .inl (gyI G, 16, .inl f))]) [0, 1, 2] (by decide) rfl
        subst hQ
        exact W.zret (v := nI 0) hx hb hr (by decide) (fun t ht hW => ⟨⟨nI 0, 0, rfl, ⟨rfl, (show 0 ≤ 1 by omega)⟩, by rw [ht]; exact hP9, hD9⟩, hS.F ht⟩) hS.2.2 dX8_isTaken_56
      · skip
        refine lv_iconst (v := nI 1) hx hb dX8_isTaken_51 (by decide) ?_
        refine lv_goto (tgt := 56) hx hb dX8_isTaken_52 (by decide) ?_
        have hP9 := hP.sub (ws' := [(pz, .inr (13, [.ref gr, .ref mr, .ref cg])), (gr, .inl (gyI G, 16, .inl gv)), (ca, .inl (gyI G, 16, .inl f))]) [0, 1, 2] rfl
        have hD9 := hD.sub (ws' := [(pz, .inr (13, [.ref gr, .ref mr, .ref cg])), (gr, .inl (gyI G, 16, .inl gv)), (ca, .inl (gyI G, 16, .inl f))]) [0, 1, 2] (by decide) rfl
        subst hQ
        exact W.zret (v := nI 1) hx hb hr (by decide) (fun t ht hW => ⟨⟨nI 1, 1, rfl, ⟨rfl, (show 1 ≤ 1 by omega)⟩, by rw [ht]; exact hP9, hD9⟩, hS.F ht⟩) hS.2.2 dX8_isTaken_56
  · skip
    refine lv_tableIn (off := 56) (tgt := 57) hx hb dX8_isTaken_1 (by decide) (by decide) (by decide) (by decide) ?_
    refine lv_iload_n hx hb dX8_isTaken_57 rfl (lv_at hl 2 rfl) ?_
    refine lv_iload_n hx hb dX8_isTaken_58 rfl (lv_at hl 3 rfl) ?_
    refine lv_aload hx hb dX8_isTaken_59 (lv_at hl 4 rfl) ?_
    refine fin_i hP hD hS hA [2] [0, 1] (wr := [(pz, .inr (13, [.ref gr, .ref mr, .ref cg])), (gr, .inl (gyI G, 16, .inl gv))]) rfl rfl (by decide) (by decide) (va_runS (As := [.int (nI k), .int v, .ref ca]) (rest := []) ⟨hx, hb, hml, hown, hts⟩ (c_X8_byOnly l G k v ca f (by omega) H.size) (va_cwS 3 hts (gSt q1083 q1084 q62 q1085) rfl rfl rfl (by decide +kernel) ⟨Nat.le_of_ble_eq_true rfl, Nat.le_of_ble_eq_true rfl⟩) (preS hK hE hP hD hS hA [2] rfl (by decide)) rfl rfl hl.1 rfl (lv_room (Nat.le_of_ble_eq_true rfl)) dX8_isTaken_61 ⟨Nat.le_of_ble_eq_true rfl, Nat.le_of_ble_eq_true rfl⟩) (fun r_7 u9 hw_6 H locs hP hD hS => ?_)
    obtain ⟨bn_5, rfl⟩ : ∃ z, z = u9 := ⟨_, rfl⟩
    obtain ⟨rfl, hbn_8⟩ := hw_6
    have hbn_8 : bn_5 ≤ 1 := hbn_8
    have hP : va_P (gD G) vwCl [(pz, .inr (13, [.ref gr, .ref mr, .ref cg])), (gr, .inl (gyI G, 16, .inl gv)), (ca, .inl (gyI G, 16, .inl f))] H := hP
    have hD : va_D A [(pz, .inr (13, [.ref gr, .ref mr, .ref cg])), (gr, .inl (gyI G, 16, .inl gv)), (ca, .inl (gyI G, 16, .inl f))] := hD
    have hP9 := hP.sub (ws' := [(pz, .inr (13, [.ref gr, .ref mr, .ref cg])), (gr, .inl (gyI G, 16, .inl gv)), (ca, .inl (gyI G, 16, .inl f))]) [0, 1, 2] rfl
    have hD9 := hD.sub (ws' := [(pz, .inr (13, [.ref gr, .ref mr, .ref cg])), (gr, .inl (gyI G, 16, .inl gv)), (ca, .inl (gyI G, 16, .inl f))]) [0, 1, 2] (by decide) rfl
    subst hQ
    exact W.zret (v := nI bn_5) hx hb hr (nar_b (by omega)) (fun t ht hW => ⟨⟨nI bn_5, bn_5, rfl, ⟨rfl, (show bn_5 ≤ 1 by omega)⟩, by rw [ht]; exact hP9, hD9⟩, hS.F ht⟩) hS.2.2 dX8_isTaken_64
  · skip
    refine lv_tableIn (off := 64) (tgt := 65) hx hb dX8_isTaken_1 (by decide) (by decide) (by decide) (by decide) ?_
    refine lv_iload_n hx hb dX8_isTaken_65 rfl (lv_at hl 2 rfl) ?_
    refine lv_iload_n hx hb dX8_isTaken_66 rfl (lv_at hl 3 rfl) ?_
    refine lv_aload hx hb dX8_isTaken_67 (lv_at hl 4 rfl) ?_
    refine fin_i hP hD hS hA [2] [0, 1] (wr := [(pz, .inr (13, [.ref gr, .ref mr, .ref cg])), (gr, .inl (gyI G, 16, .inl gv))]) rfl rfl (by decide) (by decide) (va_runS (As := [.int (nI k), .int v, .ref ca]) (rest := []) ⟨hx, hb, hml, hown, hts⟩ (c_X8_byPlace l G k v ca f (by omega) H.size) (va_cwS 3 hts (gSt q1089 q1090 q62 q1091) rfl rfl rfl (by decide +kernel) ⟨Nat.le_of_ble_eq_true rfl, Nat.le_of_ble_eq_true rfl⟩) (preS hK hE hP hD hS hA [2] rfl (by decide)) rfl rfl hl.1 rfl (lv_room (Nat.le_of_ble_eq_true rfl)) dX8_isTaken_69 ⟨Nat.le_of_ble_eq_true rfl, Nat.le_of_ble_eq_true rfl⟩) (fun r_11 u9 hw_10 H locs hP hD hS => ?_)
    obtain ⟨bn_9, rfl⟩ : ∃ z, z = u9 := ⟨_, rfl⟩
    obtain ⟨rfl, hbn_12⟩ := hw_10
    have hbn_12 : bn_9 ≤ 1 := hbn_12
    have hP : va_P (gD G) vwCl [(pz, .inr (13, [.ref gr, .ref mr, .ref cg])), (gr, .inl (gyI G, 16, .inl gv)), (ca, .inl (gyI G, 16, .inl f))] H := hP
    have hD : va_D A [(pz, .inr (13, [.ref gr, .ref mr, .ref cg])), (gr, .inl (gyI G, 16, .inl gv)), (ca, .inl (gyI G, 16, .inl f))] := hD
    have hP9 := hP.sub (ws' := [(pz, .inr (13, [.ref gr, .ref mr, .ref cg])), (gr, .inl (gyI G, 16, .inl gv)), (ca, .inl (gyI G, 16, .inl f))]) [0, 1, 2] rfl
    have hD9 := hD.sub (ws' := [(pz, .inr (13, [.ref gr, .ref mr, .ref cg])), (gr, .inl (gyI G, 16, .inl gv)), (ca, .inl (gyI G, 16, .inl f))]) [0, 1, 2] (by decide) rfl
    subst hQ
    exact W.zret (v := nI bn_9) hx hb hr (nar_b (by omega)) (fun t ht hW => ⟨⟨nI bn_9, bn_9, rfl, ⟨rfl, (show bn_9 ≤ 1 by omega)⟩, by rw [ht]; exact hP9, hD9⟩, hS.F ht⟩) hS.2.2 dX8_isTaken_72
  · skip
    refine lv_tableIn (off := 72) (tgt := 73) hx hb dX8_isTaken_1 (by decide) (by decide) (by decide) (by decide) ?_
    refine lv_iload_n hx hb dX8_isTaken_73 rfl (lv_at hl 2 rfl) ?_
    refine lv_iload_n hx hb dX8_isTaken_74 rfl (lv_at hl 3 rfl) ?_
    refine lv_aload hx hb dX8_isTaken_75 (lv_at hl 4 rfl) ?_
    refine fin_i hP hD hS hA [2] [0, 1] (wr := [(pz, .inr (13, [.ref gr, .ref mr, .ref cg])), (gr, .inl (gyI G, 16, .inl gv))]) rfl rfl (by decide) (by decide) (va_runS (As := [.int (nI k), .int v, .ref ca]) (rest := []) ⟨hx, hb, hml, hown, hts⟩ (c_X8_byPair l G k v ca f (by omega) H.size) (va_cwS 3 hts (gSt q1092 q1093 q62 q1094) rfl rfl rfl (by decide +kernel) ⟨Nat.le_of_ble_eq_true rfl, Nat.le_of_ble_eq_true rfl⟩) (preS hK hE hP hD hS hA [2] rfl (by decide)) rfl rfl hl.1 rfl (lv_room (Nat.le_of_ble_eq_true rfl)) dX8_isTaken_77 ⟨Nat.le_of_ble_eq_true rfl, Nat.le_of_ble_eq_true rfl⟩) (fun r_15 u9 hw_14 H locs hP hD hS => ?_)
    obtain ⟨bn_13, rfl⟩ : ∃ z, z = u9 := ⟨_, rfl⟩
    obtain ⟨rfl, hbn_16⟩ := hw_14
    have hbn_16 : bn_13 ≤ 1 := hbn_16
    have hP : va_P (gD G) vwCl [(pz, .inr (13, [.ref gr, .ref mr, .ref cg])), (gr, .inl (gyI G, 16, .inl gv)), (ca, .inl (gyI G, 16, .inl f))] H := hP
    have hD : va_D A [(pz, .inr (13, [.ref gr, .ref mr, .ref cg])), (gr, .inl (gyI G, 16, .inl gv)), (ca, .inl (gyI G, 16, .inl f))] := hD
    have hP9 := hP.sub (ws' := [(pz, .inr (13, [.ref gr, .ref mr, .ref cg])), (gr, .inl (gyI G, 16, .inl gv)), (ca, .inl (gyI G, 16, .inl f))]) [0, 1, 2] rfl
    have hD9 := hD.sub (ws' := [(pz, .inr (13, [.ref gr, .ref mr, .ref cg])), (gr, .inl (gyI G, 16, .inl gv)), (ca, .inl (gyI G, 16, .inl f))]) [0, 1, 2] (by decide) rfl
    subst hQ
    exact W.zret (v := nI bn_13) hx hb hr (nar_b (by omega)) (fun t ht hW => ⟨⟨nI bn_13, bn_13, rfl, ⟨rfl, (show bn_13 ≤ 1 by omega)⟩, by rw [ht]; exact hP9, hD9⟩, hS.F ht⟩) hS.2.2 dX8_isTaken_80
set_option maxHeartbeats 4000000 in
set_option maxRecDepth 100000 in
theorem c_X9_next (l : Launch) (G : GG) (wy : Nat) (ca : Nat) (sl : Nat) (gl : Nat) (f : Nat → Int32) (pz : Nat) (gr : Nat) (mr : Nat) (cg : Nat) (gv : Nat → Int32) (hi : Nat) (hf : inB 16 16 f) (hhi : hi < 4) : Mi l G yX9_next cX9_next 6 (some .int) ({ frames := 3, cells := 0, slots := 0, locals := 72 } : Room) [.ref wy, .ref pz, .int (nI hi)] [(wy, .inr (14, [.ref ca, .ref sl, .ref gl])), (ca, .inl (gyI G, 16, .inl f)), (pz, .inr (13, [.ref gr, .ref mr, .ref cg])), (gr, .inl (gyI G, 16, .inl gv))] (fun (r : Int32) (u : Nat × Nat × Nat × Nat) => r = -1 ∨ (r = nI (100 * u.1 + 5 * u.2.1 + u.2.2.1) ∧ u.1 < 4 ∧ u.2.1 < 16 ∧ 1 ≤ u.2.2.1 ∧ u.2.2.1 ≤ 4 ∧ u.2.2.2 < 16 ∧ f u.2.1 = nI u.2.2.2 ∧ u.2.2.2 / pw u.2.2.1 % 2 = 1)) (fun (u : Nat × Nat × Nat × Nat) => [(wy, .inr (14, [.ref ca, .ref sl, .ref gl])), (ca, .inl (gyI G, 16, .inl f)), (pz, .inr (13, [.ref gr, .ref mr, .ref cg])), (gr, .inl (gyI G, 16, .inl gv))]) := by
  intro sz
  refine Met.ofW (cc := cX9_next) (maxL := 6) (ret := (some .int)) (by decide) rfl ?_
  intro p e s m args below meth c s₁ B9 hml hv
  obtain ⟨rfl, hsz, hP, hK, hD0, hE⟩ := hv
  have hx := B9.exec
  have hb := B9.bytes
  have hr := B9.returns
  have hts : ∀ w ∈ WW, w.before ([.ref wy, .ref pz, .int (nI hi)] : List Value).toArray s = true := fun w h => atoms_spec (ws := .code yX9_next cX9_next 6 (some .int) :: WW) B9.pre w (List.mem_cons_of_mem _ h)
  have hown : s.vm.findClass RX9 = some m.cls := findClass_of_methodNamed B9.named
  subst hsz
  have hD := hD0.self (sz := s.heap.size)
  generalize hAe : va_A [(wy, .inr (14, [.ref ca, .ref sl, .ref gl])), (ca, .inl (gyI G, 16, .inl f)), (pz, .inr (13, [.ref gr, .ref mr, .ref cg])), (gr, .inl (gyI G, 16, .inl gv))] s.heap.size = A at hD hE ⊢
  have hA : ∀ q : Nat, s.heap.size ≤ q → A q := fun q h => by rw [← hAe]; exact Or.inr h
  have hl := lv_entry ([.ref wy, .ref pz, .int (nI hi)]) (n := 6) (Nat.le_of_ble_eq_true rfl)
  rw [lg_entry_eq]
  generalize (lg_sl ([.ref wy, .ref pz, .int (nI hi)]) ++ List.replicate (6 - (lg_sl ([.ref wy, .ref pz, .int (nI hi)])).length) Slot.unset).toArray = ls at hl ⊢
  have hl : lv_has ls 6 [(0, .ref wy), (1, .ref pz), (2, .int (nI hi))] := hl
  refine qgen (fun Q hQ => ?_)
  refine hgen (fun H locs hP hD hS => ?_) hP hD
  refine lv_iconst (v := nI 0) hx hb dX9_next_0 (by decide) ?_
  refine lv_istore_n (lv' := [(3, .int (nI 0)), (0, .ref wy), (1, .ref pz), (2, .int (nI hi))]) hx hb dX9_next_1 rfl hl (by decide) rfl (fun ls hl => ?_)
  have cut_2_1 : ∀ (n9 : Nat) (rl : Nat) (hrl : rl ≤ hi + 1) (hm9 : hi + 1 - rl < n9) (H : Heap) (locs : List Loc), va_P (gD G) vwCl [(wy, .inr (14, [.ref ca, .ref sl, .ref gl])), (ca, .inl (gyI G, 16, .inl f)), (pz, .inr (13, [.ref gr, .ref mr, .ref cg])), (gr, .inl (gyI G, 16, .inl gv))] H → va_D A [(wy, .inr (14, [.ref ca, .ref sl, .ref gl])), (ca, .inl (gyI G, 16, .inl f)), (pz, .inr (13, [.ref gr, .ref mr, .ref cg])), (gr, .inl (gyI G, 16, .inl gv))] → va_S A s.heap H locs → ∀ (ls : Array Slot), lv_has ls 6 [(0, .ref wy), (1, .ref pz), (2, .int (nI hi)), (3, .int (nI rl))] → W p l e ({ frames := 3, cells := 0, slots := 0, locals := 72 } : Room) s m ([.ref wy, .ref pz, .int (nI hi)] : List Value).toArray below meth c H locs 0 0 Q (F0 m 2 ls []) := by
    intro n9
    induction n9 with
    | zero =>
      intro rl hrl hm9
      exact absurd hm9 (Nat.not_lt_zero _)
    | succ n9 ih_2_1 =>
      intro rl hrl hm9 H locs hP hD hS ls hl
      refine lv_iload_n hx hb dX9_next_2 rfl (lv_at hl 3 rfl) ?_
      refine lv_iload_n hx hb dX9_next_3 rfl (lv_at hl 2 rfl) ?_
      refine lv_icmp_gt (tgt := 88) hx hb dX9_next_4 (by decide) (fun c_1 => ?_) (fun c_1 => ?_)
      · skip
        have c_1 : hi < rl := (nI_ltI (a := hi) (b := rl) (by omega) (by omega)).mp c_1
        refine lv_iconst (v := -1) hx hb dX9_next_88 (by decide) ?_
        have hP9 := hP.sub (ws' := [(wy, .inr (14, [.ref ca, .ref sl, .ref gl])), (ca, .inl (gyI G, 16, .inl f)), (pz, .inr (13, [.ref gr, .ref mr, .ref cg])), (gr, .inl (gyI G, 16, .inl gv))]) [0, 1, 2, 3] rfl
        have hD9 := hD.sub (ws' := [(wy, .inr (14, [.ref ca, .ref sl, .ref gl])), (ca, .inl (gyI G, 16, .inl f)), (pz, .inr (13, [.ref gr, .ref mr, .ref cg])), (gr, .inl (gyI G, 16, .inl gv))]) [0, 1, 2, 3] (by decide) rfl
        subst hQ
        exact W.iret (v := -1) hx hb hr (fun t ht hW => ⟨⟨-1, (0, 0, 0, 0), rfl, Or.inl rfl, by rw [ht]; exact hP9, hD9⟩, hS.F ht⟩) hS.2.2 dX9_next_89
      · skip
        have c_1 : ¬ hi < rl := fun z => c_1 ((nI_ltI (a := hi) (b := rl) (by omega) (by omega)).mpr z)
        refine lv_iconst (v := nI 0) hx hb dX9_next_7 (by decide) ?_
        refine lv_istore (lv' := [(4, .int (nI 0)), (0, .ref wy), (1, .ref pz), (2, .int (nI hi)), (3, .int (nI rl))]) hx hb dX9_next_8 hl (by decide) rfl (fun ls hl => ?_)
        have cut_10_2 : ∀ (n9 : Nat) (k : Nat) (hk : k ≤ 16) (hm9 : 16 - k < n9) (H : Heap) (locs : List Loc), va_P (gD G) vwCl [(wy, .inr (14, [.ref ca, .ref sl, .ref gl])), (ca, .inl (gyI G, 16, .inl f)), (pz, .inr (13, [.ref gr, .ref mr, .ref cg])), (gr, .inl (gyI G, 16, .inl gv))] H → va_D A [(wy, .inr (14, [.ref ca, .ref sl, .ref gl])), (ca, .inl (gyI G, 16, .inl f)), (pz, .inr (13, [.ref gr, .ref mr, .ref cg])), (gr, .inl (gyI G, 16, .inl gv))] → va_S A s.heap H locs → ∀ (ls : Array Slot), lv_has ls 6 [(0, .ref wy), (1, .ref pz), (2, .int (nI hi)), (3, .int (nI rl)), (4, .int (nI k))] → W p l e ({ frames := 3, cells := 0, slots := 0, locals := 72 } : Room) s m ([.ref wy, .ref pz, .int (nI hi)] : List Value).toArray below meth c H locs 0 0 Q (F0 m 10 ls []) := by
          intro n9
          induction n9 with
          | zero =>
            intro k hk hm9
            exact absurd hm9 (Nat.not_lt_zero _)
          | succ n9 ih_10_2 =>
            intro k hk hm9 H locs hP hD hS ls hl
            refine lv_iload hx hb dX9_next_10 (lv_at hl 4 rfl) ?_
            refine lv_bipush (v := nI 16) hx hb dX9_next_12 (by decide) ?_
            refine lv_icmp_ge (tgt := 82) hx hb dX9_next_14 (by decide) (fun c_2 => ?_) (fun c_2 => ?_)
            · skip
              have c_2 : 16 ≤ k := (nI_leI (a := 16) (b := k) (by omega) (by omega)).mp c_2
              refine lv_iinc (v := nI (rl + 1)) (lv' := [(3, .int (nI (rl + 1))), (0, .ref wy), (1, .ref pz), (2, .int (nI hi)), (4, .int (nI k))]) hx hb dX9_next_82 hl (k := 3) rfl (nI_add rl 1) (by decide) rfl (fun ls hl => ?_)
              refine lv_goto (tgt := 2) hx hb dX9_next_85 (by decide) ?_
              exact ih_2_1 (rl + 1) (by omega) (by omega) _ _ (hP.sub [0, 1, 2, 3] rfl) (hD.sub [0, 1, 2, 3] (by decide) rfl) hS ls (lv_sub hl [1, 2, 3, 0] rfl)
            · skip
              have c_2 : ¬ 16 ≤ k := fun z => c_2 ((nI_leI (a := 16) (b := k) (by omega) (by omega)).mpr z)
              refine lv_iconst (v := nI 1) hx hb dX9_next_17 (by decide) ?_
              refine lv_istore (lv' := [(5, .int (nI 1)), (0, .ref wy), (1, .ref pz), (2, .int (nI hi)), (3, .int (nI rl)), (4, .int (nI k))]) hx hb dX9_next_18 hl (by decide) rfl (fun ls hl => ?_)
              have cut_20_3 : ∀ (n9 : Nat) (v : Nat) (hv1 : 1 ≤ v) (hv : v ≤ 5) (hm9 : 5 - v < n9) (H : Heap) (locs : List Loc), va_P (gD G) vwCl [(wy, .inr (14, [.ref ca, .ref sl, .ref gl])), (ca, .inl (gyI G, 16, .inl f)), (pz, .inr (13, [.ref gr, .ref mr, .ref cg])), (gr, .inl (gyI G, 16, .inl gv))] H → va_D A [(wy, .inr (14, [.ref ca, .ref sl, .ref gl])), (ca, .inl (gyI G, 16, .inl f)), (pz, .inr (13, [.ref gr, .ref mr, .ref cg])), (gr, .inl (gyI G, 16, .inl gv))] → va_S A s.heap H locs → ∀ (ls : Array Slot), lv_has ls 6 [(0, .ref wy), (1, .ref pz), (2, .int (nI hi)), (3, .int (nI rl)), (4, .int (nI k)), (5, .int (nI v))] → W p l e ({ frames := 3, cells := 0, slots := 0, locals := 72 } : Room) s m ([.ref wy, .ref pz, .int (nI hi)] : List Value).toArray below meth c H locs 0 0 Q (F0 m 20 ls []) := by
                intro n9
                induction n9 with
                | zero =>
                  intro v hv1 hv hm9
                  exact absurd hm9 (Nat.not_lt_zero _)
                | succ n9 ih_20_3 =>
                  intro v hv1 hv hm9 H locs hP hD hS ls hl
                  refine lv_iload hx hb dX9_next_20 (lv_at hl 5 rfl) ?_
                  refine lv_iconst (v := nI 4) hx hb dX9_next_22 (by decide) ?_
                  refine lv_icmp_gt (tgt := 76) hx hb dX9_next_23 (by decide) (fun c_3 => ?_) (fun c_3 => ?_)
                  · skip
                    have c_3 : 4 < v := (nI_ltI (a := 4) (b := v) (by omega) (by omega)).mp c_3
                    refine lv_iinc (v := nI (k + 1)) (lv' := [(4, .int (nI (k + 1))), (0, .ref wy), (1, .ref pz), (2, .int (nI hi)), (3, .int (nI rl)), (5, .int (nI v))]) hx hb dX9_next_76 hl (k := 4) rfl (nI_add k 1) (by decide) rfl (fun ls hl => ?_)
                    refine lv_goto (tgt := 10) hx hb dX9_next_79 (by decide) ?_
                    exact ih_10_2 (k + 1) (by omega) (by omega) _ _ (hP.sub [0, 1, 2, 3] rfl) (hD.sub [0, 1, 2, 3] (by decide) rfl) hS ls (lv_sub hl [1, 2, 3, 4, 0] rfl)
                  · skip
                    have c_3 : ¬ 4 < v := fun z => c_3 ((nI_ltI (a := 4) (b := v) (by omega) (by omega)).mpr z)
                    refine lv_aload_n hx hb dX9_next_26 rfl (lv_at hl 0 rfl) ?_
                    refine va_get (D := gD G) (ci := 14) (v := .ref ca) (C := RX9) (T := TX9) (N := 3) hx hb hts fwX9 hown hK hP 0 rfl rfl 0 (by decide) (hts _ q1203) (fun _ h9 => h9) rfl dX9_next_27 ?_
                    refine lv_iload hx hb dX9_next_30 (lv_at hl 4 rfl) ?_
                    refine va_iald (D := gD G) (cA := gyI G) (n := 16) (f := f) hx hb hK hP 1 0 rfl rfl (vp_in_nI (n := k) (N := 16) (by omega) (by omega)) dX9_next_32 ?_
                    obtain ⟨n_4, hn_4, en_4⟩ := hf k (by omega)
                    refine lv_toe (show f (nI k).toNatClampNeg = nI n_4 by rw [nI_clamp (by omega)]; exact en_4) ?_
                    refine lv_iload hx hb dX9_next_33 (lv_at hl 5 rfl) ?_
                    refine fin_i hP hD hS hA [] [0, 1, 2, 3] (wr := [(wy, .inr (14, [.ref ca, .ref sl, .ref gl])), (ca, .inl (gyI G, 16, .inl f)), (pz, .inr (13, [.ref gr, .ref mr, .ref cg])), (gr, .inl (gyI G, 16, .inl gv))]) rfl rfl (by decide) (by decide) (va_runSN (As := [.int (nI n_4), .int (nI v)]) (rest := []) ⟨hx, hb, hml, hown, hts⟩ (c_isIn l G n_4 v (by omega) (by omega) (by omega) H.size) ⟨(va_cnB 2 hts (gI q1078) rfl rfl rfl (hE.1.1 _ nq1076) (hts _ q52) (by decide +kernel) ⟨Nat.le_of_ble_eq_true rfl, Nat.le_of_ble_eq_true rfl⟩), hts _ q1077, trivial⟩ (preS hK hE hP hD hS hA [] rfl (by decide)) rfl rfl hl.1 rfl (lv_room (Nat.le_of_ble_eq_true rfl)) dX9_next_35 ⟨Nat.le_of_ble_eq_true rfl, Nat.le_of_ble_eq_true rfl⟩) (fun r_7 u9 hw_6 H locs hP hD hS => ?_)
                    obtain ⟨bn_5, rfl⟩ : ∃ z, z = u9 := ⟨_, rfl⟩
                    obtain ⟨rfl, hbn_8, hbt_9⟩ := hw_6
                    have hbn_8 : bn_5 ≤ 1 := hbn_8
                    have hbt_9 : bn_5 = 1 → n_4 / pw v % 2 = 1 := hbt_9
                    have hP : va_P (gD G) vwCl [(wy, .inr (14, [.ref ca, .ref sl, .ref gl])), (ca, .inl (gyI G, 16, .inl f)), (pz, .inr (13, [.ref gr, .ref mr, .ref cg])), (gr, .inl (gyI G, 16, .inl gv))] H := hP
                    have hD : va_D A [(wy, .inr (14, [.ref ca, .ref sl, .ref gl])), (ca, .inl (gyI G, 16, .inl f)), (pz, .inr (13, [.ref gr, .ref mr, .ref cg])), (gr, .inl (gyI G, 16, .inl gv))] := hD
                    refine lv_if_eq (tgt := 70) hx hb dX9_next_38 (by decide) (fun c_10 => ?_) (fun c_10 => ?_)
                    · skip
                      have c_10 : bn_5 = 0 := (nI_eq (a := bn_5) (b := 0) (by omega) (by omega)).mp c_10
                      refine lv_iinc (v := nI (v + 1)) (lv' := [(5, .int (nI (v + 1))), (0, .ref wy), (1, .ref pz), (2, .int (nI hi)), (3, .int (nI rl)), (4, .int (nI k))]) hx hb dX9_next_70 hl (k := 5) rfl (nI_add v 1) (by decide) rfl (fun ls hl => ?_)
                      refine lv_goto (tgt := 20) hx hb dX9_next_73 (by decide) ?_
                      exact ih_20_3 (v + 1) (by omega) (by omega) (by omega) _ _ (hP.sub [0, 1, 2, 3] rfl) (hD.sub [0, 1, 2, 3] (by decide) rfl) hS ls (lv_sub hl [1, 2, 3, 4, 5, 0] rfl)
                    · skip
                      have c_10 : ¬ bn_5 = 0 := fun z => c_10 ((nI_eq (a := bn_5) (b := 0) (by omega) (by omega)).mpr z)
                      refine lv_aload_n hx hb dX9_next_41 rfl (lv_at hl 1 rfl) ?_
                      refine lv_iload_n hx hb dX9_next_42 rfl (lv_at hl 3 rfl) ?_
                      refine lv_iload hx hb dX9_next_43 (lv_at hl 4 rfl) ?_
                      refine lv_iload hx hb dX9_next_45 (lv_at hl 5 rfl) ?_
                      refine lv_aload_n hx hb dX9_next_47 rfl (lv_at hl 0 rfl) ?_
                      refine va_get (D := gD G) (ci := 14) (v := .ref ca) (C := RX9) (T := TX9) (N := 3) hx hb hts fwX9 hown hK hP 0 rfl rfl 0 (by decide) (hts _ q1203) (fun _ h9 => h9) rfl dX9_next_48 ?_
                      refine fin_i hP hD hS hA [2, 3, 1] [0] (wr := [(wy, .inr (14, [.ref ca, .ref sl, .ref gl]))]) rfl rfl (by decide) (by decide) (va_runV (As := [.int (nI rl), .int (nI k), .int (nI v), .ref ca]) (rest := []) ⟨hx, hb, hml, hown, hts⟩ (c_X8_isTaken l G pz gr mr cg gv rl k (nI v) ca f (by omega) (by omega) H.size) (cwV 4 hts (gV q1079 q1080 q1081 q62 q1082) rfl rfl rfl (by decide +kernel) ⟨Nat.le_of_ble_eq_true rfl, Nat.le_of_ble_eq_true rfl⟩) (preV (q0 := 2) (ci := 13) hK hE hP hD hS hA [2, 3, 1] rfl (by decide) rfl rfl) rfl rfl hl.1 rfl (lv_room (Nat.le_of_ble_eq_true rfl)) dX9_next_51 ⟨Nat.le_of_ble_eq_true rfl, Nat.le_of_ble_eq_true rfl⟩) (fun r_13 u9 hw_12 H locs hP hD hS => ?_)
                      obtain ⟨bn_11, rfl⟩ : ∃ z, z = u9 := ⟨_, rfl⟩
                      obtain ⟨rfl, hbn_14⟩ := hw_12
                      have hbn_14 : bn_11 ≤ 1 := hbn_14
                      have hP : va_P (gD G) vwCl [(wy, .inr (14, [.ref ca, .ref sl, .ref gl])), (pz, .inr (13, [.ref gr, .ref mr, .ref cg])), (gr, .inl (gyI G, 16, .inl gv)), (ca, .inl (gyI G, 16, .inl f))] H := hP
                      have hD : va_D A [(wy, .inr (14, [.ref ca, .ref sl, .ref gl])), (pz, .inr (13, [.ref gr, .ref mr, .ref cg])), (gr, .inl (gyI G, 16, .inl gv)), (ca, .inl (gyI G, 16, .inl f))] := hD
                      refine lv_if_eq (tgt := 70) hx hb dX9_next_54 (by decide) (fun c_15 => ?_) (fun c_15 => ?_)
                      · skip
                        have c_15 : bn_11 = 0 := (nI_eq (a := bn_11) (b := 0) (by omega) (by omega)).mp c_15
                        refine lv_iinc (v := nI (v + 1)) (lv' := [(5, .int (nI (v + 1))), (0, .ref wy), (1, .ref pz), (2, .int (nI hi)), (3, .int (nI rl)), (4, .int (nI k))]) hx hb dX9_next_70 hl (k := 5) rfl (nI_add v 1) (by decide) rfl (fun ls hl => ?_)
                        refine lv_goto (tgt := 20) hx hb dX9_next_73 (by decide) ?_
                        exact ih_20_3 (v + 1) (by omega) (by omega) (by omega) _ _ (hP.sub [0, 3, 1, 2] rfl) (hD.sub [0, 3, 1, 2] (by decide) rfl) hS ls (lv_sub hl [1, 2, 3, 4, 5, 0] rfl)
                      · skip
                        have c_15 : ¬ bn_11 = 0 := fun z => c_15 ((nI_eq (a := bn_11) (b := 0) (by omega) (by omega)).mpr z)
                        refine lv_bipush (v := nI 100) hx hb dX9_next_57 (by decide) ?_
                        refine lv_iload_n hx hb dX9_next_59 rfl (lv_at hl 3 rfl) ?_
                        refine lv_imul hx hb dX9_next_60 ?_
                        refine lv_toe (pk_mul 100 rl) ?_
                        refine lv_iconst (v := nI 5) hx hb dX9_next_61 (by decide) ?_
                        refine lv_iload hx hb dX9_next_62 (lv_at hl 4 rfl) ?_
                        refine lv_imul hx hb dX9_next_64 ?_
                        refine lv_toe (pk_mul 5 k) ?_
                        refine lv_iadd hx hb dX9_next_65 ?_
                        refine lv_toe (nI_add (100 * rl) (5 * k)) ?_
                        refine lv_iload hx hb dX9_next_66 (lv_at hl 5 rfl) ?_
                        refine lv_iadd hx hb dX9_next_68 ?_
                        refine lv_toe (nI_add (100 * rl + (5 * k)) v) ?_
                        have hP9 := hP.sub (ws' := [(wy, .inr (14, [.ref ca, .ref sl, .ref gl])), (ca, .inl (gyI G, 16, .inl f)), (pz, .inr (13, [.ref gr, .ref mr, .ref cg])), (gr, .inl (gyI G, 16, .inl gv))]) [0, 3, 1, 2] rfl
                        have hD9 := hD.sub (ws' := [(wy, .inr (14, [.ref ca, .ref sl, .ref gl])), (ca, .inl (gyI G, 16, .inl f)), (pz, .inr (13, [.ref gr, .ref mr, .ref cg])), (gr, .inl (gyI G, 16, .inl gv))]) [0, 3, 1, 2] (by decide) rfl
                        subst hQ
                        exact W.iret (v := nI (100 * rl + (5 * k) + v)) hx hb hr (fun t ht hW => ⟨⟨nI (100 * rl + (5 * k) + v), (rl, k, v, n_4), rfl, Or.inr ⟨rfl, (show rl < 4 by omega), (show k < 16 by omega), (show 1 ≤ v by omega), (show v ≤ 4 by omega), hn_4, en_4, hbt_9 (by omega)⟩, by rw [ht]; exact hP9, hD9⟩, hS.F ht⟩) hS.2.2 dX9_next_69
              exact cut_20_3 (5 - 1 + 1) 1 (by omega) (by omega) (Nat.lt_succ_self _) _ _ (hP.sub [0, 1, 2, 3] rfl) (hD.sub [0, 1, 2, 3] (by decide) rfl) hS ls (lv_sub hl [1, 2, 3, 4, 5, 0] rfl)
        exact cut_10_2 (16 - 0 + 1) 0 (by omega) (Nat.lt_succ_self _) _ _ (hP.sub [0, 1, 2, 3] rfl) (hD.sub [0, 1, 2, 3] (by decide) rfl) hS ls (lv_sub hl [1, 2, 3, 4, 0] rfl)
  exact cut_2_1 (hi + 1 - 0 + 1) 0 (by omega) (Nat.lt_succ_self _) _ _ (hP.sub [0, 1, 2, 3] rfl) (hD.sub [0, 1, 2, 3] (by decide) rfl) hS ls (lv_sub hl [1, 2, 3, 0] rfl)
set_option maxHeartbeats 4000000 in
set_option maxRecDepth 100000 in
theorem c_X9_state (l : Launch) (G : GG) (wy : Nat) (ca : Nat) (sl : Nat) (gl : Nat) (f : Nat → Int32) : Mi l G yX9_state cX9_state 6 (some .char) ({ frames := 1, cells := 0, slots := 0, locals := 20 } : Room) [.ref wy] [(wy, .inr (14, [.ref ca, .ref sl, .ref gl])), (ca, .inl (gyI G, 16, .inl f))] (fun (r : Int32) (u : Unit) => True) (fun (u : Unit) => [(wy, .inr (14, [.ref ca, .ref sl, .ref gl])), (ca, .inl (gyI G, 16, .inl f))]) := by
  intro sz
  refine Met.ofW (cc := cX9_state) (maxL := 6) (ret := (some .char)) (by decide) rfl ?_
  intro p e s m args below meth c s₁ B9 hml hv
  obtain ⟨rfl, hsz, hP, hK, hD0, hE⟩ := hv
  have hx := B9.exec
  have hb := B9.bytes
  have hr := B9.returns
  have hts : ∀ w ∈ WW, w.before ([.ref wy] : List Value).toArray s = true := fun w h => atoms_spec (ws := .code yX9_state cX9_state 6 (some .char) :: WW) B9.pre w (List.mem_cons_of_mem _ h)
  have hown : s.vm.findClass RX9 = some m.cls := findClass_of_methodNamed B9.named
  subst hsz
  have hD := hD0.self (sz := s.heap.size)
  generalize hAe : va_A [(wy, .inr (14, [.ref ca, .ref sl, .ref gl])), (ca, .inl (gyI G, 16, .inl f))] s.heap.size = A at hD hE ⊢
  have hA : ∀ q : Nat, s.heap.size ≤ q → A q := fun q h => by rw [← hAe]; exact Or.inr h
  have hl := lv_entry ([.ref wy]) (n := 6) (Nat.le_of_ble_eq_true rfl)
  rw [lg_entry_eq]
  generalize (lg_sl ([.ref wy]) ++ List.replicate (6 - (lg_sl ([.ref wy])).length) Slot.unset).toArray = ls at hl ⊢
  have hl : lv_has ls 6 [(0, .ref wy)] := hl
  refine qgen (fun Q hQ => ?_)
  refine hgen (fun H locs hP hD hS => ?_) hP hD
  refine lv_iconst (v := nI 1) hx hb dX9_state_0 (by decide) ?_
  refine lv_istore_n (lv' := [(1, .int (nI 1)), (0, .ref wy)]) hx hb dX9_state_1 rfl hl (by decide) rfl (fun ls hl => ?_)
  refine lv_aload_n hx hb dX9_state_2 rfl (lv_at hl 1 rfl) ?_
  refine va_get (D := gD G) (ci := 14) (v := .ref ca) (C := RX9) (T := TX9) (N := 3) hx hb hts fwX9 hown hK hP 0 rfl rfl 0 (by decide) (hts _ q1203) (fun _ h9 => h9) rfl dX9_state_3 ?_
  refine lv_astore_n (lv' := [(2, .ref ca), (1, .int (nI 1)), (0, .ref wy)]) hx hb dX9_state_6 rfl hl (by decide) rfl (fun ls hl => ?_)
  refine lv_aload_n hx hb dX9_state_7 rfl (lv_at hl 0 rfl) ?_
  refine va_alen (D := gD G) (v := nI 16) hx hb hK hP 1 0 rfl rfl rfl dX9_state_8 ?_
  refine lv_istore_n (lv' := [(3, .int (nI 16)), (2, .ref ca), (1, .int (nI 1)), (0, .ref wy)]) hx hb dX9_state_9 rfl hl (by decide) rfl (fun ls hl => ?_)
  refine lv_iconst (v := nI 0) hx hb dX9_state_10 (by decide) ?_
  refine lv_istore (lv' := [(4, .int (nI 0)), (3, .int (nI 16)), (2, .ref ca), (1, .int (nI 1)), (0, .ref wy)]) hx hb dX9_state_11 hl (by decide) rfl (fun ls hl => ?_)
  have cut_13_1 : ∀ (n9 : Nat) (bs : Nat) (i : Nat) (hbs : bs ≤ 1) (hi : i ≤ 16) (hm9 : 16 - i < n9) (H : Heap) (locs : List Loc), va_P (gD G) vwCl [(wy, .inr (14, [.ref ca, .ref sl, .ref gl])), (ca, .inl (gyI G, 16, .inl f))] H → va_D A [(wy, .inr (14, [.ref ca, .ref sl, .ref gl])), (ca, .inl (gyI G, 16, .inl f))] → va_S A s.heap H locs → ∀ (ls : Array Slot), lv_has ls 6 [(0, .ref wy), (1, .int (nI bs)), (2, .ref ca), (3, .int (nI 16)), (4, .int (nI i))] → W p l e ({ frames := 1, cells := 0, slots := 0, locals := 20 } : Room) s m ([.ref wy] : List Value).toArray below meth c H locs 0 0 Q (F0 m 13 ls []) := by
    intro n9
    induction n9 with
    | zero =>
      intro bs i hbs hi hm9
      exact absurd hm9 (Nat.not_lt_zero _)
    | succ n9 ih_13_1 =>
      intro bs i hbs hi hm9 H locs hP hD hS ls hl
      refine lv_iload hx hb dX9_state_13 (lv_at hl 4 rfl) ?_
      refine lv_iload_n hx hb dX9_state_15 rfl (lv_at hl 3 rfl) ?_
      refine lv_icmp_ge (tgt := 56) hx hb dX9_state_16 (by decide) (fun c_1 => ?_) (fun c_1 => ?_)
      · skip
        have c_1 : 16 ≤ i := (nI_leI (a := 16) (b := i) (by omega) (by omega)).mp c_1
        refine lv_iload_n hx hb dX9_state_56 rfl (lv_at hl 1 rfl) ?_
        refine lv_if_eq (tgt := 65) hx hb dX9_state_57 (by decide) (fun c_2 => ?_) (fun c_2 => ?_)
        · skip
          have c_2 : bs = 0 := (nI_eq (a := bs) (b := 0) (by omega) (by omega)).mp c_2
          refine lv_bipush (v := nI 110) hx hb dX9_state_65 (by decide) ?_
          have hP9 := hP.sub (ws' := [(wy, .inr (14, [.ref ca, .ref sl, .ref gl])), (ca, .inl (gyI G, 16, .inl f))]) [0, 1] rfl
          have hD9 := hD.sub (ws' := [(wy, .inr (14, [.ref ca, .ref sl, .ref gl])), (ca, .inl (gyI G, 16, .inl f))]) [0, 1] (by decide) rfl
          subst hQ
          exact W.zret (v := nI 110) hx hb hr (by decide) (fun t ht hW => ⟨⟨nI 110, (), rfl, trivial, by rw [ht]; exact hP9, hD9⟩, hS.F ht⟩) hS.2.2 dX9_state_67
        · skip
          have c_2 : ¬ bs = 0 := fun z => c_2 ((nI_eq (a := bs) (b := 0) (by omega) (by omega)).mpr z)
          refine lv_bipush (v := nI 115) hx hb dX9_state_60 (by decide) ?_
          refine lv_goto (tgt := 67) hx hb dX9_state_62 (by decide) ?_
          have hP9 := hP.sub (ws' := [(wy, .inr (14, [.ref ca, .ref sl, .ref gl])), (ca, .inl (gyI G, 16, .inl f))]) [0, 1] rfl
          have hD9 := hD.sub (ws' := [(wy, .inr (14, [.ref ca, .ref sl, .ref gl])), (ca, .inl (gyI G, 16, .inl f))]) [0, 1] (by decide) rfl
          subst hQ
          exact W.zret (v := nI 115) hx hb hr (by decide) (fun t ht hW => ⟨⟨nI 115, (), rfl, trivial, by rw [ht]; exact hP9, hD9⟩, hS.F ht⟩) hS.2.2 dX9_state_67
      · skip
        have c_1 : ¬ 16 ≤ i := fun z => c_1 ((nI_leI (a := 16) (b := i) (by omega) (by omega)).mpr z)
        refine lv_aload_n hx hb dX9_state_19 rfl (lv_at hl 2 rfl) ?_
        refine lv_iload hx hb dX9_state_20 (lv_at hl 4 rfl) ?_
        refine va_iald (D := gD G) (cA := gyI G) (n := 16) (f := f) hx hb hK hP 1 0 rfl rfl (vp_in_nI (n := i) (N := 16) (by omega) (by omega)) dX9_state_22 ?_
        refine lv_topi (fun w_3 ew_3 => ?_)
        refine lv_istore (lv' := [(5, .int w_3), (0, .ref wy), (1, .int (nI bs)), (2, .ref ca), (3, .int (nI 16)), (4, .int (nI i))]) hx hb dX9_state_23 hl (by decide) rfl (fun ls hl => ?_)
        refine lv_iload hx hb dX9_state_25 (lv_at hl 0 rfl) ?_
        refine lv_if_ne (tgt := 33) hx hb dX9_state_27 (by decide) (fun c_4 => ?_) (fun c_4 => ?_)
        · skip
          refine lv_iload_n hx hb dX9_state_33 rfl (lv_at hl 2 rfl) ?_
          refine lv_iload hx hb dX9_state_34 (lv_at hl 0 rfl) ?_
          refine fin_i hP hD hS hA [] [0, 1] (wr := [(wy, .inr (14, [.ref ca, .ref sl, .ref gl])), (ca, .inl (gyI G, 16, .inl f))]) rfl rfl (by decide) (by decide) (va_runS (As := [.int w_3]) (rest := [.int (nI bs)]) ⟨hx, hb, hml, hown, hts⟩ (c_J6_bitCount_0f7a4 l G w_3 H.size) (va_cwS 1 hts (gSt q1198 q277 q70 q278) rfl rfl rfl (by decide +kernel) ⟨Nat.le_of_ble_eq_true rfl, Nat.le_of_ble_eq_true rfl⟩) (preS hK hE hP hD hS hA [] rfl (by decide)) rfl rfl hl.1 rfl (lv_room (Nat.le_of_ble_eq_true rfl)) dX9_state_36 ⟨Nat.le_of_ble_eq_true rfl, Nat.le_of_ble_eq_true rfl⟩) (fun r_6 u9 hw_5 H locs hP hD hS => ?_)
          have hP : va_P (gD G) vwCl [(wy, .inr (14, [.ref ca, .ref sl, .ref gl])), (ca, .inl (gyI G, 16, .inl f))] H := hP
          have hD : va_D A [(wy, .inr (14, [.ref ca, .ref sl, .ref gl])), (ca, .inl (gyI G, 16, .inl f))] := hD
          refine lv_iconst (v := nI 1) hx hb dX9_state_39 (by decide) ?_
          refine lv_icmp_ne (tgt := 47) hx hb dX9_state_40 (by decide) (fun c_7 => ?_) (fun c_7 => ?_)
          · skip
            refine lv_iconst (v := nI 0) hx hb dX9_state_47 (by decide) ?_
            refine lv_iand hx hb dX9_state_48 ?_
            refine lv_toe (band0 (by omega)) ?_
            refine lv_istore_n (lv' := [(1, .int (nI 0)), (5, .int w_3), (0, .ref wy), (2, .ref ca), (3, .int (nI 16)), (4, .int (nI i))]) hx hb dX9_state_49 rfl hl (by decide) rfl (fun ls hl => ?_)
            refine lv_iinc (v := nI (i + 1)) (lv' := [(4, .int (nI (i + 1))), (1, .int (nI 0)), (5, .int w_3), (0, .ref wy), (2, .ref ca), (3, .int (nI 16))]) hx hb dX9_state_50 hl (k := 5) rfl (nI_add i 1) (by decide) rfl (fun ls hl => ?_)
            refine lv_goto (tgt := 13) hx hb dX9_state_53 (by decide) ?_
            exact ih_13_1 0 (i + 1) (by omega) (by omega) (by omega) _ _ (hP.sub [0, 1] rfl) (hD.sub [0, 1] (by decide) rfl) hS ls (lv_sub hl [3, 1, 4, 5, 0] rfl)
          · skip
            refine lv_iconst (v := nI 1) hx hb dX9_state_43 (by decide) ?_
            refine lv_goto (tgt := 48) hx hb dX9_state_44 (by decide) ?_
            refine lv_iand hx hb dX9_state_48 ?_
            refine lv_toe (band1 (by omega)) ?_
            refine lv_istore_n (lv' := [(1, .int (nI bs)), (5, .int w_3), (0, .ref wy), (2, .ref ca), (3, .int (nI 16)), (4, .int (nI i))]) hx hb dX9_state_49 rfl hl (by decide) rfl (fun ls hl => ?_)
            refine lv_iinc (v := nI (i + 1)) (lv' := [(4, .int (nI (i + 1))), (1, .int (nI bs)), (5, .int w_3), (0, .ref wy), (2, .ref ca), (3, .int (nI 16))]) hx hb dX9_state_50 hl (k := 5) rfl (nI_add i 1) (by decide) rfl (fun ls hl => ?_)
            refine lv_goto (tgt := 13) hx hb dX9_state_53 (by decide) ?_
            exact ih_13_1 bs (i + 1) (by omega) (by omega) (by omega) _ _ (hP.sub [0, 1] rfl) (hD.sub [0, 1] (by decide) rfl) hS ls (lv_sub hl [3, 1, 4, 5, 0] rfl)
        · skip
          refine lv_bipush (v := nI 98) hx hb dX9_state_30 (by decide) ?_
          have hP9 := hP.sub (ws' := [(wy, .inr (14, [.ref ca, .ref sl, .ref gl])), (ca, .inl (gyI G, 16, .inl f))]) [0, 1] rfl
          have hD9 := hD.sub (ws' := [(wy, .inr (14, [.ref ca, .ref sl, .ref gl])), (ca, .inl (gyI G, 16, .inl f))]) [0, 1] (by decide) rfl
          subst hQ
          exact W.zret (v := nI 98) hx hb hr (by decide) (fun t ht hW => ⟨⟨nI 98, (), rfl, trivial, by rw [ht]; exact hP9, hD9⟩, hS.F ht⟩) hS.2.2 dX9_state_32
  exact cut_13_1 (16 - 0 + 1) 1 0 (by omega) (by omega) (Nat.lt_succ_self _) _ _ (hP.sub [0, 1] rfl) (hD.sub [0, 1] (by decide) rfl) hS ls (lv_sub hl [4, 3, 2, 1, 0] rfl)
