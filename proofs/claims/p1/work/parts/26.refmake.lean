theorem q37 : (Jvm.Cond.selects "PegboardryModel" ({ cls := "PegboardryModel", name := "draw", desc := "(I)I" } : Jvm.MethodName) ({ cls := "PegboardryModel", name := "draw", desc := "(I)I" } : Jvm.MethodName)) ∈ WW := inW 37 (by decide +kernel) rfl
theorem q76 : (Jvm.Cond.initialized "java/util/ArrayList$Itr") ∈ WW := inW 76 (by decide +kernel) rfl
theorem nq104 : (Jvm.Cond.fieldLinkNest "java/util/ArrayList$Itr" (28 : Nat) "java/util/ArrayList" "size" "I" "java/util/ArrayList") ∈ NWs := inN 104 (by decide +kernel) rfl
theorem q107 : (Jvm.Cond.fieldLink "java/util/ArrayList$Itr" (17 : Nat) "java/util/ArrayList" "modCount" "I") ∈ WW := inW 107 (by decide +kernel) rfl
theorem q924 : (Jvm.Cond.methodLink "PegboardryModel" (1 : Nat) ({ cls := "java/lang/Object", name := "<init>", desc := "()V" } : Jvm.MethodName)) ∈ WW := inW 924 (by decide +kernel) rfl
theorem q925 : (Jvm.Cond.classLink "PegboardryModel" (7 : Nat) "java/util/ArrayList") ∈ WW := inW 925 (by decide +kernel) rfl
theorem q926 : (Jvm.Cond.methodLink "PegboardryModel" (9 : Nat) ({ cls := "java/util/ArrayList", name := "<init>", desc := "()V" } : Jvm.MethodName)) ∈ WW := inW 926 (by decide +kernel) rfl
theorem q931 : (Jvm.Cond.fieldLink "PegboardryModel" (16 : Nat) "PegboardryModel" "proof" "[I") ∈ WW := inW 931 (by decide +kernel) rfl
theorem q966 : (Jvm.Cond.classLink "PegboardryModel" (50 : Nat) "PegboardryModel$Puzzle") ∈ WW := inW 966 (by decide +kernel) rfl
theorem q967 : (Jvm.Cond.instantiable "PegboardryModel$Puzzle" (3 : Nat)) ∈ WW := inW 967 (by decide +kernel) rfl
theorem nq968 : (Jvm.Cond.methodLinkNest "PegboardryModel" (55 : Nat) ({ cls := "PegboardryModel$Puzzle", name := "<init>", desc := "()V" } : Jvm.MethodName) "PegboardryModel") ∈ NWs := inN 968 (by decide +kernel) rfl
theorem q969 : (Jvm.Cond.instanceMethod ({ cls := "PegboardryModel$Puzzle", name := "<init>", desc := "()V" } : Jvm.MethodName)) ∈ WW := inW 969 (by decide +kernel) rfl
theorem q970 : (Jvm.Cond.code ({ cls := "PegboardryModel$Puzzle", name := "<init>", desc := "()V" } : Jvm.MethodName) prog_11_method_1_code (1 : Nat) (Option.none : Option Jvm.ClassFile.FieldType)) ∈ WW := inW 970 (by decide +kernel) rfl
theorem q988 : (Jvm.Cond.methodLink "PegboardryModel" (56 : Nat) ({ cls := "java/util/List", name := "add", desc := "(Ljava/lang/Object;)Z" } : Jvm.MethodName)) ∈ WW := inW 988 (by decide +kernel) rfl
theorem q1043 : (Jvm.Cond.methodLink "PegboardryModel" (94 : Nat) ({ cls := "PegboardryModel", name := "draw", desc := "(I)I" } : Jvm.MethodName)) ∈ WW := inW 1043 (by decide +kernel) rfl
theorem q1045 : (Jvm.Cond.instanceMethod ({ cls := "PegboardryModel", name := "draw", desc := "(I)I" } : Jvm.MethodName)) ∈ WW := inW 1045 (by decide +kernel) rfl
theorem q1046 : (Jvm.Cond.code ({ cls := "PegboardryModel", name := "draw", desc := "(I)I" } : Jvm.MethodName) prog_9_method_15_code (2 : Nat) (Option.some Jvm.ClassFile.FieldType.int)) ∈ WW := inW 1046 (by decide +kernel) rfl
theorem q1051 : (Jvm.Cond.methodLink "PegboardryModel" (97 : Nat) ({ cls := "PegboardryModel", name := "changes", desc := "(LPegboardryModel$Puzzle;ZII)V" } : Jvm.MethodName)) ∈ WW := inW 1051 (by decide +kernel) rfl
theorem q1052 : (Jvm.Cond.static ({ cls := "PegboardryModel", name := "changes", desc := "(LPegboardryModel$Puzzle;ZII)V" } : Jvm.MethodName)) ∈ WW := inW 1052 (by decide +kernel) rfl
theorem q1053 : (Jvm.Cond.code ({ cls := "PegboardryModel", name := "changes", desc := "(LPegboardryModel$Puzzle;ZII)V" } : Jvm.MethodName) prog_9_method_17_code (10 : Nat) (Option.none : Option Jvm.ClassFile.FieldType)) ∈ WW := inW 1053 (by decide +kernel) rfl
theorem q1061 : (Jvm.Cond.classLink "PegboardryModel" (44 : Nat) "PegboardryModel$Way") ∈ WW := inW 1061 (by decide +kernel) rfl
theorem q1062 : (Jvm.Cond.instantiable "PegboardryModel$Way" (3 : Nat)) ∈ WW := inW 1062 (by decide +kernel) rfl
theorem q1063 : (Jvm.Cond.methodLink "PegboardryModel" (52 : Nat) ({ cls := "PegboardryModel$Way", name := "<init>", desc := "(LPegboardryModel$Puzzle;I)V" } : Jvm.MethodName)) ∈ WW := inW 1063 (by decide +kernel) rfl
theorem q1064 : (Jvm.Cond.instanceMethod ({ cls := "PegboardryModel$Way", name := "<init>", desc := "(LPegboardryModel$Puzzle;I)V" } : Jvm.MethodName)) ∈ WW := inW 1064 (by decide +kernel) rfl
theorem q1065 : (Jvm.Cond.code ({ cls := "PegboardryModel$Way", name := "<init>", desc := "(LPegboardryModel$Puzzle;I)V" } : Jvm.MethodName) prog_12_method_1_code (5 : Nat) (Option.none : Option Jvm.ClassFile.FieldType)) ∈ WW := inW 1065 (by decide +kernel) rfl
theorem q1105 : (Jvm.Cond.selects "java/util/ArrayList" ({ cls := "java/util/List", name := "iterator", desc := "()Ljava/util/Iterator;" } : Jvm.MethodName) ({ cls := "java/util/ArrayList", name := "iterator", desc := "()Ljava/util/Iterator;" } : Jvm.MethodName)) ∈ WW := inW 1105 (by decide +kernel) rfl
theorem q1107 : (Jvm.Cond.instanceMethod ({ cls := "java/util/ArrayList", name := "iterator", desc := "()Ljava/util/Iterator;" } : Jvm.MethodName)) ∈ WW := inW 1107 (by decide +kernel) rfl
theorem q1109 : (Jvm.Cond.code ({ cls := "java/util/ArrayList", name := "iterator", desc := "()Ljava/util/Iterator;" } : Jvm.MethodName) prog_36_method_55_code (1 : Nat) (Option.some (Jvm.ClassFile.FieldType.object "java/util/Iterator"))) ∈ WW := inW 1109 (by decide +kernel) rfl
theorem q1110 : (Jvm.Cond.classLink "java/util/ArrayList" (267 : Nat) "java/util/ArrayList$Itr") ∈ WW := inW 1110 (by decide +kernel) rfl
theorem q1111 : (Jvm.Cond.instantiable "java/util/ArrayList$Itr" (4 : Nat)) ∈ WW := inW 1111 (by decide +kernel) rfl
theorem q1112 : (Jvm.Cond.methodLink "java/util/ArrayList" (269 : Nat) ({ cls := "java/util/ArrayList$Itr", name := "<init>", desc := "(Ljava/util/ArrayList;)V" } : Jvm.MethodName)) ∈ WW := inW 1112 (by decide +kernel) rfl
theorem q1113 : (Jvm.Cond.instanceMethod ({ cls := "java/util/ArrayList$Itr", name := "<init>", desc := "(Ljava/util/ArrayList;)V" } : Jvm.MethodName)) ∈ WW := inW 1113 (by decide +kernel) rfl
theorem q1114 : (Jvm.Cond.code ({ cls := "java/util/ArrayList$Itr", name := "<init>", desc := "(Ljava/util/ArrayList;)V" } : Jvm.MethodName) prog_37_method_1_code (2 : Nat) (Option.none : Option Jvm.ClassFile.FieldType)) ∈ WW := inW 1114 (by decide +kernel) rfl
theorem q1115 : (Jvm.Cond.methodLink "java/util/ArrayList$Itr" (7 : Nat) ({ cls := "java/lang/Object", name := "<init>", desc := "()V" } : Jvm.MethodName)) ∈ WW := inW 1115 (by decide +kernel) rfl
theorem q1116 : (Jvm.Cond.fieldLink "java/util/ArrayList$Itr" (25 : Nat) "java/util/ArrayList$Itr" "cursor" "I") ∈ WW := inW 1116 (by decide +kernel) rfl
theorem q1117 : (Jvm.Cond.fieldLink "java/util/ArrayList$Itr" (13 : Nat) "java/util/ArrayList$Itr" "lastRet" "I") ∈ WW := inW 1117 (by decide +kernel) rfl
theorem q1118 : (Jvm.Cond.fieldLink "java/util/ArrayList$Itr" (22 : Nat) "java/util/ArrayList$Itr" "expectedModCount" "I") ∈ WW := inW 1118 (by decide +kernel) rfl
theorem q1119 : (Jvm.Cond.fieldLink "java/util/ArrayList$Itr" (1 : Nat) "java/util/ArrayList$Itr" "this$0" "Ljava/util/ArrayList;") ∈ WW := inW 1119 (by decide +kernel) rfl
theorem q1134 : (Jvm.Cond.selects "java/util/ArrayList$Itr" ({ cls := "java/util/Iterator", name := "hasNext", desc := "()Z" } : Jvm.MethodName) ({ cls := "java/util/ArrayList$Itr", name := "hasNext", desc := "()Z" } : Jvm.MethodName)) ∈ WW := inW 1134 (by decide +kernel) rfl
theorem q1136 : (Jvm.Cond.instanceMethod ({ cls := "java/util/ArrayList$Itr", name := "hasNext", desc := "()Z" } : Jvm.MethodName)) ∈ WW := inW 1136 (by decide +kernel) rfl
theorem q1138 : (Jvm.Cond.code ({ cls := "java/util/ArrayList$Itr", name := "hasNext", desc := "()Z" } : Jvm.MethodName) prog_37_method_2_code (1 : Nat) (Option.some Jvm.ClassFile.FieldType.boolean)) ∈ WW := inW 1138 (by decide +kernel) rfl
theorem q1216 : (Jvm.Cond.methodLink "PegboardryModel" (101 : Nat) ({ cls := "PegboardryModel$Way", name := "state", desc := "()C" } : Jvm.MethodName)) ∈ WW := inW 1216 (by decide +kernel) rfl
theorem q1284 : (Jvm.Cond.methodLink "PegboardryModel" (130 : Nat) ({ cls := "java/util/List", name := "iterator", desc := "()Ljava/util/Iterator;" } : Jvm.MethodName)) ∈ WW := inW 1284 (by decide +kernel) rfl
theorem q1286 : (Jvm.Cond.methodLink "PegboardryModel" (134 : Nat) ({ cls := "java/util/Iterator", name := "hasNext", desc := "()Z" } : Jvm.MethodName)) ∈ WW := inW 1286 (by decide +kernel) rfl
theorem q1299 : (Jvm.Cond.methodLink "PegboardryModel" (152 : Nat) ({ cls := "java/util/List", name := "isEmpty", desc := "()Z" } : Jvm.MethodName)) ∈ WW := inW 1299 (by decide +kernel) rfl
theorem q1302 : (Jvm.Cond.selects "java/util/ArrayList" ({ cls := "java/util/List", name := "isEmpty", desc := "()Z" } : Jvm.MethodName) ({ cls := "java/util/ArrayList", name := "isEmpty", desc := "()Z" } : Jvm.MethodName)) ∈ WW := inW 1302 (by decide +kernel) rfl
theorem q1304 : (Jvm.Cond.instanceMethod ({ cls := "java/util/ArrayList", name := "isEmpty", desc := "()Z" } : Jvm.MethodName)) ∈ WW := inW 1304 (by decide +kernel) rfl
theorem q1306 : (Jvm.Cond.code ({ cls := "java/util/ArrayList", name := "isEmpty", desc := "()Z" } : Jvm.MethodName) prog_36_method_9_code (1 : Nat) (Option.some Jvm.ClassFile.FieldType.boolean)) ∈ WW := inW 1306 (by decide +kernel) rfl
theorem nq1387 : (Jvm.Cond.castable "PegboardryModel$Puzzle" "java/lang/Object") ∈ NWs := inN 1387 (by decide +kernel) rfl
theorem dX10_init_0 : decode cX10_init 0 = .ok (.aload_n 0, 1) := by decide +kernel
theorem dX10_init_1 : decode cX10_init 1 = .ok (.invokespecial 1, 3) := by decide +kernel
theorem dX10_init_4 : decode cX10_init 4 = .ok (.aload_n 0, 1) := by decide +kernel
theorem dX10_init_5 : decode cX10_init 5 = .ok (.new 7, 3) := by decide +kernel
theorem dX10_init_8 : decode cX10_init 8 = .ok (.dup, 1) := by decide +kernel
theorem dX10_init_9 : decode cX10_init 9 = .ok (.invokespecial 9, 3) := by decide +kernel
theorem dX10_init_12 : decode cX10_init 12 = .ok (.putfield 10, 3) := by decide +kernel
theorem dX10_init_15 : decode cX10_init 15 = .ok (.aload_n 0, 1) := by decide +kernel
theorem dX10_init_16 : decode cX10_init 16 = .ok (.bipush 16, 2) := by decide +kernel
theorem dX10_init_18 : decode cX10_init 18 = .ok (.newarray .int, 2) := by decide +kernel
theorem dX10_init_20 : decode cX10_init 20 = .ok (.putfield 16, 3) := by decide +kernel
theorem dX10_init_23 : decode cX10_init 23 = .ok (.return_, 1) := by decide +kernel
theorem dX10_puzzle_0 : decode cX10_puzzle 0 = .ok (.aload_n 0, 1) := by decide +kernel
theorem dX10_puzzle_1 : decode cX10_puzzle 1 = .ok (.aload_n 0, 1) := by decide +kernel
theorem dX10_puzzle_2 : decode cX10_puzzle 2 = .ok (.getfield 10, 3) := by decide +kernel
theorem dX10_puzzle_5 : decode cX10_puzzle 5 = .ok (.invokeinterface 28 1, 5) := by decide +kernel
theorem dX10_puzzle_10 : decode cX10_puzzle 10 = .ok (.bipush 8, 2) := by decide +kernel
theorem dX10_puzzle_12 : decode cX10_puzzle 12 = .ok (.if_icmp .ne 7, 3) := by decide +kernel
theorem dX10_puzzle_19 : decode cX10_puzzle 19 = .ok (.iconst 0, 1) := by decide +kernel
theorem dX10_puzzle_20 : decode cX10_puzzle 20 = .ok (.invokevirtual 38, 3) := by decide +kernel
theorem dX10_puzzle_23 : decode cX10_puzzle 23 = .ok (.ifCond .eq 5, 3) := by decide +kernel
theorem dX10_puzzle_28 : decode cX10_puzzle 28 = .ok (.aload_n 0, 1) := by decide +kernel
theorem dX10_puzzle_29 : decode cX10_puzzle 29 = .ok (.getfield 10, 3) := by decide +kernel
theorem dX10_puzzle_32 : decode cX10_puzzle 32 = .ok (.new 50, 3) := by decide +kernel
theorem dX10_puzzle_35 : decode cX10_puzzle 35 = .ok (.dup, 1) := by decide +kernel
theorem dX10_puzzle_36 : decode cX10_puzzle 36 = .ok (.invokespecial 55, 3) := by decide +kernel
theorem dX10_puzzle_39 : decode cX10_puzzle 39 = .ok (.invokeinterface 56 2, 5) := by decide +kernel
theorem dX10_puzzle_44 : decode cX10_puzzle 44 = .ok (.pop, 1) := by decide +kernel
theorem dX10_puzzle_45 : decode cX10_puzzle 45 = .ok (.aload_n 0, 1) := by decide +kernel
theorem dX10_puzzle_46 : decode cX10_puzzle 46 = .ok (.getfield 10, 3) := by decide +kernel
theorem dX10_puzzle_49 : decode cX10_puzzle 49 = .ok (.invokeinterface 28 1, 5) := by decide +kernel
theorem dX10_puzzle_54 : decode cX10_puzzle 54 = .ok (.iconst 1, 1) := by decide +kernel
theorem dX10_puzzle_55 : decode cX10_puzzle 55 = .ok (.isub, 1) := by decide +kernel
theorem dX10_puzzle_56 : decode cX10_puzzle 56 = .ok (.ireturn, 1) := by decide +kernel
theorem dX10_make_0 : decode cX10_make 0 = .ok (.aload_n 0, 1) := by decide +kernel
theorem dX10_make_1 : decode cX10_make 1 = .ok (.iload_n 1, 1) := by decide +kernel
theorem dX10_make_2 : decode cX10_make 2 = .ok (.iconst 0, 1) := by decide +kernel
theorem dX10_make_3 : decode cX10_make 3 = .ok (.sipush 9999, 3) := by decide +kernel
theorem dX10_make_6 : decode cX10_make 6 = .ok (.invokestatic 24, 3) := by decide +kernel
theorem dX10_make_9 : decode cX10_make 9 = .ok (.ifCond .eq 12, 3) := by decide +kernel
theorem dX10_make_21 : decode cX10_make 21 = .ok (.iconst 1, 1) := by decide +kernel
theorem dX10_make_22 : decode cX10_make 22 = .ok (.goto 22, 3) := by decide +kernel
theorem dX10_make_44 : decode cX10_make 44 = .ok (.invokevirtual 38, 3) := by decide +kernel
theorem dX10_make_47 : decode cX10_make 47 = .ok (.ifCond .eq 5, 3) := by decide +kernel
theorem dX10_make_50 : decode cX10_make 50 = .ok (.iconst 0, 1) := by decide +kernel
theorem dX10_make_51 : decode cX10_make 51 = .ok (.ireturn, 1) := by decide +kernel
theorem dX10_make_12 : decode cX10_make 12 = .ok (.iload_n 2, 1) := by decide +kernel
theorem dX10_make_13 : decode cX10_make 13 = .ok (.iconst 1, 1) := by decide +kernel
theorem dX10_make_14 : decode cX10_make 14 = .ok (.iconst 3, 1) := by decide +kernel
theorem dX10_make_15 : decode cX10_make 15 = .ok (.invokestatic 24, 3) := by decide +kernel
theorem dX10_make_18 : decode cX10_make 18 = .ok (.ifCond .ne 7, 3) := by decide +kernel
theorem dX10_make_25 : decode cX10_make 25 = .ok (.aload_n 0, 1) := by decide +kernel
theorem dX10_make_26 : decode cX10_make 26 = .ok (.getfield 10, 3) := by decide +kernel
theorem dX10_make_29 : decode cX10_make 29 = .ok (.invokeinterface 28 1, 5) := by decide +kernel
theorem dX10_make_34 : decode cX10_make 34 = .ok (.bipush 8, 2) := by decide +kernel
theorem dX10_make_36 : decode cX10_make 36 = .ok (.if_icmp .ne 7, 3) := by decide +kernel
theorem dX10_make_43 : decode cX10_make 43 = .ok (.iconst 0, 1) := by decide +kernel
theorem dX10_make_52 : decode cX10_make 52 = .ok (.new 50, 3) := by decide +kernel
theorem dX10_make_55 : decode cX10_make 55 = .ok (.dup, 1) := by decide +kernel
theorem dX10_make_56 : decode cX10_make 56 = .ok (.invokespecial 55, 3) := by decide +kernel
theorem dX10_make_59 : decode cX10_make 59 = .ok (.astore_n 3, 1) := by decide +kernel
theorem dX10_make_60 : decode cX10_make 60 = .ok (.aload_n 0, 1) := by decide +kernel
theorem dX10_make_61 : decode cX10_make 61 = .ok (.iload_n 1, 1) := by decide +kernel
theorem dX10_make_62 : decode cX10_make 62 = .ok (.i2l, 1) := by decide +kernel
theorem dX10_make_63 : decode cX10_make 63 = .ok (.putfield 82, 3) := by decide +kernel
theorem dX10_make_66 : decode cX10_make 66 = .ok (.iconst 0, 1) := by decide +kernel
theorem dX10_make_67 : decode cX10_make 67 = .ok (.istore 4, 2) := by decide +kernel
theorem dX10_make_69 : decode cX10_make 69 = .ok (.iload 4, 2) := by decide +kernel
theorem dX10_make_71 : decode cX10_make 71 = .ok (.bipush 16, 2) := by decide +kernel
theorem dX10_make_73 : decode cX10_make 73 = .ok (.if_icmp .ge 29, 3) := by decide +kernel
theorem dX10_make_102 : decode cX10_make 102 = .ok (.iconst 3, 1) := by decide +kernel
theorem dX10_make_103 : decode cX10_make 103 = .ok (.istore 4, 2) := by decide +kernel
theorem dX10_make_105 : decode cX10_make 105 = .ok (.iload 4, 2) := by decide +kernel
theorem dX10_make_107 : decode cX10_make 107 = .ok (.ifCond .le 24, 3) := by decide +kernel
theorem dX10_make_131 : decode cX10_make 131 = .ok (.iconst 3, 1) := by decide +kernel
theorem dX10_make_132 : decode cX10_make 132 = .ok (.istore 4, 2) := by decide +kernel
theorem dX10_make_134 : decode cX10_make 134 = .ok (.iload 4, 2) := by decide +kernel
theorem dX10_make_136 : decode cX10_make 136 = .ok (.ifCond .le 24, 3) := by decide +kernel
theorem dX10_make_160 : decode cX10_make 160 = .ok (.iconst 4, 1) := by decide +kernel
theorem dX10_make_161 : decode cX10_make 161 = .ok (.newarray .int, 2) := by decide +kernel
theorem dX10_make_163 : decode cX10_make 163 = .ok (.dup, 1) := by decide +kernel
theorem dX10_make_164 : decode cX10_make 164 = .ok (.iconst 0, 1) := by decide +kernel
theorem dX10_make_165 : decode cX10_make 165 = .ok (.iconst 1, 1) := by decide +kernel
theorem dX10_make_166 : decode cX10_make 166 = .ok (.iastore, 1) := by decide +kernel
theorem dX10_make_167 : decode cX10_make 167 = .ok (.dup, 1) := by decide +kernel
theorem dX10_make_168 : decode cX10_make 168 = .ok (.iconst 1, 1) := by decide +kernel
theorem dX10_make_169 : decode cX10_make 169 = .ok (.iconst 2, 1) := by decide +kernel
theorem dX10_make_170 : decode cX10_make 170 = .ok (.iastore, 1) := by decide +kernel
theorem dX10_make_171 : decode cX10_make 171 = .ok (.dup, 1) := by decide +kernel
theorem dX10_make_172 : decode cX10_make 172 = .ok (.iconst 2, 1) := by decide +kernel
theorem dX10_make_173 : decode cX10_make 173 = .ok (.iconst 3, 1) := by decide +kernel
theorem dX10_make_174 : decode cX10_make 174 = .ok (.iastore, 1) := by decide +kernel
theorem dX10_make_175 : decode cX10_make 175 = .ok (.dup, 1) := by decide +kernel
theorem dX10_make_176 : decode cX10_make 176 = .ok (.iconst 3, 1) := by decide +kernel
theorem dX10_make_177 : decode cX10_make 177 = .ok (.iconst 4, 1) := by decide +kernel
theorem dX10_make_178 : decode cX10_make 178 = .ok (.iastore, 1) := by decide +kernel
theorem dX10_make_179 : decode cX10_make 179 = .ok (.astore 4, 2) := by decide +kernel
theorem dX10_make_181 : decode cX10_make 181 = .ok (.iconst 3, 1) := by decide +kernel
theorem dX10_make_182 : decode cX10_make 182 = .ok (.istore 5, 2) := by decide +kernel
theorem dX10_make_184 : decode cX10_make 184 = .ok (.iload 5, 2) := by decide +kernel
theorem dX10_make_186 : decode cX10_make 186 = .ok (.ifCond .le 43, 3) := by decide +kernel
theorem dX10_make_229 : decode cX10_make 229 = .ok (.iconst 0, 1) := by decide +kernel
theorem dX10_make_230 : decode cX10_make 230 = .ok (.istore 5, 2) := by decide +kernel
theorem dX10_make_232 : decode cX10_make 232 = .ok (.iload 5, 2) := by decide +kernel
theorem dX10_make_234 : decode cX10_make 234 = .ok (.bipush 16, 2) := by decide +kernel
theorem dX10_make_236 : decode cX10_make 236 = .ok (.if_icmp .ge 28, 3) := by decide +kernel
theorem dX10_make_264 : decode cX10_make 264 = .ok (.iconst 0, 1) := by decide +kernel
theorem dX10_make_265 : decode cX10_make 265 = .ok (.istore 5, 2) := by decide +kernel
theorem dX10_make_267 : decode cX10_make 267 = .ok (.iload 5, 2) := by decide +kernel
theorem dX10_make_269 : decode cX10_make 269 = .ok (.bipush 16, 2) := by decide +kernel
theorem dX10_make_271 : decode cX10_make 271 = .ok (.if_icmp .ge 60, 3) := by decide +kernel
theorem dX10_make_331 : decode cX10_make 331 = .ok (.aload_n 0, 1) := by decide +kernel
theorem dX10_make_332 : decode cX10_make 332 = .ok (.getfield 10, 3) := by decide +kernel
theorem dX10_make_335 : decode cX10_make 335 = .ok (.aload_n 3, 1) := by decide +kernel
theorem dX10_make_336 : decode cX10_make 336 = .ok (.invokeinterface 56 2, 5) := by decide +kernel
theorem dX10_make_341 : decode cX10_make 341 = .ok (.pop, 1) := by decide +kernel
theorem dX10_make_342 : decode cX10_make 342 = .ok (.aload_n 0, 1) := by decide +kernel
theorem dX10_make_343 : decode cX10_make 343 = .ok (.getfield 10, 3) := by decide +kernel
theorem dX10_make_346 : decode cX10_make 346 = .ok (.invokeinterface 28 1, 5) := by decide +kernel
theorem dX10_make_351 : decode cX10_make 351 = .ok (.iconst 1, 1) := by decide +kernel
theorem dX10_make_352 : decode cX10_make 352 = .ok (.isub, 1) := by decide +kernel
theorem dX10_make_353 : decode cX10_make 353 = .ok (.ireturn, 1) := by decide +kernel
theorem dX10_make_274 : decode cX10_make 274 = .ok (.aload_n 0, 1) := by decide +kernel
theorem dX10_make_275 : decode cX10_make 275 = .ok (.bipush 16, 2) := by decide +kernel
theorem dX10_make_277 : decode cX10_make 277 = .ok (.invokevirtual 94, 3) := by decide +kernel
theorem dX10_make_280 : decode cX10_make 280 = .ok (.istore 6, 2) := by decide +kernel
theorem dX10_make_282 : decode cX10_make 282 = .ok (.aload_n 3, 1) := by decide +kernel
theorem dX10_make_283 : decode cX10_make 283 = .ok (.getfield 64, 3) := by decide +kernel
theorem dX10_make_286 : decode cX10_make 286 = .ok (.iload 6, 2) := by decide +kernel
theorem dX10_make_288 : decode cX10_make 288 = .ok (.iaload, 1) := by decide +kernel
theorem dX10_make_289 : decode cX10_make 289 = .ok (.istore 7, 2) := by decide +kernel
theorem dX10_make_291 : decode cX10_make 291 = .ok (.aload_n 3, 1) := by decide +kernel
theorem dX10_make_292 : decode cX10_make 292 = .ok (.getfield 64, 3) := by decide +kernel
theorem dX10_make_295 : decode cX10_make 295 = .ok (.iload 6, 2) := by decide +kernel
theorem dX10_make_297 : decode cX10_make 297 = .ok (.iconst 0, 1) := by decide +kernel
theorem dX10_make_298 : decode cX10_make 298 = .ok (.iastore, 1) := by decide +kernel
theorem dX10_make_299 : decode cX10_make 299 = .ok (.new 44, 3) := by decide +kernel
theorem dX10_make_302 : decode cX10_make 302 = .ok (.dup, 1) := by decide +kernel
theorem dX10_make_303 : decode cX10_make 303 = .ok (.aload_n 3, 1) := by decide +kernel
theorem dX10_make_304 : decode cX10_make 304 = .ok (.iload_n 2, 1) := by decide +kernel
theorem dX10_make_305 : decode cX10_make 305 = .ok (.invokespecial 52, 3) := by decide +kernel
theorem dX10_make_308 : decode cX10_make 308 = .ok (.invokevirtual 101, 3) := by decide +kernel
theorem dX10_make_311 : decode cX10_make 311 = .ok (.bipush 115, 2) := by decide +kernel
theorem dX10_make_313 : decode cX10_make 313 = .ok (.if_icmp .eq 12, 3) := by decide +kernel
theorem dX10_make_325 : decode cX10_make 325 = .ok (.iinc 5 1, 3) := by decide +kernel
theorem dX10_make_328 : decode cX10_make 328 = .ok (.goto (-61), 3) := by decide +kernel
theorem dX10_make_316 : decode cX10_make 316 = .ok (.aload_n 3, 1) := by decide +kernel
theorem dX10_make_317 : decode cX10_make 317 = .ok (.getfield 64, 3) := by decide +kernel
theorem dX10_make_320 : decode cX10_make 320 = .ok (.iload 6, 2) := by decide +kernel
theorem dX10_make_322 : decode cX10_make 322 = .ok (.iload 7, 2) := by decide +kernel
theorem dX10_make_324 : decode cX10_make 324 = .ok (.iastore, 1) := by decide +kernel
theorem dX10_make_239 : decode cX10_make 239 = .ok (.aload_n 3, 1) := by decide +kernel
theorem dX10_make_240 : decode cX10_make 240 = .ok (.getfield 64, 3) := by decide +kernel
theorem dX10_make_243 : decode cX10_make 243 = .ok (.iload 5, 2) := by decide +kernel
theorem dX10_make_245 : decode cX10_make 245 = .ok (.aload 4, 2) := by decide +kernel
theorem dX10_make_247 : decode cX10_make 247 = .ok (.aload_n 3, 1) := by decide +kernel
theorem dX10_make_248 : decode cX10_make 248 = .ok (.getfield 64, 3) := by decide +kernel
theorem dX10_make_251 : decode cX10_make 251 = .ok (.iload 5, 2) := by decide +kernel
theorem dX10_make_253 : decode cX10_make 253 = .ok (.iaload, 1) := by decide +kernel
theorem dX10_make_254 : decode cX10_make 254 = .ok (.iconst 1, 1) := by decide +kernel
theorem dX10_make_255 : decode cX10_make 255 = .ok (.isub, 1) := by decide +kernel
theorem dX10_make_256 : decode cX10_make 256 = .ok (.iaload, 1) := by decide +kernel
theorem dX10_make_257 : decode cX10_make 257 = .ok (.iastore, 1) := by decide +kernel
theorem dX10_make_258 : decode cX10_make 258 = .ok (.iinc 5 1, 3) := by decide +kernel
theorem dX10_make_261 : decode cX10_make 261 = .ok (.goto (-29), 3) := by decide +kernel
theorem dX10_make_189 : decode cX10_make 189 = .ok (.aload_n 0, 1) := by decide +kernel
theorem dX10_make_190 : decode cX10_make 190 = .ok (.iload 5, 2) := by decide +kernel
theorem dX10_make_192 : decode cX10_make 192 = .ok (.iconst 1, 1) := by decide +kernel
theorem dX10_make_193 : decode cX10_make 193 = .ok (.iadd, 1) := by decide +kernel
theorem dX10_make_194 : decode cX10_make 194 = .ok (.invokevirtual 94, 3) := by decide +kernel
theorem dX10_make_197 : decode cX10_make 197 = .ok (.istore 6, 2) := by decide +kernel
theorem dX10_make_199 : decode cX10_make 199 = .ok (.aload 4, 2) := by decide +kernel
theorem dX10_make_201 : decode cX10_make 201 = .ok (.iload 5, 2) := by decide +kernel
theorem dX10_make_203 : decode cX10_make 203 = .ok (.iaload, 1) := by decide +kernel
theorem dX10_make_204 : decode cX10_make 204 = .ok (.istore 7, 2) := by decide +kernel
theorem dX10_make_206 : decode cX10_make 206 = .ok (.aload 4, 2) := by decide +kernel
theorem dX10_make_208 : decode cX10_make 208 = .ok (.iload 5, 2) := by decide +kernel
theorem dX10_make_210 : decode cX10_make 210 = .ok (.aload 4, 2) := by decide +kernel
theorem dX10_make_212 : decode cX10_make 212 = .ok (.iload 6, 2) := by decide +kernel
theorem dX10_make_214 : decode cX10_make 214 = .ok (.iaload, 1) := by decide +kernel
theorem dX10_make_215 : decode cX10_make 215 = .ok (.iastore, 1) := by decide +kernel
theorem dX10_make_216 : decode cX10_make 216 = .ok (.aload 4, 2) := by decide +kernel
theorem dX10_make_218 : decode cX10_make 218 = .ok (.iload 6, 2) := by decide +kernel
theorem dX10_make_220 : decode cX10_make 220 = .ok (.iload 7, 2) := by decide +kernel
theorem dX10_make_222 : decode cX10_make 222 = .ok (.iastore, 1) := by decide +kernel
theorem dX10_make_223 : decode cX10_make 223 = .ok (.iinc 5 (-1), 3) := by decide +kernel
theorem dX10_make_226 : decode cX10_make 226 = .ok (.goto (-42), 3) := by decide +kernel
theorem dX10_make_139 : decode cX10_make 139 = .ok (.aload_n 3, 1) := by decide +kernel
theorem dX10_make_140 : decode cX10_make 140 = .ok (.iconst 0, 1) := by decide +kernel
theorem dX10_make_141 : decode cX10_make 141 = .ok (.iload 4, 2) := by decide +kernel
theorem dX10_make_143 : decode cX10_make 143 = .ok (.aload_n 0, 1) := by decide +kernel
theorem dX10_make_144 : decode cX10_make 144 = .ok (.iload 4, 2) := by decide +kernel
theorem dX10_make_146 : decode cX10_make 146 = .ok (.iconst 1, 1) := by decide +kernel
theorem dX10_make_147 : decode cX10_make 147 = .ok (.iadd, 1) := by decide +kernel
theorem dX10_make_148 : decode cX10_make 148 = .ok (.invokevirtual 94, 3) := by decide +kernel
theorem dX10_make_151 : decode cX10_make 151 = .ok (.invokestatic 97, 3) := by decide +kernel
theorem dX10_make_154 : decode cX10_make 154 = .ok (.iinc 4 (-1), 3) := by decide +kernel
theorem dX10_make_157 : decode cX10_make 157 = .ok (.goto (-23), 3) := by decide +kernel
theorem dX10_make_110 : decode cX10_make 110 = .ok (.aload_n 3, 1) := by decide +kernel
theorem dX10_make_111 : decode cX10_make 111 = .ok (.iconst 1, 1) := by decide +kernel
theorem dX10_make_112 : decode cX10_make 112 = .ok (.iload 4, 2) := by decide +kernel
theorem dX10_make_114 : decode cX10_make 114 = .ok (.aload_n 0, 1) := by decide +kernel
theorem dX10_make_115 : decode cX10_make 115 = .ok (.iload 4, 2) := by decide +kernel
theorem dX10_make_117 : decode cX10_make 117 = .ok (.iconst 1, 1) := by decide +kernel
theorem dX10_make_118 : decode cX10_make 118 = .ok (.iadd, 1) := by decide +kernel
theorem dX10_make_119 : decode cX10_make 119 = .ok (.invokevirtual 94, 3) := by decide +kernel
theorem dX10_make_122 : decode cX10_make 122 = .ok (.invokestatic 97, 3) := by decide +kernel
theorem dX10_make_125 : decode cX10_make 125 = .ok (.iinc 4 (-1), 3) := by decide +kernel
theorem dX10_make_128 : decode cX10_make 128 = .ok (.goto (-23), 3) := by decide +kernel
theorem dX10_make_76 : decode cX10_make 76 = .ok (.aload_n 3, 1) := by decide +kernel
theorem dX10_make_77 : decode cX10_make 77 = .ok (.getfield 64, 3) := by decide +kernel
theorem dX10_make_80 : decode cX10_make 80 = .ok (.iload 4, 2) := by decide +kernel
theorem dX10_make_82 : decode cX10_make 82 = .ok (.iconst 1, 1) := by decide +kernel
theorem dX10_make_83 : decode cX10_make 83 = .ok (.iload 4, 2) := by decide +kernel
theorem dX10_make_85 : decode cX10_make 85 = .ok (.iconst 4, 1) := by decide +kernel
theorem dX10_make_86 : decode cX10_make 86 = .ok (.idiv, 1) := by decide +kernel
theorem dX10_make_87 : decode cX10_make 87 = .ok (.iload 4, 2) := by decide +kernel
theorem dX10_make_89 : decode cX10_make 89 = .ok (.iconst 4, 1) := by decide +kernel
theorem dX10_make_90 : decode cX10_make 90 = .ok (.irem, 1) := by decide +kernel
theorem dX10_make_91 : decode cX10_make 91 = .ok (.iadd, 1) := by decide +kernel
theorem dX10_make_92 : decode cX10_make 92 = .ok (.iconst 4, 1) := by decide +kernel
theorem dX10_make_93 : decode cX10_make 93 = .ok (.irem, 1) := by decide +kernel
theorem dX10_make_94 : decode cX10_make 94 = .ok (.iadd, 1) := by decide +kernel
theorem dX10_make_95 : decode cX10_make 95 = .ok (.iastore, 1) := by decide +kernel
theorem dX10_make_96 : decode cX10_make 96 = .ok (.iinc 4 1, 3) := by decide +kernel
theorem dX10_make_99 : decode cX10_make 99 = .ok (.goto (-30), 3) := by decide +kernel
theorem dJx35411_init_45d68_0 : decode cJx35411_init_45d68 0 = .ok (.aload_n 0, 1) := by decide +kernel
theorem dJx35411_init_45d68_1 : decode cJx35411_init_45d68 1 = .ok (.aload_n 1, 1) := by decide +kernel
theorem dJx35411_init_45d68_2 : decode cJx35411_init_45d68 2 = .ok (.putfield 1, 3) := by decide +kernel
theorem dJx35411_init_45d68_5 : decode cJx35411_init_45d68 5 = .ok (.aload_n 0, 1) := by decide +kernel
theorem dJx35411_init_45d68_6 : decode cJx35411_init_45d68 6 = .ok (.invokespecial 7, 3) := by decide +kernel
theorem dJx35411_init_45d68_9 : decode cJx35411_init_45d68 9 = .ok (.aload_n 0, 1) := by decide +kernel
theorem dJx35411_init_45d68_10 : decode cJx35411_init_45d68 10 = .ok (.iconst (-1), 1) := by decide +kernel
theorem dJx35411_init_45d68_11 : decode cJx35411_init_45d68 11 = .ok (.putfield 13, 3) := by decide +kernel
theorem dJx35411_init_45d68_14 : decode cJx35411_init_45d68 14 = .ok (.aload_n 0, 1) := by decide +kernel
theorem dJx35411_init_45d68_15 : decode cJx35411_init_45d68 15 = .ok (.aload_n 0, 1) := by decide +kernel
theorem dJx35411_init_45d68_16 : decode cJx35411_init_45d68 16 = .ok (.getfield 1, 3) := by decide +kernel
theorem dJx35411_init_45d68_19 : decode cJx35411_init_45d68 19 = .ok (.getfield 17, 3) := by decide +kernel
theorem dJx35411_init_45d68_22 : decode cJx35411_init_45d68 22 = .ok (.putfield 22, 3) := by decide +kernel
theorem dJx35411_init_45d68_25 : decode cJx35411_init_45d68 25 = .ok (.return_, 1) := by decide +kernel
theorem dJx4a65c_iterator_32c93_0 : decode cJx4a65c_iterator_32c93 0 = .ok (.new 267, 3) := by decide +kernel
theorem dJx4a65c_iterator_32c93_3 : decode cJx4a65c_iterator_32c93 3 = .ok (.dup, 1) := by decide +kernel
theorem dJx4a65c_iterator_32c93_4 : decode cJx4a65c_iterator_32c93 4 = .ok (.aload_n 0, 1) := by decide +kernel
theorem dJx4a65c_iterator_32c93_5 : decode cJx4a65c_iterator_32c93 5 = .ok (.invokespecial 269, 3) := by decide +kernel
theorem dJx4a65c_iterator_32c93_8 : decode cJx4a65c_iterator_32c93 8 = .ok (.areturn, 1) := by decide +kernel
theorem dJx35411_hasNext_aae02_0 : decode cJx35411_hasNext_aae02 0 = .ok (.aload_n 0, 1) := by decide +kernel
theorem dJx35411_hasNext_aae02_1 : decode cJx35411_hasNext_aae02 1 = .ok (.getfield 25, 3) := by decide +kernel
theorem dJx35411_hasNext_aae02_4 : decode cJx35411_hasNext_aae02 4 = .ok (.aload_n 0, 1) := by decide +kernel
theorem dJx35411_hasNext_aae02_5 : decode cJx35411_hasNext_aae02 5 = .ok (.getfield 1, 3) := by decide +kernel
theorem dJx35411_hasNext_aae02_8 : decode cJx35411_hasNext_aae02 8 = .ok (.getfield 28, 3) := by decide +kernel
theorem dJx35411_hasNext_aae02_11 : decode cJx35411_hasNext_aae02 11 = .ok (.if_icmp .eq 7, 3) := by decide +kernel
theorem dJx35411_hasNext_aae02_18 : decode cJx35411_hasNext_aae02 18 = .ok (.iconst 0, 1) := by decide +kernel
theorem dJx35411_hasNext_aae02_19 : decode cJx35411_hasNext_aae02 19 = .ok (.ireturn, 1) := by decide +kernel
theorem dJx4a65c_isEmpty_aae02_0 : decode cJx4a65c_isEmpty_aae02 0 = .ok (.aload_n 0, 1) := by decide +kernel
theorem dJx4a65c_isEmpty_aae02_1 : decode cJx4a65c_isEmpty_aae02 1 = .ok (.getfield 48, 3) := by decide +kernel
theorem dJx4a65c_isEmpty_aae02_4 : decode cJx4a65c_isEmpty_aae02 4 = .ok (.ifCond .ne 7, 3) := by decide +kernel
theorem dJx4a65c_isEmpty_aae02_7 : decode cJx4a65c_isEmpty_aae02 7 = .ok (.iconst 1, 1) := by decide +kernel
theorem dJx4a65c_isEmpty_aae02_8 : decode cJx4a65c_isEmpty_aae02 8 = .ok (.goto 4, 3) := by decide +kernel
theorem dJx4a65c_isEmpty_aae02_12 : decode cJx4a65c_isEmpty_aae02 12 = .ok (.ireturn, 1) := by decide +kernel
theorem dX10_checksum_0 : decode cX10_checksum 0 = .ok (.aload_n 0, 1) := by decide +kernel
theorem dX10_checksum_1 : decode cX10_checksum 1 = .ok (.iconst 0, 1) := by decide +kernel
theorem dX10_checksum_2 : decode cX10_checksum 2 = .ok (.putfield 20, 3) := by decide +kernel
theorem dX10_checksum_5 : decode cX10_checksum 5 = .ok (.lconst 0, 1) := by decide +kernel
theorem dX10_checksum_6 : decode cX10_checksum 6 = .ok (.lstore_n 1, 1) := by decide +kernel
theorem dX10_checksum_7 : decode cX10_checksum 7 = .ok (.aload_n 0, 1) := by decide +kernel
theorem dX10_checksum_8 : decode cX10_checksum 8 = .ok (.getfield 10, 3) := by decide +kernel
theorem dX10_checksum_11 : decode cX10_checksum 11 = .ok (.invokeinterface 130 1, 5) := by decide +kernel
theorem dX10_checksum_16 : decode cX10_checksum 16 = .ok (.astore_n 3, 1) := by decide +kernel
theorem dX10_checksum_17 : decode cX10_checksum 17 = .ok (.aload_n 3, 1) := by decide +kernel
theorem dX10_checksum_18 : decode cX10_checksum 18 = .ok (.invokeinterface 134 1, 5) := by decide +kernel
theorem dX10_checksum_23 : decode cX10_checksum 23 = .ok (.ifCond .eq 63, 3) := by decide +kernel
theorem dX10_checksum_86 : decode cX10_checksum 86 = .ok (.lload_n 1, 1) := by decide +kernel
theorem dX10_checksum_87 : decode cX10_checksum 87 = .ok (.lreturn, 1) := by decide +kernel
theorem dX10_solvedShare_0 : decode cX10_solvedShare 0 = .ok (.iconst 0, 1) := by decide +kernel
theorem dX10_solvedShare_1 : decode cX10_solvedShare 1 = .ok (.istore_n 1, 1) := by decide +kernel
theorem dX10_solvedShare_2 : decode cX10_solvedShare 2 = .ok (.iconst 0, 1) := by decide +kernel
theorem dX10_solvedShare_3 : decode cX10_solvedShare 3 = .ok (.istore_n 2, 1) := by decide +kernel
theorem dX10_solvedShare_4 : decode cX10_solvedShare 4 = .ok (.iload_n 2, 1) := by decide +kernel
theorem dX10_solvedShare_5 : decode cX10_solvedShare 5 = .ok (.aload_n 0, 1) := by decide +kernel
theorem dX10_solvedShare_6 : decode cX10_solvedShare 6 = .ok (.getfield 10, 3) := by decide +kernel
theorem dX10_solvedShare_9 : decode cX10_solvedShare 9 = .ok (.invokeinterface 28 1, 5) := by decide +kernel
theorem dX10_solvedShare_14 : decode cX10_solvedShare 14 = .ok (.if_icmp .ge 30, 3) := by decide +kernel
theorem dX10_solvedShare_44 : decode cX10_solvedShare 44 = .ok (.aload_n 0, 1) := by decide +kernel
theorem dX10_solvedShare_45 : decode cX10_solvedShare 45 = .ok (.aload_n 0, 1) := by decide +kernel
theorem dX10_solvedShare_46 : decode cX10_solvedShare 46 = .ok (.getfield 10, 3) := by decide +kernel
theorem dX10_solvedShare_49 : decode cX10_solvedShare 49 = .ok (.invokeinterface 152 1, 5) := by decide +kernel
theorem dX10_solvedShare_54 : decode cX10_solvedShare 54 = .ok (.ifCond .eq 7, 3) := by decide +kernel
theorem dX10_solvedShare_57 : decode cX10_solvedShare 57 = .ok (.iconst 1, 1) := by decide +kernel
theorem dX10_solvedShare_58 : decode cX10_solvedShare 58 = .ok (.goto 4, 3) := by decide +kernel
theorem dX10_solvedShare_62 : decode cX10_solvedShare 62 = .ok (.invokevirtual 38, 3) := by decide +kernel
theorem dX10_solvedShare_65 : decode cX10_solvedShare 65 = .ok (.ifCond .eq 7, 3) := by decide +kernel
theorem dX10_solvedShare_68 : decode cX10_solvedShare 68 = .ok (.fconst 0, 1) := by decide +kernel
theorem dX10_solvedShare_69 : decode cX10_solvedShare 69 = .ok (.goto 16, 3) := by decide +kernel
theorem dX10_solvedShare_85 : decode cX10_solvedShare 85 = .ok (.freturn, 1) := by decide +kernel
theorem dX10_meanGivens_0 : decode cX10_meanGivens 0 = .ok (.iconst 0, 1) := by decide +kernel
theorem dX10_meanGivens_1 : decode cX10_meanGivens 1 = .ok (.istore_n 1, 1) := by decide +kernel
theorem dX10_meanGivens_2 : decode cX10_meanGivens 2 = .ok (.aload_n 0, 1) := by decide +kernel
theorem dX10_meanGivens_3 : decode cX10_meanGivens 3 = .ok (.getfield 10, 3) := by decide +kernel
theorem dX10_meanGivens_6 : decode cX10_meanGivens 6 = .ok (.invokeinterface 130 1, 5) := by decide +kernel
theorem dX10_meanGivens_11 : decode cX10_meanGivens 11 = .ok (.astore_n 2, 1) := by decide +kernel
theorem dX10_meanGivens_12 : decode cX10_meanGivens 12 = .ok (.aload_n 2, 1) := by decide +kernel
theorem dX10_meanGivens_13 : decode cX10_meanGivens 13 = .ok (.invokeinterface 134 1, 5) := by decide +kernel
theorem dX10_meanGivens_18 : decode cX10_meanGivens 18 = .ok (.ifCond .eq 26, 3) := by decide +kernel
theorem dX10_meanGivens_44 : decode cX10_meanGivens 44 = .ok (.aload_n 0, 1) := by decide +kernel
theorem dX10_meanGivens_45 : decode cX10_meanGivens 45 = .ok (.aload_n 0, 1) := by decide +kernel
theorem dX10_meanGivens_46 : decode cX10_meanGivens 46 = .ok (.getfield 10, 3) := by decide +kernel
theorem dX10_meanGivens_49 : decode cX10_meanGivens 49 = .ok (.invokeinterface 152 1, 5) := by decide +kernel
theorem dX10_meanGivens_54 : decode cX10_meanGivens 54 = .ok (.ifCond .eq 7, 3) := by decide +kernel
theorem dX10_meanGivens_57 : decode cX10_meanGivens 57 = .ok (.iconst 1, 1) := by decide +kernel
theorem dX10_meanGivens_58 : decode cX10_meanGivens 58 = .ok (.goto 4, 3) := by decide +kernel
theorem dX10_meanGivens_62 : decode cX10_meanGivens 62 = .ok (.invokevirtual 38, 3) := by decide +kernel
theorem dX10_meanGivens_65 : decode cX10_meanGivens 65 = .ok (.ifCond .eq 7, 3) := by decide +kernel
theorem dX10_meanGivens_68 : decode cX10_meanGivens 68 = .ok (.dconst 0, 1) := by decide +kernel
theorem dX10_meanGivens_69 : decode cX10_meanGivens 69 = .ok (.goto 16, 3) := by decide +kernel
theorem dX10_meanGivens_85 : decode cX10_meanGivens 85 = .ok (.dreturn, 1) := by decide +kernel
def Mf (l : Launch) (G : GG) (y : MethodName) (cc : ByteArray) (n : Nat) (rm : Room) (As : List Value) (ws : va_W) {S : Type} (post : UInt32 → S → Prop) (w1 : S → va_W) : Prop :=
  ∀ sz : Nat, Met l y (.code y cc n (some .float) :: WW) rm (va_Pc As (PW G ws sz)) (va_Qf post (fun u t => QW G (va_A ws sz) (w1 u) t) (va_A ws sz)) rm.cells rm.slots (va_A ws sz)
def Md (l : Launch) (G : GG) (y : MethodName) (cc : ByteArray) (n : Nat) (rm : Room) (As : List Value) (ws : va_W) {S : Type} (post : UInt64 → S → Prop) (w1 : S → va_W) : Prop :=
  ∀ sz : Nat, Met l y (.code y cc n (some .double) :: WW) rm (va_Pc As (PW G ws sz)) (va_Qd post (fun u t => QW G (va_A ws sz) (w1 u) t) (va_A ws sz)) rm.cells rm.slots (va_A ws sz)
set_option maxHeartbeats 4000000 in
set_option maxRecDepth 100000 in
theorem c_X10_init (l : Launch) (G : GG) (mo : Nat) : Mv l G yX10_init cX10_init 1 ({ frames := 4, cells := 2, slots := 19, locals := 80 } : Room) [.ref mo] [(mo, .inr (15, [.int (nI 0), .null, .long (lN 0), .null, .null, .int (nI 0)]))] (fun (u : Nat × Nat × (Nat → Int32)) => True) (fun (u : Nat × Nat × (Nat → Int32)) => [(mo, .inr (15, [.int (nI 0), .ref u.1, .long (lN 0), .null, .ref u.2.1, .int (nI 0)])), (u.1, .inr (4, [.int (nI 0), .ref (gE G), .int (nI 0)])), (u.2.1, .inl (gyI G, 16, .inl u.2.2))]) := by
  intro sz
  refine Met.ofW (cc := cX10_init) (maxL := 1) (ret := none) (by decide) rfl ?_
  intro p e s m args below meth c s₁ B9 hml hv
  obtain ⟨rfl, hsz, hP, hK, hD0, hE⟩ := hv
  have hx := B9.exec
  have hb := B9.bytes
  have hr := B9.returns
  have hts : ∀ w ∈ WW, w.before ([.ref mo] : List Value).toArray s = true := fun w h => atoms_spec (ws := .code yX10_init cX10_init 1 none :: WW) B9.pre w (List.mem_cons_of_mem _ h)
  have hown : s.vm.findClass RX10 = some m.cls := findClass_of_methodNamed B9.named
  have hin : meth.name = "<init>" := (name_of_methodNamed B9.named B9.method).1
  subst hsz
  have hD := hD0.self (sz := s.heap.size)
  generalize hAe : va_A [(mo, .inr (15, [.int (nI 0), .null, .long (lN 0), .null, .null, .int (nI 0)]))] s.heap.size = A at hD hE ⊢
  have hA : ∀ q : Nat, s.heap.size ≤ q → A q := fun q h => by rw [← hAe]; exact Or.inr h
  have hl := lv_entry ([.ref mo]) (n := 1) (Nat.le_of_ble_eq_true rfl)
  rw [lg_entry_eq]
  generalize (lg_sl ([.ref mo]) ++ List.replicate (1 - (lg_sl ([.ref mo])).length) Slot.unset).toArray = ls at hl ⊢
  have hl : lv_has ls 1 [(0, .ref mo)] := hl
  refine qgen (fun Q hQ => ?_)
  refine hgen (fun H locs hP hD hS => ?_) hP hD
  refine lv_aload_n hx hb dX10_init_0 rfl (lv_at hl 0 rfl) ?_
  refine W.objInit hx hb hown (hts _ q924) (hts _ q86) (hts _ q87) rfl (by rw [hml]; exact hl.1) rfl dX10_init_1 (Nat.le_of_ble_eq_true rfl) (Nat.le_of_ble_eq_true rfl) ?_
  refine W.eq (g2 := F0 m 4 ls []) rfl ?_
  refine lv_aload_n hx hb dX10_init_4 rfl (lv_at hl 0 rfl) ?_
  refine va_new (D := gD G) (ci := 4) (fs := [.int 0, .null, .int 0]) (C := RJx4a65c) (T := TJx4a65c) (N := 3) hx hb hts fwJx4a65c tyJx4a65c tyJx4a65c_ok hown (hts _ q925) (hts _ q89) (hts _ q48) hK hP hD hS hA rfl (fun j hj => by rcases (show j = 0 ∨ j = 1 ∨ j = 2 by omega) with rfl | rfl | rfl <;> rfl) (Nat.le_of_ble_eq_true rfl) (Nat.le_of_ble_eq_true rfl) dX10_init_5 (fun q_1 H hP hD hS => ?_)
  have hP : va_P (gD G) vwCl [(mo, .inr (15, [.int (nI 0), .null, .long (lN 0), .null, .null, .int (nI 0)])), (q_1, .inr (4, [.int (nI 0), .null, .int (nI 0)]))] H := hP
  have hD : va_D A [(mo, .inr (15, [.int (nI 0), .null, .long (lN 0), .null, .null, .int (nI 0)])), (q_1, .inr (4, [.int (nI 0), .null, .int (nI 0)]))] := hD
  refine lv_dup hx hb dX10_init_8 rfl ?_
  refine fin_v hP hD hS hA [1] [0] (wr := [(mo, .inr (15, [.int (nI 0), .null, .long (lN 0), .null, .null, .int (nI 0)]))]) rfl rfl (by decide) (by decide) (va_runI (As := []) (rest := [.ref q_1, .ref mo]) ⟨hx, hb, hml, hown, hts⟩ (c_Jx4a65c_init_da8c8 l G q_1 H.size) (cwI 0 hts (gI q92) rfl rfl rfl (hts _ q48) (hts _ q926) (hts _ q91) rfl (by decide +kernel) ⟨Nat.le_of_ble_eq_true rfl, Nat.le_of_ble_eq_true rfl⟩) (preS hK hE hP hD hS hA [1] rfl (by decide)) rfl rfl hl.1 rfl (lv_room (Nat.le_of_ble_eq_true rfl)) dX10_init_9 ⟨Nat.le_of_ble_eq_true rfl, Nat.le_of_ble_eq_true rfl⟩) (fun u9 hw_2 H locs hP hD hS => ?_)
  have hP : va_P (gD G) vwCl [(mo, .inr (15, [.int (nI 0), .null, .long (lN 0), .null, .null, .int (nI 0)])), (q_1, .inr (4, [.int (nI 0), .ref (gE G), .int (nI 0)]))] H := hP
  have hD : va_D A [(mo, .inr (15, [.int (nI 0), .null, .long (lN 0), .null, .null, .int (nI 0)])), (q_1, .inr (4, [.int (nI 0), .ref (gE G), .int (nI 0)]))] := hD
  refine va_putF (D := gD G) (ci := 15) (v := .ref q_1) (ty := .object "java/util/List") (C := RX10) (T := TX10) (N := 6) hx hb hts fwX10 tyX10 tyX10_ok nmX10 hown hK hP hD hS 0 rfl rfl 1 (by decide) (hts _ q928) (fun _ h9 => h9) rfl hin rfl (by decide +kernel) rfl rfl (Nat.le_of_ble_eq_true rfl) dX10_init_12 (fun H locs hP hD hS => ?_)
  have hP : va_P (gD G) vwCl [(mo, .inr (15, [.int (nI 0), .ref q_1, .long (lN 0), .null, .null, .int (nI 0)])), (q_1, .inr (4, [.int (nI 0), .ref (gE G), .int (nI 0)]))] H := hP
  have hD : va_D A [(mo, .inr (15, [.int (nI 0), .ref q_1, .long (lN 0), .null, .null, .int (nI 0)])), (q_1, .inr (4, [.int (nI 0), .ref (gE G), .int (nI 0)]))] := hD
  refine lv_aload_n hx hb dX10_init_15 rfl (lv_at hl 0 rfl) ?_
  refine lv_bipush (v := nI 16) hx hb dX10_init_16 (by decide) ?_
  refine va_newa (D := gD G) (atype := .int) (ty := .int) (a0 := (16, .inl (fun _ => 0))) hx hb (hts _ q135) rfl hK hP hD hS hA (fun _ => rfl) (nI_pos (by omega)) (nI_clamp (by omega)) (Nat.le_of_ble_eq_true rfl) (Nat.le_of_ble_eq_true rfl) (Nat.le_of_ble_eq_true rfl) dX10_init_18 (fun q_4 cA_5 H hKn hP hD hS => ?_)
  obtain rfl := ty_one_I hK hKn
  have hP : va_P (gD G) vwCl [(mo, .inr (15, [.int (nI 0), .ref q_1, .long (lN 0), .null, .null, .int (nI 0)])), (q_1, .inr (4, [.int (nI 0), .ref (gE G), .int (nI 0)])), (q_4, .inl (gyI G, 16, .inl (fun _ => 0)))] H := hP
  have hD : va_D A [(mo, .inr (15, [.int (nI 0), .ref q_1, .long (lN 0), .null, .null, .int (nI 0)])), (q_1, .inr (4, [.int (nI 0), .ref (gE G), .int (nI 0)])), (q_4, .inl (gyI G, 16, .inl (fun _ => 0)))] := hD
  refine va_putF (D := gD G) (ci := 15) (v := .ref q_4) (ty := .array .int) (C := RX10) (T := TX10) (N := 6) hx hb hts fwX10 tyX10 tyX10_ok nmX10 hown hK hP hD hS 0 rfl rfl 4 (by decide) (hts _ q931) (fun _ h9 => h9) rfl hin rfl (by decide +kernel) rfl rfl (Nat.le_of_ble_eq_true rfl) dX10_init_20 (fun H locs hP hD hS => ?_)
  have hP : va_P (gD G) vwCl [(mo, .inr (15, [.int (nI 0), .ref q_1, .long (lN 0), .null, .ref q_4, .int (nI 0)])), (q_1, .inr (4, [.int (nI 0), .ref (gE G), .int (nI 0)])), (q_4, .inl (gyI G, 16, .inl (fun _ => 0)))] H := hP
  have hD : va_D A [(mo, .inr (15, [.int (nI 0), .ref q_1, .long (lN 0), .null, .ref q_4, .int (nI 0)])), (q_1, .inr (4, [.int (nI 0), .ref (gE G), .int (nI 0)])), (q_4, .inl (gyI G, 16, .inl (fun _ => 0)))] := hD
  have hP9 := hP.sub (ws' := [(mo, .inr (15, [.int (nI 0), .ref q_1, .long (lN 0), .null, .ref q_4, .int (nI 0)])), (q_1, .inr (4, [.int (nI 0), .ref (gE G), .int (nI 0)])), (q_4, .inl (gyI G, 16, .inl (fun _ => 0)))]) [0, 1, 2] rfl
  have hD9 := hD.sub (ws' := [(mo, .inr (15, [.int (nI 0), .ref q_1, .long (lN 0), .null, .ref q_4, .int (nI 0)])), (q_1, .inr (4, [.int (nI 0), .ref (gE G), .int (nI 0)])), (q_4, .inl (gyI G, 16, .inl (fun _ => 0)))]) [0, 1, 2] (by decide) rfl
  subst hQ
  exact W.vret hx hb hr (fun t ht hW => ⟨⟨(q_1, q_4, (fun _ => 0)), rfl, trivial, by rw [ht]; exact hP9, hD9⟩, hS.F ht⟩) hS.2.2 dX10_init_23
set_option maxHeartbeats 4000000 in
set_option maxRecDepth 100000 in
theorem c_X10_puzzle (l : Launch) (G : GG) (mo : Nat) (th : Int32) (al : Nat) (zn : Nat) (pf : Nat) (rs : Int32) (md : Int32) : Mi l G yX10_puzzle cX10_puzzle 1 (some .int) ({ frames := 5, cells := 20, slots := 300, locals := 127 } : Room) [.ref mo] [(mo, .inr (15, [.int th, .ref al, .long (lN zn), .null, .ref pf, .int rs])), (al, .inr (4, [.int md, .ref (gE G), .int (nI 0)]))] (fun (r : Int32) (u : Unit) => r = nI 0) (fun (u : Unit) => [(mo, .inr (15, [.int (nI 0), .ref al, .long (lN zn), .null, .ref pf, .int rs]))]) := by
  intro sz
  refine Met.ofW (cc := cX10_puzzle) (maxL := 1) (ret := (some .int)) (by decide) rfl ?_
  intro p e s m args below meth c s₁ B9 hml hv
  obtain ⟨rfl, hsz, hP, hK, hD0, hE⟩ := hv
  have hx := B9.exec
  have hb := B9.bytes
  have hr := B9.returns
  have hts : ∀ w ∈ WW, w.before ([.ref mo] : List Value).toArray s = true := fun w h => atoms_spec (ws := .code yX10_puzzle cX10_puzzle 1 (some .int) :: WW) B9.pre w (List.mem_cons_of_mem _ h)
  have hown : s.vm.findClass RX10 = some m.cls := findClass_of_methodNamed B9.named
  subst hsz
  have hD := hD0.self (sz := s.heap.size)
  generalize hAe : va_A [(mo, .inr (15, [.int th, .ref al, .long (lN zn), .null, .ref pf, .int rs])), (al, .inr (4, [.int md, .ref (gE G), .int (nI 0)]))] s.heap.size = A at hD hE ⊢
  have hA : ∀ q : Nat, s.heap.size ≤ q → A q := fun q h => by rw [← hAe]; exact Or.inr h
  have hl := lv_entry ([.ref mo]) (n := 1) (Nat.le_of_ble_eq_true rfl)
  rw [lg_entry_eq]
  generalize (lg_sl ([.ref mo]) ++ List.replicate (1 - (lg_sl ([.ref mo])).length) Slot.unset).toArray = ls at hl ⊢
  have hl : lv_has ls 1 [(0, .ref mo)] := hl
  refine qgen (fun Q hQ => ?_)
  refine hgen (fun H locs hP hD hS => ?_) hP hD
  refine lv_aload_n hx hb dX10_puzzle_0 rfl (lv_at hl 0 rfl) ?_
  refine lv_aload_n hx hb dX10_puzzle_1 rfl (lv_at hl 0 rfl) ?_
  refine va_get (D := gD G) (ci := 15) (v := .ref al) (C := RX10) (T := TX10) (N := 6) hx hb hts fwX10 hown hK hP 0 rfl rfl 1 (by decide) (hts _ q928) (fun _ h9 => h9) rfl dX10_puzzle_2 ?_
  refine fin_i5 hP hD hS hA [1] [0] (wr := [(mo, .inr (15, [.int th, .ref al, .long (lN zn), .null, .ref pf, .int rs]))]) rfl rfl (by decide) (by decide) (va_runF (As := []) (rest := [.ref mo]) (hK.1 4 _ rfl).2 ⟨hx, hb, hml, hown, hts⟩ (c_Jx4a65c_size_8abf5 l G al md (gE G) 0 H.size) (va_cwF 0 hts (gF q955 q959 q209 q48 q211) rfl rfl rfl (hE.1.2.1 _ FW0) (by decide +kernel) ⟨Nat.le_of_ble_eq_true rfl, Nat.le_of_ble_eq_true rfl⟩) (preV (q0 := 1) (ci := 4) hK hE hP hD hS hA [1] rfl (by decide) rfl rfl) rfl rfl hl.1 rfl (lv_room (Nat.le_of_ble_eq_true rfl)) dX10_puzzle_5 ⟨Nat.le_of_ble_eq_true rfl, Nat.le_of_ble_eq_true rfl⟩) (fun r_2 u9 hw_1 H locs hP hD hS => ?_)
  subst hw_1
  have hP : va_P (gD G) vwCl [(mo, .inr (15, [.int th, .ref al, .long (lN zn), .null, .ref pf, .int rs])), (al, .inr (4, [.int md, .ref (gE G), .int (nI 0)]))] H := hP
  have hD : va_D A [(mo, .inr (15, [.int th, .ref al, .long (lN zn), .null, .ref pf, .int rs])), (al, .inr (4, [.int md, .ref (gE G), .int (nI 0)]))] := hD
  refine lv_bipush (v := nI 8) hx hb dX10_puzzle_10 (by decide) ?_
  refine lv_icmp_ne (tgt := 19) hx hb dX10_puzzle_12 (by decide) (fun c_3 => ?_) (fun c_3 => ?_)
  · skip
    have c_3 : ¬ 0 = 8 := fun z => c_3 ((nI_eq (a := 0) (b := 8) (by omega) (by omega)).mpr z)
    refine lv_iconst (v := nI 0) hx hb dX10_puzzle_19 (by decide) ?_
    refine fin_i hP hD hS hA [0] [1] (wr := [(al, .inr (4, [.int md, .ref (gE G), .int (nI 0)]))]) rfl rfl (by decide) (by decide) (va_runV (As := [.int (nI 0)]) (rest := []) ⟨hx, hb, hml, hown, hts⟩ (c_isWrong_0 l G mo th al zn pf rs H.size) (cwV 1 hts (gV q962 q964 q34 q52 q965) rfl rfl rfl (by decide +kernel) ⟨Nat.le_of_ble_eq_true rfl, Nat.le_of_ble_eq_true rfl⟩) (preV (q0 := 0) (ci := 15) hK hE hP hD hS hA [0] rfl (by decide) rfl rfl) rfl rfl hl.1 rfl (lv_room (Nat.le_of_ble_eq_true rfl)) dX10_puzzle_20 ⟨Nat.le_of_ble_eq_true rfl, Nat.le_of_ble_eq_true rfl⟩) (fun r_5 u9 hw_4 H locs hP hD hS => ?_)
    subst hw_4
    have hP : va_P (gD G) vwCl [(al, .inr (4, [.int md, .ref (gE G), .int (nI 0)])), (mo, .inr (15, [.int (nI 0), .ref al, .long (lN zn), .null, .ref pf, .int rs]))] H := hP
    have hD : va_D A [(al, .inr (4, [.int md, .ref (gE G), .int (nI 0)])), (mo, .inr (15, [.int (nI 0), .ref al, .long (lN zn), .null, .ref pf, .int rs]))] := hD
    refine lv_if_eq (tgt := 28) hx hb dX10_puzzle_23 (by decide) (fun c_6 => ?_) (fun c_6 => ?_)
    · skip
      have c_6 : 0 = 0 := (nI_eq (a := 0) (b := 0) (by omega) (by omega)).mp c_6
      refine lv_aload_n hx hb dX10_puzzle_28 rfl (lv_at hl 0 rfl) ?_
      refine va_get (D := gD G) (ci := 15) (v := .ref al) (C := RX10) (T := TX10) (N := 6) hx hb hts fwX10 hown hK hP 1 rfl rfl 1 (by decide) (hts _ q928) (fun _ h9 => h9) rfl dX10_puzzle_29 ?_
      refine va_new (D := gD G) (ci := 13) (fs := [.null, .null, .null]) (C := RX8) (T := TX8) (N := 3) hx hb hts fwX8 tyX8 tyX8_ok hown (hts _ q966) (hts _ q967) (hts _ q62) hK hP hD hS hA rfl (fun j hj => by rcases (show j = 0 ∨ j = 1 ∨ j = 2 by omega) with rfl | rfl | rfl <;> rfl) (Nat.le_of_ble_eq_true rfl) (Nat.le_of_ble_eq_true rfl) dX10_puzzle_32 (fun q_7 H hP hD hS => ?_)
      have hP : va_P (gD G) vwCl [(al, .inr (4, [.int md, .ref (gE G), .int (nI 0)])), (mo, .inr (15, [.int (nI 0), .ref al, .long (lN zn), .null, .ref pf, .int rs])), (q_7, .inr (13, [.null, .null, .null]))] H := hP
      have hD : va_D A [(al, .inr (4, [.int md, .ref (gE G), .int (nI 0)])), (mo, .inr (15, [.int (nI 0), .ref al, .long (lN zn), .null, .ref pf, .int rs])), (q_7, .inr (13, [.null, .null, .null]))] := hD
      refine lv_dup hx hb dX10_puzzle_35 rfl ?_
      refine fin_v hP hD hS hA [2] [0, 1] (wr := [(al, .inr (4, [.int md, .ref (gE G), .int (nI 0)])), (mo, .inr (15, [.int (nI 0), .ref al, .long (lN zn), .null, .ref pf, .int rs]))]) rfl rfl (by decide) (by decide) (va_runIN (As := []) (rest := [.ref q_7, .ref al]) ⟨hx, hb, hml, hown, hts⟩ (c_X8_init l G q_7 H.size) ⟨(va_cnB 0 hts (gI q970) rfl rfl rfl (hE.1.1 _ nq968) (hts _ q62) (by decide +kernel) ⟨Nat.le_of_ble_eq_true rfl, Nat.le_of_ble_eq_true rfl⟩), rfl, hts _ q969⟩ (preS hK hE hP hD hS hA [2] rfl (by decide)) rfl rfl hl.1 rfl (lv_room (Nat.le_of_ble_eq_true rfl)) dX10_puzzle_36 ⟨Nat.le_of_ble_eq_true rfl, Nat.le_of_ble_eq_true rfl⟩) (fun u9 hw_12 H locs hP hD hS => ?_)
      obtain ⟨gr_8, mr_9, cg_10, gv_11⟩ := u9
      have hP : va_P (gD G) vwCl [(al, .inr (4, [.int md, .ref (gE G), .int (nI 0)])), (mo, .inr (15, [.int (nI 0), .ref al, .long (lN zn), .null, .ref pf, .int rs])), (q_7, .inr (13, [.ref gr_8, .ref mr_9, .ref cg_10])), (gr_8, .inl (gyI G, 16, .inl gv_11))] H := hP
      have hD : va_D A [(al, .inr (4, [.int md, .ref (gE G), .int (nI 0)])), (mo, .inr (15, [.int (nI 0), .ref al, .long (lN zn), .null, .ref pf, .int rs])), (q_7, .inr (13, [.ref gr_8, .ref mr_9, .ref cg_10])), (gr_8, .inl (gyI G, 16, .inl gv_11))] := hD
      refine fin_i5 hP hD hS hA [0] [1, 2, 3] (wr := [(mo, .inr (15, [.int (nI 0), .ref al, .long (lN zn), .null, .ref pf, .int rs])), (q_7, .inr (13, [.ref gr_8, .ref mr_9, .ref cg_10])), (gr_8, .inl (gyI G, 16, .inl gv_11))]) rfl rfl (by decide) (by decide) (va_runF (As := [.ref q_7]) (rest := []) (hK.1 4 _ rfl).2 ⟨hx, hb, hml, hown, hts⟩ (c_add_first l (gSet G (fun y => y = q_7)) al md q_7 (by omega) H.size) (va_cwF 1 hts (gF q988 q991 q469 q48 q471) rfl rfl rfl (hE.1.2.1 _ FW1) (by decide +kernel) ⟨Nat.le_of_ble_eq_true rfl, Nat.le_of_ble_eq_true rfl⟩) (preVG (ob_cell (q0 := 2) (ci := 13) hK hP hD rfl rfl (vb_asgC (hE.1.1 _ nq1387)) [0] rfl (by decide)) (q0 := 0) (ci := 4) hK hE hP hD hS hA [0] rfl (by decide) rfl rfl) rfl rfl hl.1 rfl (lv_room (Nat.le_of_ble_eq_true rfl)) dX10_puzzle_39 ⟨Nat.le_of_ble_eq_true rfl, Nat.le_of_ble_eq_true rfl⟩) (fun r_18 u9 hw_17 H locs hP hD hS => ?_)
      obtain ⟨md2_14, ed2_15, f2_16⟩ := u9
      have hf2_19 := hw_17
      have hf2_19 : obR (gOB (gSet G (fun y => y = q_7))) f2_16 := hf2_19
      have hP : va_P (gD G) vwCl [(mo, .inr (15, [.int (nI 0), .ref al, .long (lN zn), .null, .ref pf, .int rs])), (q_7, .inr (13, [.ref gr_8, .ref mr_9, .ref cg_10])), (gr_8, .inl (gyI G, 16, .inl gv_11)), (al, .inr (4, [.int md2_14, .ref ed2_15, .int (nI 1)])), (ed2_15, .inl (gyO G, 10, .inr (.inr (.inr (.inr f2_16)))))] H := hP
      have hD : va_D A [(mo, .inr (15, [.int (nI 0), .ref al, .long (lN zn), .null, .ref pf, .int rs])), (q_7, .inr (13, [.ref gr_8, .ref mr_9, .ref cg_10])), (gr_8, .inl (gyI G, 16, .inl gv_11)), (al, .inr (4, [.int md2_14, .ref ed2_15, .int (nI 1)])), (ed2_15, .inl (gyO G, 10, .inr (.inr (.inr (.inr f2_16)))))] := hD
      refine lv_pop hx hb dX10_puzzle_44 rfl ?_
      refine lv_aload_n hx hb dX10_puzzle_45 rfl (lv_at hl 0 rfl) ?_
      refine va_get (D := gD G) (ci := 15) (v := .ref al) (C := RX10) (T := TX10) (N := 6) hx hb hts fwX10 hown hK hP 0 rfl rfl 1 (by decide) (hts _ q928) (fun _ h9 => h9) rfl dX10_puzzle_46 ?_
      refine fin_i5 hP hD hS hA [3] [0, 1, 2, 4] (wr := [(mo, .inr (15, [.int (nI 0), .ref al, .long (lN zn), .null, .ref pf, .int rs])), (q_7, .inr (13, [.ref gr_8, .ref mr_9, .ref cg_10])), (gr_8, .inl (gyI G, 16, .inl gv_11)), (ed2_15, .inl (gyO G, 10, .inr (.inr (.inr (.inr f2_16)))))]) rfl rfl (by decide) (by decide) (va_runF (As := []) (rest := []) (hK.1 4 _ rfl).2 ⟨hx, hb, hml, hown, hts⟩ (c_Jx4a65c_size_8abf5 l G al md2_14 ed2_15 1 H.size) (va_cwF 0 hts (gF q955 q959 q209 q48 q211) rfl rfl rfl (hE.1.2.1 _ FW0) (by decide +kernel) ⟨Nat.le_of_ble_eq_true rfl, Nat.le_of_ble_eq_true rfl⟩) (preV (q0 := 3) (ci := 4) hK hE hP hD hS hA [3] rfl (by decide) rfl rfl) rfl rfl hl.1 rfl (lv_room (Nat.le_of_ble_eq_true rfl)) dX10_puzzle_49 ⟨Nat.le_of_ble_eq_true rfl, Nat.le_of_ble_eq_true rfl⟩) (fun r_21 u9 hw_20 H locs hP hD hS => ?_)
      subst hw_20
      have hP : va_P (gD G) vwCl [(mo, .inr (15, [.int (nI 0), .ref al, .long (lN zn), .null, .ref pf, .int rs])), (q_7, .inr (13, [.ref gr_8, .ref mr_9, .ref cg_10])), (gr_8, .inl (gyI G, 16, .inl gv_11)), (ed2_15, .inl (gyO G, 10, .inr (.inr (.inr (.inr f2_16))))), (al, .inr (4, [.int md2_14, .ref ed2_15, .int (nI 1)]))] H := hP
      have hD : va_D A [(mo, .inr (15, [.int (nI 0), .ref al, .long (lN zn), .null, .ref pf, .int rs])), (q_7, .inr (13, [.ref gr_8, .ref mr_9, .ref cg_10])), (gr_8, .inl (gyI G, 16, .inl gv_11)), (ed2_15, .inl (gyO G, 10, .inr (.inr (.inr (.inr f2_16))))), (al, .inr (4, [.int md2_14, .ref ed2_15, .int (nI 1)]))] := hD
      refine lv_iconst (v := nI 1) hx hb dX10_puzzle_54 (by decide) ?_
      refine lv_isub hx hb dX10_puzzle_55 ?_
      refine lv_toe (pk_sub (a := 1) (b := 1) (by omega)) ?_
      have hP9 := hP.sub (ws' := [(mo, .inr (15, [.int (nI 0), .ref al, .long (lN zn), .null, .ref pf, .int rs]))]) [0] rfl
      have hD9 := hD.sub (ws' := [(mo, .inr (15, [.int (nI 0), .ref al, .long (lN zn), .null, .ref pf, .int rs]))]) [0] (by decide) rfl
      refine W.widen (k := 20) (n := 300) (Nat.le_of_ble_eq_true rfl) (Nat.le_of_ble_eq_true rfl) ?_
      subst hQ
      exact W.iret (v := nI 0) hx hb hr (fun t ht hW => ⟨⟨nI 0, (), rfl, rfl, by rw [ht]; exact hP9, hD9⟩, hS.F ht⟩) hS.2.2 dX10_puzzle_56
    · skip
      have c_6 : ¬ 0 = 0 := fun z => c_6 ((nI_eq (a := 0) (b := 0) (by omega) (by omega)).mpr z)
      exact absurd c_6 (by decide)
  · skip
    have c_3 : 0 = 8 := (nI_eq (a := 0) (b := 8) (by omega) (by omega)).mp c_3
    exact absurd c_3 (by decide)
set_option maxHeartbeats 4000000 in
set_option maxRecDepth 100000 in
theorem c_mmake_1a (l : Launch) (G : GG) (mo : Nat) (th : Int32) (al : Nat) (zn : Nat) (pf : Nat) (rs : Int32) (md : Int32) (v : Int32) (v2 : Int32) (hbad : v < nI 0 ∨ nI 9999 < v) : Mi l G yX10_make cX10_make 8 (some .int) ({ frames := 1, cells := 0, slots := 0, locals := 22 } : Room) [.ref mo, .int v, .int v2] [(mo, .inr (15, [.int th, .ref al, .long (lN zn), .null, .ref pf, .int rs])), (al, .inr (4, [.int md, .ref (gE G), .int (nI 0)]))] (fun (r : Int32) (u : Unit) => True) (fun (u : Unit) => [(mo, .inr (15, [.int (nI 1), .ref al, .long (lN zn), .null, .ref pf, .int rs])), (al, .inr (4, [.int md, .ref (gE G), .int (nI 0)]))]) := by
  intro sz
  refine Met.ofW (cc := cX10_make) (maxL := 8) (ret := (some .int)) (by decide) rfl ?_
  intro p e s m args below meth c s₁ B9 hml hv
  obtain ⟨rfl, hsz, hP, hK, hD0, hE⟩ := hv
  have hx := B9.exec
  have hb := B9.bytes
  have hr := B9.returns
  have hts : ∀ w ∈ WW, w.before ([.ref mo, .int v, .int v2] : List Value).toArray s = true := fun w h => atoms_spec (ws := .code yX10_make cX10_make 8 (some .int) :: WW) B9.pre w (List.mem_cons_of_mem _ h)
  have hown : s.vm.findClass RX10 = some m.cls := findClass_of_methodNamed B9.named
  subst hsz
  have hD := hD0.self (sz := s.heap.size)
  generalize hAe : va_A [(mo, .inr (15, [.int th, .ref al, .long (lN zn), .null, .ref pf, .int rs])), (al, .inr (4, [.int md, .ref (gE G), .int (nI 0)]))] s.heap.size = A at hD hE ⊢
  have hA : ∀ q : Nat, s.heap.size ≤ q → A q := fun q h => by rw [← hAe]; exact Or.inr h
  have hl := lv_entry ([.ref mo, .int v, .int v2]) (n := 8) (Nat.le_of_ble_eq_true rfl)
  rw [lg_entry_eq]
  generalize (lg_sl ([.ref mo, .int v, .int v2]) ++ List.replicate (8 - (lg_sl ([.ref mo, .int v, .int v2])).length) Slot.unset).toArray = ls at hl ⊢
  have hl : lv_has ls 8 [(0, .ref mo), (1, .int v), (2, .int v2)] := hl
  refine qgen (fun Q hQ => ?_)
  refine hgen (fun H locs hP hD hS => ?_) hP hD
  refine lv_aload_n hx hb dX10_make_0 rfl (lv_at hl 0 rfl) ?_
  refine lv_iload_n hx hb dX10_make_1 rfl (lv_at hl 1 rfl) ?_
  refine lv_iconst (v := nI 0) hx hb dX10_make_2 (by decide) ?_
  refine lv_sipush (v := nI 9999) hx hb dX10_make_3 (by decide) ?_
  refine fin_i hP hD hS hA [] [0, 1] (wr := [(mo, .inr (15, [.int th, .ref al, .long (lN zn), .null, .ref pf, .int rs])), (al, .inr (4, [.int md, .ref (gE G), .int (nI 0)]))]) rfl rfl (by decide) (by decide) (va_runS (As := [.int v, .int (nI 0), .int (nI 9999)]) (rest := [.ref mo]) ⟨hx, hb, hml, hown, hts⟩ (c_isBetween_bad l G v 0 9999 (by assumption) H.size) (va_cwS 3 hts (gSt q1006 q1007 q52 q1008) rfl rfl rfl (by decide +kernel) ⟨Nat.le_of_ble_eq_true rfl, Nat.le_of_ble_eq_true rfl⟩) (preS hK hE hP hD hS hA [] rfl (by decide)) rfl rfl hl.1 rfl (lv_room (Nat.le_of_ble_eq_true rfl)) dX10_make_6 ⟨Nat.le_of_ble_eq_true rfl, Nat.le_of_ble_eq_true rfl⟩) (fun r_2 u9 hw_1 H locs hP hD hS => ?_)
  subst hw_1
  have hP : va_P (gD G) vwCl [(mo, .inr (15, [.int th, .ref al, .long (lN zn), .null, .ref pf, .int rs])), (al, .inr (4, [.int md, .ref (gE G), .int (nI 0)]))] H := hP
  have hD : va_D A [(mo, .inr (15, [.int th, .ref al, .long (lN zn), .null, .ref pf, .int rs])), (al, .inr (4, [.int md, .ref (gE G), .int (nI 0)]))] := hD
  refine lv_if_eq (tgt := 21) hx hb dX10_make_9 (by decide) (fun c_3 => ?_) (fun c_3 => ?_)
  · skip
    have c_3 : 0 = 0 := (nI_eq (a := 0) (b := 0) (by omega) (by omega)).mp c_3
    refine lv_iconst (v := nI 1) hx hb dX10_make_21 (by decide) ?_
    refine lv_goto (tgt := 44) hx hb dX10_make_22 (by decide) ?_
    refine fin_i hP hD hS hA [0] [1] (wr := [(al, .inr (4, [.int md, .ref (gE G), .int (nI 0)]))]) rfl rfl (by decide) (by decide) (va_runV (As := [.int (nI 1)]) (rest := []) ⟨hx, hb, hml, hown, hts⟩ (c_isWrong_k l G mo th al zn pf rs 1 (by omega) (by omega) H.size) (cwV 1 hts (gV q962 q964 q34 q52 q965) rfl rfl rfl (by decide +kernel) ⟨Nat.le_of_ble_eq_true rfl, Nat.le_of_ble_eq_true rfl⟩) (preV (q0 := 0) (ci := 15) hK hE hP hD hS hA [0] rfl (by decide) rfl rfl) rfl rfl hl.1 rfl (lv_room (Nat.le_of_ble_eq_true rfl)) dX10_make_44 ⟨Nat.le_of_ble_eq_true rfl, Nat.le_of_ble_eq_true rfl⟩) (fun r_5 u9 hw_4 H locs hP hD hS => ?_)
    subst hw_4
    have hP : va_P (gD G) vwCl [(al, .inr (4, [.int md, .ref (gE G), .int (nI 0)])), (mo, .inr (15, [.int (nI 1), .ref al, .long (lN zn), .null, .ref pf, .int rs]))] H := hP
    have hD : va_D A [(al, .inr (4, [.int md, .ref (gE G), .int (nI 0)])), (mo, .inr (15, [.int (nI 1), .ref al, .long (lN zn), .null, .ref pf, .int rs]))] := hD
    refine lv_if_eq (tgt := 52) hx hb dX10_make_47 (by decide) (fun c_6 => ?_) (fun c_6 => ?_)
    · skip
      have c_6 : 1 = 0 := (nI_eq (a := 1) (b := 0) (by omega) (by omega)).mp c_6
      exact absurd c_6 (by decide)
    · skip
      have c_6 : ¬ 1 = 0 := fun z => c_6 ((nI_eq (a := 1) (b := 0) (by omega) (by omega)).mpr z)
      refine lv_iconst (v := nI 0) hx hb dX10_make_50 (by decide) ?_
      have hP9 := hP.sub (ws' := [(mo, .inr (15, [.int (nI 1), .ref al, .long (lN zn), .null, .ref pf, .int rs])), (al, .inr (4, [.int md, .ref (gE G), .int (nI 0)]))]) [1, 0] rfl
      have hD9 := hD.sub (ws' := [(mo, .inr (15, [.int (nI 1), .ref al, .long (lN zn), .null, .ref pf, .int rs])), (al, .inr (4, [.int md, .ref (gE G), .int (nI 0)]))]) [1, 0] (by decide) rfl
      subst hQ
      exact W.iret (v := nI 0) hx hb hr (fun t ht hW => ⟨⟨nI 0, (), rfl, trivial, by rw [ht]; exact hP9, hD9⟩, hS.F ht⟩) hS.2.2 dX10_make_51
  · skip
    have c_3 : ¬ 0 = 0 := fun z => c_3 ((nI_eq (a := 0) (b := 0) (by omega) (by omega)).mpr z)
    exact absurd c_3 (by decide)
set_option maxHeartbeats 4000000 in
set_option maxRecDepth 100000 in
theorem c_mmake_1b (l : Launch) (G : GG) (mo : Nat) (th : Int32) (al : Nat) (zn : Nat) (pf : Nat) (rs : Int32) (md : Int32) (sd : Nat) (v2 : Int32) (hsd : sd ≤ 9999) (hbad : v2 < nI 1 ∨ nI 3 < v2) : Mi l G yX10_make cX10_make 8 (some .int) ({ frames := 1, cells := 0, slots := 0, locals := 22 } : Room) [.ref mo, .int (nI sd), .int v2] [(mo, .inr (15, [.int th, .ref al, .long (lN zn), .null, .ref pf, .int rs])), (al, .inr (4, [.int md, .ref (gE G), .int (nI 0)]))] (fun (r : Int32) (u : Unit) => True) (fun (u : Unit) => [(mo, .inr (15, [.int (nI 1), .ref al, .long (lN zn), .null, .ref pf, .int rs])), (al, .inr (4, [.int md, .ref (gE G), .int (nI 0)]))]) := by
  intro sz
  refine Met.ofW (cc := cX10_make) (maxL := 8) (ret := (some .int)) (by decide) rfl ?_
  intro p e s m args below meth c s₁ B9 hml hv
  obtain ⟨rfl, hsz, hP, hK, hD0, hE⟩ := hv
  have hx := B9.exec
  have hb := B9.bytes
  have hr := B9.returns
  have hts : ∀ w ∈ WW, w.before ([.ref mo, .int (nI sd), .int v2] : List Value).toArray s = true := fun w h => atoms_spec (ws := .code yX10_make cX10_make 8 (some .int) :: WW) B9.pre w (List.mem_cons_of_mem _ h)
  have hown : s.vm.findClass RX10 = some m.cls := findClass_of_methodNamed B9.named
  subst hsz
  have hD := hD0.self (sz := s.heap.size)
  generalize hAe : va_A [(mo, .inr (15, [.int th, .ref al, .long (lN zn), .null, .ref pf, .int rs])), (al, .inr (4, [.int md, .ref (gE G), .int (nI 0)]))] s.heap.size = A at hD hE ⊢
  have hA : ∀ q : Nat, s.heap.size ≤ q → A q := fun q h => by rw [← hAe]; exact Or.inr h
  have hl := lv_entry ([.ref mo, .int (nI sd), .int v2]) (n := 8) (Nat.le_of_ble_eq_true rfl)
  rw [lg_entry_eq]
  generalize (lg_sl ([.ref mo, .int (nI sd), .int v2]) ++ List.replicate (8 - (lg_sl ([.ref mo, .int (nI sd), .int v2])).length) Slot.unset).toArray = ls at hl ⊢
  have hl : lv_has ls 8 [(0, .ref mo), (1, .int (nI sd)), (2, .int v2)] := hl
  refine qgen (fun Q hQ => ?_)
  refine hgen (fun H locs hP hD hS => ?_) hP hD
  refine lv_aload_n hx hb dX10_make_0 rfl (lv_at hl 0 rfl) ?_
  refine lv_iload_n hx hb dX10_make_1 rfl (lv_at hl 1 rfl) ?_
  refine lv_iconst (v := nI 0) hx hb dX10_make_2 (by decide) ?_
  refine lv_sipush (v := nI 9999) hx hb dX10_make_3 (by decide) ?_
  refine fin_i hP hD hS hA [] [0, 1] (wr := [(mo, .inr (15, [.int th, .ref al, .long (lN zn), .null, .ref pf, .int rs])), (al, .inr (4, [.int md, .ref (gE G), .int (nI 0)]))]) rfl rfl (by decide) (by decide) (va_runS (As := [.int (nI sd), .int (nI 0), .int (nI 9999)]) (rest := [.ref mo]) ⟨hx, hb, hml, hown, hts⟩ (c_isBetween_ok l G sd 0 9999 (by omega) (by omega) (by omega) H.size) (va_cwS 3 hts (gSt q1006 q1007 q52 q1008) rfl rfl rfl (by decide +kernel) ⟨Nat.le_of_ble_eq_true rfl, Nat.le_of_ble_eq_true rfl⟩) (preS hK hE hP hD hS hA [] rfl (by decide)) rfl rfl hl.1 rfl (lv_room (Nat.le_of_ble_eq_true rfl)) dX10_make_6 ⟨Nat.le_of_ble_eq_true rfl, Nat.le_of_ble_eq_true rfl⟩) (fun r_2 u9 hw_1 H locs hP hD hS => ?_)
  subst hw_1
  have hP : va_P (gD G) vwCl [(mo, .inr (15, [.int th, .ref al, .long (lN zn), .null, .ref pf, .int rs])), (al, .inr (4, [.int md, .ref (gE G), .int (nI 0)]))] H := hP
  have hD : va_D A [(mo, .inr (15, [.int th, .ref al, .long (lN zn), .null, .ref pf, .int rs])), (al, .inr (4, [.int md, .ref (gE G), .int (nI 0)]))] := hD
  refine lv_if_eq (tgt := 21) hx hb dX10_make_9 (by decide) (fun c_3 => ?_) (fun c_3 => ?_)
  · skip
    have c_3 : 1 = 0 := (nI_eq (a := 1) (b := 0) (by omega) (by omega)).mp c_3
    exact absurd c_3 (by decide)
  · skip
    have c_3 : ¬ 1 = 0 := fun z => c_3 ((nI_eq (a := 1) (b := 0) (by omega) (by omega)).mpr z)
    refine lv_iload_n hx hb dX10_make_12 rfl (lv_at hl 2 rfl) ?_
    refine lv_iconst (v := nI 1) hx hb dX10_make_13 (by decide) ?_
    refine lv_iconst (v := nI 3) hx hb dX10_make_14 (by decide) ?_
    refine fin_i hP hD hS hA [] [0, 1] (wr := [(mo, .inr (15, [.int th, .ref al, .long (lN zn), .null, .ref pf, .int rs])), (al, .inr (4, [.int md, .ref (gE G), .int (nI 0)]))]) rfl rfl (by decide) (by decide) (va_runS (As := [.int v2, .int (nI 1), .int (nI 3)]) (rest := [.ref mo]) ⟨hx, hb, hml, hown, hts⟩ (c_isBetween_bad l G v2 1 3 (by assumption) H.size) (va_cwS 3 hts (gSt q1006 q1007 q52 q1008) rfl rfl rfl (by decide +kernel) ⟨Nat.le_of_ble_eq_true rfl, Nat.le_of_ble_eq_true rfl⟩) (preS hK hE hP hD hS hA [] rfl (by decide)) rfl rfl hl.1 rfl (lv_room (Nat.le_of_ble_eq_true rfl)) dX10_make_15 ⟨Nat.le_of_ble_eq_true rfl, Nat.le_of_ble_eq_true rfl⟩) (fun r_5 u9 hw_4 H locs hP hD hS => ?_)
    subst hw_4
    have hP : va_P (gD G) vwCl [(mo, .inr (15, [.int th, .ref al, .long (lN zn), .null, .ref pf, .int rs])), (al, .inr (4, [.int md, .ref (gE G), .int (nI 0)]))] H := hP
    have hD : va_D A [(mo, .inr (15, [.int th, .ref al, .long (lN zn), .null, .ref pf, .int rs])), (al, .inr (4, [.int md, .ref (gE G), .int (nI 0)]))] := hD
    refine lv_if_ne (tgt := 25) hx hb dX10_make_18 (by decide) (fun c_6 => ?_) (fun c_6 => ?_)
    · skip
      have c_6 : ¬ 0 = 0 := fun z => c_6 ((nI_eq (a := 0) (b := 0) (by omega) (by omega)).mpr z)
      exact absurd c_6 (by decide)
    · skip
      have c_6 : 0 = 0 := (nI_eq (a := 0) (b := 0) (by omega) (by omega)).mp c_6
      refine lv_iconst (v := nI 1) hx hb dX10_make_21 (by decide) ?_
      refine lv_goto (tgt := 44) hx hb dX10_make_22 (by decide) ?_
      refine fin_i hP hD hS hA [0] [1] (wr := [(al, .inr (4, [.int md, .ref (gE G), .int (nI 0)]))]) rfl rfl (by decide) (by decide) (va_runV (As := [.int (nI 1)]) (rest := []) ⟨hx, hb, hml, hown, hts⟩ (c_isWrong_k l G mo th al zn pf rs 1 (by omega) (by omega) H.size) (cwV 1 hts (gV q962 q964 q34 q52 q965) rfl rfl rfl (by decide +kernel) ⟨Nat.le_of_ble_eq_true rfl, Nat.le_of_ble_eq_true rfl⟩) (preV (q0 := 0) (ci := 15) hK hE hP hD hS hA [0] rfl (by decide) rfl rfl) rfl rfl hl.1 rfl (lv_room (Nat.le_of_ble_eq_true rfl)) dX10_make_44 ⟨Nat.le_of_ble_eq_true rfl, Nat.le_of_ble_eq_true rfl⟩) (fun r_8 u9 hw_7 H locs hP hD hS => ?_)
      subst hw_7
      have hP : va_P (gD G) vwCl [(al, .inr (4, [.int md, .ref (gE G), .int (nI 0)])), (mo, .inr (15, [.int (nI 1), .ref al, .long (lN zn), .null, .ref pf, .int rs]))] H := hP
      have hD : va_D A [(al, .inr (4, [.int md, .ref (gE G), .int (nI 0)])), (mo, .inr (15, [.int (nI 1), .ref al, .long (lN zn), .null, .ref pf, .int rs]))] := hD
      refine lv_if_eq (tgt := 52) hx hb dX10_make_47 (by decide) (fun c_9 => ?_) (fun c_9 => ?_)
      · skip
        have c_9 : 1 = 0 := (nI_eq (a := 1) (b := 0) (by omega) (by omega)).mp c_9
        exact absurd c_9 (by decide)
      · skip
        have c_9 : ¬ 1 = 0 := fun z => c_9 ((nI_eq (a := 1) (b := 0) (by omega) (by omega)).mpr z)
        refine lv_iconst (v := nI 0) hx hb dX10_make_50 (by decide) ?_
        have hP9 := hP.sub (ws' := [(mo, .inr (15, [.int (nI 1), .ref al, .long (lN zn), .null, .ref pf, .int rs])), (al, .inr (4, [.int md, .ref (gE G), .int (nI 0)]))]) [1, 0] rfl
        have hD9 := hD.sub (ws' := [(mo, .inr (15, [.int (nI 1), .ref al, .long (lN zn), .null, .ref pf, .int rs])), (al, .inr (4, [.int md, .ref (gE G), .int (nI 0)]))]) [1, 0] (by decide) rfl
        subst hQ
        exact W.iret (v := nI 0) hx hb hr (fun t ht hW => ⟨⟨nI 0, (), rfl, trivial, by rw [ht]; exact hP9, hD9⟩, hS.F ht⟩) hS.2.2 dX10_make_51
set_option maxHeartbeats 4000000 in
set_option maxRecDepth 100000 in
theorem c_mmake_ok (l : Launch) (G : GG) (mo : Nat) (th : Int32) (al : Nat) (zn : Nat) (pf : Nat) (rs : Int32) (md : Int32) (sd : Nat) (hi : Nat) (hsd : sd ≤ 9999) (hh1 : 1 ≤ hi) (hh2 : hi ≤ 3) : Mi l G yX10_make cX10_make 8 (some .int) ({ frames := 8, cells := 6000, slots := 1200000, locals := 215 } : Room) [.ref mo, .int (nI sd), .int (nI hi)] [(mo, .inr (15, [.int th, .ref al, .long (lN zn), .null, .ref pf, .int rs])), (al, .inr (4, [.int md, .ref (gE G), .int (nI 0)]))] (fun (r : Int32) (u : Nat) => r = nI 0) (fun (u : Nat) => [(mo, .inr (15, [.int (nI 0), .ref al, .long (lN u), .null, .ref pf, .int rs]))]) := by
  intro sz
  refine Met.ofW (cc := cX10_make) (maxL := 8) (ret := (some .int)) (by decide) rfl ?_
  intro p e s m args below meth c s₁ B9 hml hv
  obtain ⟨rfl, hsz, hP, hK, hD0, hE⟩ := hv
  have hx := B9.exec
  have hb := B9.bytes
  have hr := B9.returns
  have hts : ∀ w ∈ WW, w.before ([.ref mo, .int (nI sd), .int (nI hi)] : List Value).toArray s = true := fun w h => atoms_spec (ws := .code yX10_make cX10_make 8 (some .int) :: WW) B9.pre w (List.mem_cons_of_mem _ h)
  have hown : s.vm.findClass RX10 = some m.cls := findClass_of_methodNamed B9.named
  subst hsz
  have hD := hD0.self (sz := s.heap.size)
  generalize hAe : va_A [(mo, .inr (15, [.int th, .ref al, .long (lN zn), .null, .ref pf, .int rs])), (al, .inr (4, [.int md, .ref (gE G), .int (nI 0)]))] s.heap.size = A at hD hE ⊢
  have hA : ∀ q : Nat, s.heap.size ≤ q → A q := fun q h => by rw [← hAe]; exact Or.inr h
  have hl := lv_entry ([.ref mo, .int (nI sd), .int (nI hi)]) (n := 8) (Nat.le_of_ble_eq_true rfl)
  rw [lg_entry_eq]
  generalize (lg_sl ([.ref mo, .int (nI sd), .int (nI hi)]) ++ List.replicate (8 - (lg_sl ([.ref mo, .int (nI sd), .int (nI hi)])).length) Slot.unset).toArray = ls at hl ⊢
  have hl : lv_has ls 8 [(0, .ref mo), (1, .int (nI sd)), (2, .int (nI hi))] := hl
  refine qgen (fun Q hQ => ?_)
  refine hgen (fun H locs hP hD hS => ?_) hP hD
  refine lv_aload_n hx hb dX10_make_0 rfl (lv_at hl 0 rfl) ?_
  refine lv_iload_n hx hb dX10_make_1 rfl (lv_at hl 1 rfl) ?_
  refine lv_iconst (v := nI 0) hx hb dX10_make_2 (by decide) ?_
  refine lv_sipush (v := nI 9999) hx hb dX10_make_3 (by decide) ?_
  refine fin_i hP hD hS hA [] [0, 1] (wr := [(mo, .inr (15, [.int th, .ref al, .long (lN zn), .null, .ref pf, .int rs])), (al, .inr (4, [.int md, .ref (gE G), .int (nI 0)]))]) rfl rfl (by decide) (by decide) (va_runS (As := [.int (nI sd), .int (nI 0), .int (nI 9999)]) (rest := [.ref mo]) ⟨hx, hb, hml, hown, hts⟩ (c_isBetween_ok l G sd 0 9999 (by omega) (by omega) (by omega) H.size) (va_cwS 3 hts (gSt q1006 q1007 q52 q1008) rfl rfl rfl (by decide +kernel) ⟨Nat.le_of_ble_eq_true rfl, Nat.le_of_ble_eq_true rfl⟩) (preS hK hE hP hD hS hA [] rfl (by decide)) rfl rfl hl.1 rfl (lv_room (Nat.le_of_ble_eq_true rfl)) dX10_make_6 ⟨Nat.le_of_ble_eq_true rfl, Nat.le_of_ble_eq_true rfl⟩) (fun r_2 u9 hw_1 H locs hP hD hS => ?_)
  subst hw_1
  have hP : va_P (gD G) vwCl [(mo, .inr (15, [.int th, .ref al, .long (lN zn), .null, .ref pf, .int rs])), (al, .inr (4, [.int md, .ref (gE G), .int (nI 0)]))] H := hP
  have hD : va_D A [(mo, .inr (15, [.int th, .ref al, .long (lN zn), .null, .ref pf, .int rs])), (al, .inr (4, [.int md, .ref (gE G), .int (nI 0)]))] := hD
  refine lv_if_eq (tgt := 21) hx hb dX10_make_9 (by decide) (fun c_3 => ?_) (fun c_3 => ?_)
  · skip
    have c_3 : 1 = 0 := (nI_eq (a := 1) (b := 0) (by omega) (by omega)).mp c_3
    exact absurd c_3 (by decide)
  · skip
    have c_3 : ¬ 1 = 0 := fun z => c_3 ((nI_eq (a := 1) (b := 0) (by omega) (by omega)).mpr z)
    refine lv_iload_n hx hb dX10_make_12 rfl (lv_at hl 2 rfl) ?_
    refine lv_iconst (v := nI 1) hx hb dX10_make_13 (by decide) ?_
    refine lv_iconst (v := nI 3) hx hb dX10_make_14 (by decide) ?_
    refine fin_i hP hD hS hA [] [0, 1] (wr := [(mo, .inr (15, [.int th, .ref al, .long (lN zn), .null, .ref pf, .int rs])), (al, .inr (4, [.int md, .ref (gE G), .int (nI 0)]))]) rfl rfl (by decide) (by decide) (va_runS (As := [.int (nI hi), .int (nI 1), .int (nI 3)]) (rest := [.ref mo]) ⟨hx, hb, hml, hown, hts⟩ (c_isBetween_ok l G hi 1 3 (by omega) (by omega) (by omega) H.size) (va_cwS 3 hts (gSt q1006 q1007 q52 q1008) rfl rfl rfl (by decide +kernel) ⟨Nat.le_of_ble_eq_true rfl, Nat.le_of_ble_eq_true rfl⟩) (preS hK hE hP hD hS hA [] rfl (by decide)) rfl rfl hl.1 rfl (lv_room (Nat.le_of_ble_eq_true rfl)) dX10_make_15 ⟨Nat.le_of_ble_eq_true rfl, Nat.le_of_ble_eq_true rfl⟩) (fun r_5 u9 hw_4 H locs hP hD hS => ?_)
    subst hw_4
    have hP : va_P (gD G) vwCl [(mo, .inr (15, [.int th, .ref al, .long (lN zn), .null, .ref pf, .int rs])), (al, .inr (4, [.int md, .ref (gE G), .int (nI 0)]))] H := hP
    have hD : va_D A [(mo, .inr (15, [.int th, .ref al, .long (lN zn), .null, .ref pf, .int rs])), (al, .inr (4, [.int md, .ref (gE G), .int (nI 0)]))] := hD
    refine lv_if_ne (tgt := 25) hx hb dX10_make_18 (by decide) (fun c_6 => ?_) (fun c_6 => ?_)
    · skip
      have c_6 : ¬ 1 = 0 := fun z => c_6 ((nI_eq (a := 1) (b := 0) (by omega) (by omega)).mpr z)
      refine lv_aload_n hx hb dX10_make_25 rfl (lv_at hl 0 rfl) ?_
      refine va_get (D := gD G) (ci := 15) (v := .ref al) (C := RX10) (T := TX10) (N := 6) hx hb hts fwX10 hown hK hP 0 rfl rfl 1 (by decide) (hts _ q928) (fun _ h9 => h9) rfl dX10_make_26 ?_
      refine fin_i5 hP hD hS hA [1] [0] (wr := [(mo, .inr (15, [.int th, .ref al, .long (lN zn), .null, .ref pf, .int rs]))]) rfl rfl (by decide) (by decide) (va_runF (As := []) (rest := [.ref mo]) (hK.1 4 _ rfl).2 ⟨hx, hb, hml, hown, hts⟩ (c_Jx4a65c_size_8abf5 l G al md (gE G) 0 H.size) (va_cwF 0 hts (gF q955 q959 q209 q48 q211) rfl rfl rfl (hE.1.2.1 _ FW0) (by decide +kernel) ⟨Nat.le_of_ble_eq_true rfl, Nat.le_of_ble_eq_true rfl⟩) (preV (q0 := 1) (ci := 4) hK hE hP hD hS hA [1] rfl (by decide) rfl rfl) rfl rfl hl.1 rfl (lv_room (Nat.le_of_ble_eq_true rfl)) dX10_make_29 ⟨Nat.le_of_ble_eq_true rfl, Nat.le_of_ble_eq_true rfl⟩) (fun r_8 u9 hw_7 H locs hP hD hS => ?_)
      subst hw_7
      have hP : va_P (gD G) vwCl [(mo, .inr (15, [.int th, .ref al, .long (lN zn), .null, .ref pf, .int rs])), (al, .inr (4, [.int md, .ref (gE G), .int (nI 0)]))] H := hP
      have hD : va_D A [(mo, .inr (15, [.int th, .ref al, .long (lN zn), .null, .ref pf, .int rs])), (al, .inr (4, [.int md, .ref (gE G), .int (nI 0)]))] := hD
      refine lv_bipush (v := nI 8) hx hb dX10_make_34 (by decide) ?_
      refine lv_icmp_ne (tgt := 43) hx hb dX10_make_36 (by decide) (fun c_9 => ?_) (fun c_9 => ?_)
      · skip
        have c_9 : ¬ 0 = 8 := fun z => c_9 ((nI_eq (a := 0) (b := 8) (by omega) (by omega)).mpr z)
        refine lv_iconst (v := nI 0) hx hb dX10_make_43 (by decide) ?_
        refine fin_i hP hD hS hA [0] [1] (wr := [(al, .inr (4, [.int md, .ref (gE G), .int (nI 0)]))]) rfl rfl (by decide) (by decide) (va_runV (As := [.int (nI 0)]) (rest := []) ⟨hx, hb, hml, hown, hts⟩ (c_isWrong_0 l G mo th al zn pf rs H.size) (cwV 1 hts (gV q962 q964 q34 q52 q965) rfl rfl rfl (by decide +kernel) ⟨Nat.le_of_ble_eq_true rfl, Nat.le_of_ble_eq_true rfl⟩) (preV (q0 := 0) (ci := 15) hK hE hP hD hS hA [0] rfl (by decide) rfl rfl) rfl rfl hl.1 rfl (lv_room (Nat.le_of_ble_eq_true rfl)) dX10_make_44 ⟨Nat.le_of_ble_eq_true rfl, Nat.le_of_ble_eq_true rfl⟩) (fun r_11 u9 hw_10 H locs hP hD hS => ?_)
        subst hw_10
        have hP : va_P (gD G) vwCl [(al, .inr (4, [.int md, .ref (gE G), .int (nI 0)])), (mo, .inr (15, [.int (nI 0), .ref al, .long (lN zn), .null, .ref pf, .int rs]))] H := hP
        have hD : va_D A [(al, .inr (4, [.int md, .ref (gE G), .int (nI 0)])), (mo, .inr (15, [.int (nI 0), .ref al, .long (lN zn), .null, .ref pf, .int rs]))] := hD
        refine lv_if_eq (tgt := 52) hx hb dX10_make_47 (by decide) (fun c_12 => ?_) (fun c_12 => ?_)
        · skip
          have c_12 : 0 = 0 := (nI_eq (a := 0) (b := 0) (by omega) (by omega)).mp c_12
          refine va_new (D := gD G) (ci := 13) (fs := [.null, .null, .null]) (C := RX8) (T := TX8) (N := 3) hx hb hts fwX8 tyX8 tyX8_ok hown (hts _ q966) (hts _ q967) (hts _ q62) hK hP hD hS hA rfl (fun j hj => by rcases (show j = 0 ∨ j = 1 ∨ j = 2 by omega) with rfl | rfl | rfl <;> rfl) (Nat.le_of_ble_eq_true rfl) (Nat.le_of_ble_eq_true rfl) dX10_make_52 (fun q_13 H hP hD hS => ?_)
          have hP : va_P (gD G) vwCl [(al, .inr (4, [.int md, .ref (gE G), .int (nI 0)])), (mo, .inr (15, [.int (nI 0), .ref al, .long (lN zn), .null, .ref pf, .int rs])), (q_13, .inr (13, [.null, .null, .null]))] H := hP
          have hD : va_D A [(al, .inr (4, [.int md, .ref (gE G), .int (nI 0)])), (mo, .inr (15, [.int (nI 0), .ref al, .long (lN zn), .null, .ref pf, .int rs])), (q_13, .inr (13, [.null, .null, .null]))] := hD
          refine lv_dup hx hb dX10_make_55 rfl ?_
          refine fin_v hP hD hS hA [2] [0, 1] (wr := [(al, .inr (4, [.int md, .ref (gE G), .int (nI 0)])), (mo, .inr (15, [.int (nI 0), .ref al, .long (lN zn), .null, .ref pf, .int rs]))]) rfl rfl (by decide) (by decide) (va_runIN (As := []) (rest := [.ref q_13]) ⟨hx, hb, hml, hown, hts⟩ (c_X8_init l G q_13 H.size) ⟨(va_cnB 0 hts (gI q970) rfl rfl rfl (hE.1.1 _ nq968) (hts _ q62) (by decide +kernel) ⟨Nat.le_of_ble_eq_true rfl, Nat.le_of_ble_eq_true rfl⟩), rfl, hts _ q969⟩ (preS hK hE hP hD hS hA [2] rfl (by decide)) rfl rfl hl.1 rfl (lv_room (Nat.le_of_ble_eq_true rfl)) dX10_make_56 ⟨Nat.le_of_ble_eq_true rfl, Nat.le_of_ble_eq_true rfl⟩) (fun u9 hw_18 H locs hP hD hS => ?_)
          obtain ⟨gr_14, mr_15, cg_16, gv_17⟩ := u9
          have hP : va_P (gD G) vwCl [(al, .inr (4, [.int md, .ref (gE G), .int (nI 0)])), (mo, .inr (15, [.int (nI 0), .ref al, .long (lN zn), .null, .ref pf, .int rs])), (q_13, .inr (13, [.ref gr_14, .ref mr_15, .ref cg_16])), (gr_14, .inl (gyI G, 16, .inl gv_17))] H := hP
          have hD : va_D A [(al, .inr (4, [.int md, .ref (gE G), .int (nI 0)])), (mo, .inr (15, [.int (nI 0), .ref al, .long (lN zn), .null, .ref pf, .int rs])), (q_13, .inr (13, [.ref gr_14, .ref mr_15, .ref cg_16])), (gr_14, .inl (gyI G, 16, .inl gv_17))] := hD
          refine lv_astore_n (lv' := [(3, .ref q_13), (0, .ref mo), (1, .int (nI sd)), (2, .int (nI hi))]) hx hb dX10_make_59 rfl hl (by decide) rfl (fun ls hl => ?_)
          refine lv_aload_n hx hb dX10_make_60 rfl (lv_at hl 1 rfl) ?_
          refine lv_iload_n hx hb dX10_make_61 rfl (lv_at hl 2 rfl) ?_
          refine lv_i2l (v := lN sd) hx hb dX10_make_62 (nI_l (by omega)) ?_
          refine va_put (D := gD G) (ci := 15) (v := .long (lN sd)) (ty := .long) (C := RX10) (T := TX10) (N := 6) hx hb hts fwX10 tyX10 tyX10_ok nmX10 hown hK hP hD hS 1 rfl rfl 2 (by decide) (hts _ q929) (fun _ h9 => h9) rfl (by decide +kernel) rfl rfl (Nat.le_of_ble_eq_true rfl) dX10_make_63 (fun H locs hP hD hS => ?_)
          have hP : va_P (gD G) vwCl [(al, .inr (4, [.int md, .ref (gE G), .int (nI 0)])), (mo, .inr (15, [.int (nI 0), .ref al, .long (lN sd), .null, .ref pf, .int rs])), (q_13, .inr (13, [.ref gr_14, .ref mr_15, .ref cg_16])), (gr_14, .inl (gyI G, 16, .inl gv_17))] H := hP
          have hD : va_D A [(al, .inr (4, [.int md, .ref (gE G), .int (nI 0)])), (mo, .inr (15, [.int (nI 0), .ref al, .long (lN sd), .null, .ref pf, .int rs])), (q_13, .inr (13, [.ref gr_14, .ref mr_15, .ref cg_16])), (gr_14, .inl (gyI G, 16, .inl gv_17))] := hD
          refine lv_iconst (v := nI 0) hx hb dX10_make_66 (by decide) ?_
          refine lv_istore (lv' := [(4, .int (nI 0)), (3, .ref q_13), (0, .ref mo), (1, .int (nI sd)), (2, .int (nI hi))]) hx hb dX10_make_67 hl (by decide) rfl (fun ls hl => ?_)
          have cut_69_1 : ∀ (n9 : Nat) (i : Nat) (g1 : Nat → Int32) (hi16 : i ≤ 16) (hg1 : inC i 1 5 g1) (hm9 : 16 - i < n9) (H : Heap) (locs : List Loc), va_P (gD G) vwCl [(al, .inr (4, [.int md, .ref (gE G), .int (nI 0)])), (mo, .inr (15, [.int (nI 0), .ref al, .long (lN sd), .null, .ref pf, .int rs])), (q_13, .inr (13, [.ref gr_14, .ref mr_15, .ref cg_16])), (gr_14, .inl (gyI G, 16, .inl g1))] H → va_D A [(al, .inr (4, [.int md, .ref (gE G), .int (nI 0)])), (mo, .inr (15, [.int (nI 0), .ref al, .long (lN sd), .null, .ref pf, .int rs])), (q_13, .inr (13, [.ref gr_14, .ref mr_15, .ref cg_16])), (gr_14, .inl (gyI G, 16, .inl g1))] → va_S A s.heap H locs → ∀ (ls : Array Slot), lv_has ls 8 [(3, .ref q_13), (0, .ref mo), (1, .int (nI sd)), (2, .int (nI hi)), (4, .int (nI i))] → W p l e ({ frames := 8, cells := 6000, slots := 1200000, locals := 215 } : Room) s m ([.ref mo, .int (nI sd), .int (nI hi)] : List Value).toArray below meth c H locs 4 38 Q (F0 m 69 ls []) := by
            intro n9
            induction n9 with
            | zero =>
              intro i g1 hi16 hg1 hm9
              exact absurd hm9 (Nat.not_lt_zero _)
            | succ n9 ih_69_1 =>
              intro i g1 hi16 hg1 hm9 H locs hP hD hS ls hl
              refine lv_iload hx hb dX10_make_69 (lv_at hl 4 rfl) ?_
              refine lv_bipush (v := nI 16) hx hb dX10_make_71 (by decide) ?_
              refine lv_icmp_ge (tgt := 102) hx hb dX10_make_73 (by decide) (fun c_20 => ?_) (fun c_20 => ?_)
              · skip
                have c_20 : 16 ≤ i := (nI_leI (a := 16) (b := i) (by omega) (by omega)).mp c_20
                obtain rfl : i = 16 := by omega
                refine lv_iconst (v := nI 3) hx hb dX10_make_102 (by decide) ?_
                refine lv_istore (lv' := [(4, .int (nI 3)), (3, .ref q_13), (0, .ref mo), (1, .int (nI sd)), (2, .int (nI hi))]) hx hb dX10_make_103 hl (by decide) rfl (fun ls hl => ?_)
                have cut_105_2 : ∀ (n9 : Nat) (k : Nat) (z2 : Nat) (g2 : Nat → Int32) (hk : k ≤ 3) (hz2 : z2 < 2147483648) (hg2 : inC 16 1 5 g2) (hm9 : k < n9) (H : Heap) (locs : List Loc), va_P (gD G) vwCl [(al, .inr (4, [.int md, .ref (gE G), .int (nI 0)])), (mo, .inr (15, [.int (nI 0), .ref al, .long (lN z2), .null, .ref pf, .int rs])), (q_13, .inr (13, [.ref gr_14, .ref mr_15, .ref cg_16])), (gr_14, .inl (gyI G, 16, .inl g2))] H → va_D A [(al, .inr (4, [.int md, .ref (gE G), .int (nI 0)])), (mo, .inr (15, [.int (nI 0), .ref al, .long (lN z2), .null, .ref pf, .int rs])), (q_13, .inr (13, [.ref gr_14, .ref mr_15, .ref cg_16])), (gr_14, .inl (gyI G, 16, .inl g2))] → va_S A s.heap H locs → ∀ (ls : Array Slot), lv_has ls 8 [(3, .ref q_13), (0, .ref mo), (1, .int (nI sd)), (2, .int (nI hi)), (4, .int (nI k))] → W p l e ({ frames := 8, cells := 6000, slots := 1200000, locals := 215 } : Room) s m ([.ref mo, .int (nI sd), .int (nI hi)] : List Value).toArray below meth c H locs (4 + (3 - k)) (38 + 16 * (3 - k)) Q (F0 m 105 ls []) := by
                  intro n9
                  induction n9 with
                  | zero =>
                    intro k z2 g2 hk hz2 hg2 hm9
                    exact absurd hm9 (Nat.not_lt_zero _)
                  | succ n9 ih_105_2 =>
                    intro k z2 g2 hk hz2 hg2 hm9 H locs hP hD hS ls hl
                    refine lv_iload hx hb dX10_make_105 (lv_at hl 4 rfl) ?_
                    refine lv_if_le (tgt := 131) hx hb dX10_make_107 (by decide) (fun c_21 => ?_) (fun c_21 => ?_)
                    · skip
                      have c_21 : k ≤ 0 := (nI_leI (a := k) (b := 0) (by omega) (by omega)).mp c_21
                      refine W.widen (k := 7) (n := 86) (by show 4 + (3 - k) ≤ 7; omega) (by show 38 + 16 * (3 - k) ≤ 86; omega) ?_
                      refine lv_iconst (v := nI 3) hx hb dX10_make_131 (by decide) ?_
                      refine lv_istore (lv' := [(4, .int (nI 3)), (3, .ref q_13), (0, .ref mo), (1, .int (nI sd)), (2, .int (nI hi))]) hx hb dX10_make_132 hl (by decide) rfl (fun ls hl => ?_)
                      have cut_134_3 : ∀ (n9 : Nat) (k : Nat) (z3 : Nat) (g3 : Nat → Int32) (hk : k ≤ 3) (hz3 : z3 < 2147483648) (hg3 : inC 16 1 5 g3) (hm9 : k < n9) (H : Heap) (locs : List Loc), va_P (gD G) vwCl [(al, .inr (4, [.int md, .ref (gE G), .int (nI 0)])), (mo, .inr (15, [.int (nI 0), .ref al, .long (lN z3), .null, .ref pf, .int rs])), (q_13, .inr (13, [.ref gr_14, .ref mr_15, .ref cg_16])), (gr_14, .inl (gyI G, 16, .inl g3))] H → va_D A [(al, .inr (4, [.int md, .ref (gE G), .int (nI 0)])), (mo, .inr (15, [.int (nI 0), .ref al, .long (lN z3), .null, .ref pf, .int rs])), (q_13, .inr (13, [.ref gr_14, .ref mr_15, .ref cg_16])), (gr_14, .inl (gyI G, 16, .inl g3))] → va_S A s.heap H locs → ∀ (ls : Array Slot), lv_has ls 8 [(3, .ref q_13), (0, .ref mo), (1, .int (nI sd)), (2, .int (nI hi)), (4, .int (nI k))] → W p l e ({ frames := 8, cells := 6000, slots := 1200000, locals := 215 } : Room) s m ([.ref mo, .int (nI sd), .int (nI hi)] : List Value).toArray below meth c H locs (7 + (3 - k)) (86 + 16 * (3 - k)) Q (F0 m 134 ls []) := by
                        intro n9
                        induction n9 with
                        | zero =>
                          intro k z3 g3 hk hz3 hg3 hm9
                          exact absurd hm9 (Nat.not_lt_zero _)
                        | succ n9 ih_134_3 =>
                          intro k z3 g3 hk hz3 hg3 hm9 H locs hP hD hS ls hl
                          refine lv_iload hx hb dX10_make_134 (lv_at hl 4 rfl) ?_
                          refine lv_if_le (tgt := 160) hx hb dX10_make_136 (by decide) (fun c_22 => ?_) (fun c_22 => ?_)
                          · skip
                            have c_22 : k ≤ 0 := (nI_leI (a := k) (b := 0) (by omega) (by omega)).mp c_22
                            refine W.widen (k := 10) (n := 134) (by show 7 + (3 - k) ≤ 10; omega) (by show 86 + 16 * (3 - k) ≤ 134; omega) ?_
                            refine lv_iconst (v := nI 4) hx hb dX10_make_160 (by decide) ?_
                            refine va_newa (D := gD G) (atype := .int) (ty := .int) (a0 := (4, .inl (fun _ => 0))) hx hb (hts _ q135) rfl hK hP hD hS hA (fun _ => rfl) (nI_pos (by omega)) (nI_clamp (by omega)) (Nat.le_of_ble_eq_true rfl) (Nat.le_of_ble_eq_true rfl) (Nat.le_of_ble_eq_true rfl) dX10_make_161 (fun q_23 cA_24 H hKn hP hD hS => ?_)
                            obtain rfl := ty_one_I hK hKn
                            have hP : va_P (gD G) vwCl [(al, .inr (4, [.int md, .ref (gE G), .int (nI 0)])), (mo, .inr (15, [.int (nI 0), .ref al, .long (lN z3), .null, .ref pf, .int rs])), (q_13, .inr (13, [.ref gr_14, .ref mr_15, .ref cg_16])), (gr_14, .inl (gyI G, 16, .inl g3)), (q_23, .inl (gyI G, 4, .inl (fun _ => 0)))] H := hP
                            have hD : va_D A [(al, .inr (4, [.int md, .ref (gE G), .int (nI 0)])), (mo, .inr (15, [.int (nI 0), .ref al, .long (lN z3), .null, .ref pf, .int rs])), (q_13, .inr (13, [.ref gr_14, .ref mr_15, .ref cg_16])), (gr_14, .inl (gyI G, 16, .inl g3)), (q_23, .inl (gyI G, 4, .inl (fun _ => 0)))] := hD
                            refine lv_dup hx hb dX10_make_163 rfl ?_
                            refine lv_iconst (v := nI 0) hx hb dX10_make_164 (by decide) ?_
                            refine lv_iconst (v := nI 1) hx hb dX10_make_165 (by decide) ?_
                            refine va_iast (D := gD G) (cA := gyI G) (n := 4) (f := fun _ => 0) hx hb hK hP hD hS 4 0 rfl rfl (vp_in_nI (n := 0) (N := 4) (by omega) (by omega)) dX10_make_166 (fun H locs hP hD hS => ?_)
                            have hb_26 : inC 1 1 5 (upd (fun _ => 0) (nI 0).toNatClampNeg (nI 1)) := by rw [nI_clamp (by omega)]; exact inC_snoc inC.nil (n := 1) (by omega) (by omega) rfl
                            generalize upd (fun _ => 0) (nI 0).toNatClampNeg (nI 1) = f_25 at hP hD hb_26
                            have hP : va_P (gD G) vwCl [(al, .inr (4, [.int md, .ref (gE G), .int (nI 0)])), (mo, .inr (15, [.int (nI 0), .ref al, .long (lN z3), .null, .ref pf, .int rs])), (q_13, .inr (13, [.ref gr_14, .ref mr_15, .ref cg_16])), (gr_14, .inl (gyI G, 16, .inl g3)), (q_23, .inl (gyI G, 4, .inl f_25))] H := hP
                            have hD : va_D A [(al, .inr (4, [.int md, .ref (gE G), .int (nI 0)])), (mo, .inr (15, [.int (nI 0), .ref al, .long (lN z3), .null, .ref pf, .int rs])), (q_13, .inr (13, [.ref gr_14, .ref mr_15, .ref cg_16])), (gr_14, .inl (gyI G, 16, .inl g3)), (q_23, .inl (gyI G, 4, .inl f_25))] := hD
                            refine lv_dup hx hb dX10_make_167 rfl ?_
                            refine lv_iconst (v := nI 1) hx hb dX10_make_168 (by decide) ?_
                            refine lv_iconst (v := nI 2) hx hb dX10_make_169 (by decide) ?_
                            refine va_iast (D := gD G) (cA := gyI G) (n := 4) (f := f_25) hx hb hK hP hD hS 4 0 rfl rfl (vp_in_nI (n := 1) (N := 4) (by omega) (by omega)) dX10_make_170 (fun H locs hP hD hS => ?_)
                            have hb_28 : inC 2 1 5 (upd f_25 (nI 1).toNatClampNeg (nI 2)) := by rw [nI_clamp (by omega)]; exact inC_snoc hb_26 (n := 2) (by omega) (by omega) rfl
                            generalize upd f_25 (nI 1).toNatClampNeg (nI 2) = f_27 at hP hD hb_28
                            have hP : va_P (gD G) vwCl [(al, .inr (4, [.int md, .ref (gE G), .int (nI 0)])), (mo, .inr (15, [.int (nI 0), .ref al, .long (lN z3), .null, .ref pf, .int rs])), (q_13, .inr (13, [.ref gr_14, .ref mr_15, .ref cg_16])), (gr_14, .inl (gyI G, 16, .inl g3)), (q_23, .inl (gyI G, 4, .inl f_27))] H := hP
                            have hD : va_D A [(al, .inr (4, [.int md, .ref (gE G), .int (nI 0)])), (mo, .inr (15, [.int (nI 0), .ref al, .long (lN z3), .null, .ref pf, .int rs])), (q_13, .inr (13, [.ref gr_14, .ref mr_15, .ref cg_16])), (gr_14, .inl (gyI G, 16, .inl g3)), (q_23, .inl (gyI G, 4, .inl f_27))] := hD
                            refine lv_dup hx hb dX10_make_171 rfl ?_
                            refine lv_iconst (v := nI 2) hx hb dX10_make_172 (by decide) ?_
                            refine lv_iconst (v := nI 3) hx hb dX10_make_173 (by decide) ?_
                            refine va_iast (D := gD G) (cA := gyI G) (n := 4) (f := f_27) hx hb hK hP hD hS 4 0 rfl rfl (vp_in_nI (n := 2) (N := 4) (by omega) (by omega)) dX10_make_174 (fun H locs hP hD hS => ?_)
                            have hb_30 : inC 3 1 5 (upd f_27 (nI 2).toNatClampNeg (nI 3)) := by rw [nI_clamp (by omega)]; exact inC_snoc hb_28 (n := 3) (by omega) (by omega) rfl
                            generalize upd f_27 (nI 2).toNatClampNeg (nI 3) = f_29 at hP hD hb_30
                            have hP : va_P (gD G) vwCl [(al, .inr (4, [.int md, .ref (gE G), .int (nI 0)])), (mo, .inr (15, [.int (nI 0), .ref al, .long (lN z3), .null, .ref pf, .int rs])), (q_13, .inr (13, [.ref gr_14, .ref mr_15, .ref cg_16])), (gr_14, .inl (gyI G, 16, .inl g3)), (q_23, .inl (gyI G, 4, .inl f_29))] H := hP
                            have hD : va_D A [(al, .inr (4, [.int md, .ref (gE G), .int (nI 0)])), (mo, .inr (15, [.int (nI 0), .ref al, .long (lN z3), .null, .ref pf, .int rs])), (q_13, .inr (13, [.ref gr_14, .ref mr_15, .ref cg_16])), (gr_14, .inl (gyI G, 16, .inl g3)), (q_23, .inl (gyI G, 4, .inl f_29))] := hD
                            refine lv_dup hx hb dX10_make_175 rfl ?_
                            refine lv_iconst (v := nI 3) hx hb dX10_make_176 (by decide) ?_
                            refine lv_iconst (v := nI 4) hx hb dX10_make_177 (by decide) ?_
                            refine va_iast (D := gD G) (cA := gyI G) (n := 4) (f := f_29) hx hb hK hP hD hS 4 0 rfl rfl (vp_in_nI (n := 3) (N := 4) (by omega) (by omega)) dX10_make_178 (fun H locs hP hD hS => ?_)
                            have hb_32 : inC 4 1 5 (upd f_29 (nI 3).toNatClampNeg (nI 4)) := by rw [nI_clamp (by omega)]; exact inC_snoc hb_30 (n := 4) (by omega) (by omega) rfl
                            generalize upd f_29 (nI 3).toNatClampNeg (nI 4) = f_31 at hP hD hb_32
                            have hP : va_P (gD G) vwCl [(al, .inr (4, [.int md, .ref (gE G), .int (nI 0)])), (mo, .inr (15, [.int (nI 0), .ref al, .long (lN z3), .null, .ref pf, .int rs])), (q_13, .inr (13, [.ref gr_14, .ref mr_15, .ref cg_16])), (gr_14, .inl (gyI G, 16, .inl g3)), (q_23, .inl (gyI G, 4, .inl f_31))] H := hP
                            have hD : va_D A [(al, .inr (4, [.int md, .ref (gE G), .int (nI 0)])), (mo, .inr (15, [.int (nI 0), .ref al, .long (lN z3), .null, .ref pf, .int rs])), (q_13, .inr (13, [.ref gr_14, .ref mr_15, .ref cg_16])), (gr_14, .inl (gyI G, 16, .inl g3)), (q_23, .inl (gyI G, 4, .inl f_31))] := hD
                            refine lv_astore (lv' := [(4, .ref q_23), (3, .ref q_13), (0, .ref mo), (1, .int (nI sd)), (2, .int (nI hi))]) hx hb dX10_make_179 hl (by decide) rfl (fun ls hl => ?_)
                            refine lv_iconst (v := nI 3) hx hb dX10_make_181 (by decide) ?_
                            refine lv_istore (lv' := [(5, .int (nI 3)), (4, .ref q_23), (3, .ref q_13), (0, .ref mo), (1, .int (nI sd)), (2, .int (nI hi))]) hx hb dX10_make_182 hl (by decide) rfl (fun ls hl => ?_)
                            have cut_184_4 : ∀ (n9 : Nat) (k : Nat) (z4 : Nat) (n4 : Nat → Int32) (hk : k ≤ 3) (hz4 : z4 < 2147483648) (hn4 : inC 4 1 5 n4) (hm9 : k < n9) (H : Heap) (locs : List Loc), va_P (gD G) vwCl [(al, .inr (4, [.int md, .ref (gE G), .int (nI 0)])), (mo, .inr (15, [.int (nI 0), .ref al, .long (lN z4), .null, .ref pf, .int rs])), (q_13, .inr (13, [.ref gr_14, .ref mr_15, .ref cg_16])), (gr_14, .inl (gyI G, 16, .inl g3)), (q_23, .inl (gyI G, 4, .inl n4))] H → va_D A [(al, .inr (4, [.int md, .ref (gE G), .int (nI 0)])), (mo, .inr (15, [.int (nI 0), .ref al, .long (lN z4), .null, .ref pf, .int rs])), (q_13, .inr (13, [.ref gr_14, .ref mr_15, .ref cg_16])), (gr_14, .inl (gyI G, 16, .inl g3)), (q_23, .inl (gyI G, 4, .inl n4))] → va_S A s.heap H locs → ∀ (ls : Array Slot), lv_has ls 8 [(4, .ref q_23), (3, .ref q_13), (0, .ref mo), (1, .int (nI sd)), (2, .int (nI hi)), (5, .int (nI k))] → W p l e ({ frames := 8, cells := 6000, slots := 1200000, locals := 215 } : Room) s m ([.ref mo, .int (nI sd), .int (nI hi)] : List Value).toArray below meth c H locs 11 138 Q (F0 m 184 ls []) := by
                              intro n9
                              induction n9 with
                              | zero =>
                                intro k z4 n4 hk hz4 hn4 hm9
                                exact absurd hm9 (Nat.not_lt_zero _)
                              | succ n9 ih_184_4 =>
                                intro k z4 n4 hk hz4 hn4 hm9 H locs hP hD hS ls hl
                                refine lv_iload hx hb dX10_make_184 (lv_at hl 5 rfl) ?_
                                refine lv_if_le (tgt := 229) hx hb dX10_make_186 (by decide) (fun c_33 => ?_) (fun c_33 => ?_)
                                · skip
                                  have c_33 : k ≤ 0 := (nI_leI (a := k) (b := 0) (by omega) (by omega)).mp c_33
                                  refine lv_iconst (v := nI 0) hx hb dX10_make_229 (by decide) ?_
                                  refine lv_istore (lv' := [(5, .int (nI 0)), (4, .ref q_23), (3, .ref q_13), (0, .ref mo), (1, .int (nI sd)), (2, .int (nI hi))]) hx hb dX10_make_230 hl (by decide) rfl (fun ls hl => ?_)
                                  have cut_232_5 : ∀ (n9 : Nat) (i : Nat) (g5 : Nat → Int32) (hi16 : i ≤ 16) (hg5 : inC 16 1 5 g5) (hm9 : 16 - i < n9) (H : Heap) (locs : List Loc), va_P (gD G) vwCl [(al, .inr (4, [.int md, .ref (gE G), .int (nI 0)])), (mo, .inr (15, [.int (nI 0), .ref al, .long (lN z4), .null, .ref pf, .int rs])), (q_13, .inr (13, [.ref gr_14, .ref mr_15, .ref cg_16])), (gr_14, .inl (gyI G, 16, .inl g5)), (q_23, .inl (gyI G, 4, .inl n4))] H → va_D A [(al, .inr (4, [.int md, .ref (gE G), .int (nI 0)])), (mo, .inr (15, [.int (nI 0), .ref al, .long (lN z4), .null, .ref pf, .int rs])), (q_13, .inr (13, [.ref gr_14, .ref mr_15, .ref cg_16])), (gr_14, .inl (gyI G, 16, .inl g5)), (q_23, .inl (gyI G, 4, .inl n4))] → va_S A s.heap H locs → ∀ (ls : Array Slot), lv_has ls 8 [(4, .ref q_23), (3, .ref q_13), (0, .ref mo), (1, .int (nI sd)), (2, .int (nI hi)), (5, .int (nI i))] → W p l e ({ frames := 8, cells := 6000, slots := 1200000, locals := 215 } : Room) s m ([.ref mo, .int (nI sd), .int (nI hi)] : List Value).toArray below meth c H locs 11 138 Q (F0 m 232 ls []) := by
                                    intro n9
                                    induction n9 with
                                    | zero =>
                                      intro i g5 hi16 hg5 hm9
                                      exact absurd hm9 (Nat.not_lt_zero _)
                                    | succ n9 ih_232_5 =>
                                      intro i g5 hi16 hg5 hm9 H locs hP hD hS ls hl
                                      refine lv_iload hx hb dX10_make_232 (lv_at hl 5 rfl) ?_
                                      refine lv_bipush (v := nI 16) hx hb dX10_make_234 (by decide) ?_
                                      refine lv_icmp_ge (tgt := 264) hx hb dX10_make_236 (by decide) (fun c_34 => ?_) (fun c_34 => ?_)
                                      · skip
                                        have c_34 : 16 ≤ i := (nI_leI (a := 16) (b := i) (by omega) (by omega)).mp c_34
                                        refine lv_iconst (v := nI 0) hx hb dX10_make_264 (by decide) ?_
                                        refine lv_istore (lv' := [(5, .int (nI 0)), (4, .ref q_23), (3, .ref q_13), (0, .ref mo), (1, .int (nI sd)), (2, .int (nI hi))]) hx hb dX10_make_265 hl (by decide) rfl (fun ls hl => ?_)
                                        have cut_267_6 : ∀ (n9 : Nat) (i : Nat) (z6 : Nat) (g6 : Nat → Int32) (hi16 : i ≤ 16) (hz6 : z6 < 2147483648) (hm9 : 16 - i < n9) (H : Heap) (locs : List Loc), va_P (gD G) vwCl [(al, .inr (4, [.int md, .ref (gE G), .int (nI 0)])), (mo, .inr (15, [.int (nI 0), .ref al, .long (lN z6), .null, .ref pf, .int rs])), (q_13, .inr (13, [.ref gr_14, .ref mr_15, .ref cg_16])), (gr_14, .inl (gyI G, 16, .inl g6)), (q_23, .inl (gyI G, 4, .inl n4))] H → va_D A [(al, .inr (4, [.int md, .ref (gE G), .int (nI 0)])), (mo, .inr (15, [.int (nI 0), .ref al, .long (lN z6), .null, .ref pf, .int rs])), (q_13, .inr (13, [.ref gr_14, .ref mr_15, .ref cg_16])), (gr_14, .inl (gyI G, 16, .inl g6)), (q_23, .inl (gyI G, 4, .inl n4))] → va_S A s.heap H locs → ∀ (ls : Array Slot), lv_has ls 8 [(4, .ref q_23), (3, .ref q_13), (0, .ref mo), (1, .int (nI sd)), (2, .int (nI hi)), (5, .int (nI i))] → W p l e ({ frames := 8, cells := 6000, slots := 1200000, locals := 215 } : Room) s m ([.ref mo, .int (nI sd), .int (nI hi)] : List Value).toArray below meth c H locs (11 + 264 * i) (138 + 65155 * i) Q (F0 m 267 ls []) := by
                                          intro n9
                                          induction n9 with
                                          | zero =>
                                            intro i z6 g6 hi16 hz6 hm9
                                            exact absurd hm9 (Nat.not_lt_zero _)
                                          | succ n9 ih_267_6 =>
                                            intro i z6 g6 hi16 hz6 hm9 H locs hP hD hS ls hl
                                            refine lv_iload hx hb dX10_make_267 (lv_at hl 5 rfl) ?_
                                            refine lv_bipush (v := nI 16) hx hb dX10_make_269 (by decide) ?_
                                            refine lv_icmp_ge (tgt := 331) hx hb dX10_make_271 (by decide) (fun c_35 => ?_) (fun c_35 => ?_)
                                            · skip
                                              have c_35 : 16 ≤ i := (nI_leI (a := 16) (b := i) (by omega) (by omega)).mp c_35
                                              refine lv_aload_n hx hb dX10_make_331 rfl (lv_at hl 2 rfl) ?_
                                              refine va_get (D := gD G) (ci := 15) (v := .ref al) (C := RX10) (T := TX10) (N := 6) hx hb hts fwX10 hown hK hP 1 rfl rfl 1 (by decide) (hts _ q928) (fun _ h9 => h9) rfl dX10_make_332 ?_
                                              refine lv_aload_n hx hb dX10_make_335 rfl (lv_at hl 1 rfl) ?_
                                              refine fin_i5 hP hD hS hA [0] [1, 2, 3, 4] (wr := [(mo, .inr (15, [.int (nI 0), .ref al, .long (lN z6), .null, .ref pf, .int rs])), (q_13, .inr (13, [.ref gr_14, .ref mr_15, .ref cg_16])), (gr_14, .inl (gyI G, 16, .inl g6)), (q_23, .inl (gyI G, 4, .inl n4))]) rfl rfl (by decide) (by decide) (va_runF (As := [.ref q_13]) (rest := []) (hK.1 4 _ rfl).2 ⟨hx, hb, hml, hown, hts⟩ (c_add_first l (gSet G (fun y => y = q_13)) al md q_13 (by omega) H.size) (va_cwF 1 hts (gF q988 q991 q469 q48 q471) rfl rfl rfl (hE.1.2.1 _ FW1) (by decide +kernel) ⟨Nat.le_of_ble_eq_true rfl, Nat.le_of_ble_eq_true rfl⟩) (preVG (ob_cell (q0 := 2) (ci := 13) hK hP hD rfl rfl (vb_asgC (hE.1.1 _ nq1387)) [0] rfl (by decide)) (q0 := 0) (ci := 4) hK hE hP hD hS hA [0] rfl (by decide) rfl rfl) rfl rfl hl.1 rfl (lv_room (Nat.le_of_ble_eq_true rfl)) dX10_make_336 ⟨(by show 11 + 264 * i + 1 ≤ (6000 : Nat); omega), (by show 138 + 65155 * i + 10 ≤ (1200000 : Nat); omega)⟩) (fun r_40 u9 hw_39 H locs hP hD hS => ?_)
                                              obtain ⟨md2_36, ed2_37, f2_38⟩ := u9
                                              have hf2_41 := hw_39
                                              have hf2_41 : obR (gOB (gSet G (fun y => y = q_13))) f2_38 := hf2_41
                                              have hP : va_P (gD G) vwCl [(mo, .inr (15, [.int (nI 0), .ref al, .long (lN z6), .null, .ref pf, .int rs])), (q_13, .inr (13, [.ref gr_14, .ref mr_15, .ref cg_16])), (gr_14, .inl (gyI G, 16, .inl g6)), (q_23, .inl (gyI G, 4, .inl n4)), (al, .inr (4, [.int md2_36, .ref ed2_37, .int (nI 1)])), (ed2_37, .inl (gyO G, 10, .inr (.inr (.inr (.inr f2_38)))))] H := hP
                                              have hD : va_D A [(mo, .inr (15, [.int (nI 0), .ref al, .long (lN z6), .null, .ref pf, .int rs])), (q_13, .inr (13, [.ref gr_14, .ref mr_15, .ref cg_16])), (gr_14, .inl (gyI G, 16, .inl g6)), (q_23, .inl (gyI G, 4, .inl n4)), (al, .inr (4, [.int md2_36, .ref ed2_37, .int (nI 1)])), (ed2_37, .inl (gyO G, 10, .inr (.inr (.inr (.inr f2_38)))))] := hD
                                              refine lv_pop hx hb dX10_make_341 rfl ?_
                                              refine lv_aload_n hx hb dX10_make_342 rfl (lv_at hl 2 rfl) ?_
                                              refine va_get (D := gD G) (ci := 15) (v := .ref al) (C := RX10) (T := TX10) (N := 6) hx hb hts fwX10 hown hK hP 0 rfl rfl 1 (by decide) (hts _ q928) (fun _ h9 => h9) rfl dX10_make_343 ?_
                                              refine fin_i5 hP hD hS hA [4] [0, 1, 2, 3, 5] (wr := [(mo, .inr (15, [.int (nI 0), .ref al, .long (lN z6), .null, .ref pf, .int rs])), (q_13, .inr (13, [.ref gr_14, .ref mr_15, .ref cg_16])), (gr_14, .inl (gyI G, 16, .inl g6)), (q_23, .inl (gyI G, 4, .inl n4)), (ed2_37, .inl (gyO G, 10, .inr (.inr (.inr (.inr f2_38)))))]) rfl rfl (by decide) (by decide) (va_runF (As := []) (rest := []) (hK.1 4 _ rfl).2 ⟨hx, hb, hml, hown, hts⟩ (c_Jx4a65c_size_8abf5 l G al md2_36 ed2_37 1 H.size) (va_cwF 0 hts (gF q955 q959 q209 q48 q211) rfl rfl rfl (hE.1.2.1 _ FW0) (by decide +kernel) ⟨Nat.le_of_ble_eq_true rfl, Nat.le_of_ble_eq_true rfl⟩) (preV (q0 := 4) (ci := 4) hK hE hP hD hS hA [4] rfl (by decide) rfl rfl) rfl rfl hl.1 rfl (lv_room (Nat.le_of_ble_eq_true rfl)) dX10_make_346 ⟨(by show 11 + 264 * i + 1 + 0 ≤ (6000 : Nat); omega), (by show 138 + 65155 * i + 10 + 0 ≤ (1200000 : Nat); omega)⟩) (fun r_43 u9 hw_42 H locs hP hD hS => ?_)
                                              subst hw_42
                                              have hP : va_P (gD G) vwCl [(mo, .inr (15, [.int (nI 0), .ref al, .long (lN z6), .null, .ref pf, .int rs])), (q_13, .inr (13, [.ref gr_14, .ref mr_15, .ref cg_16])), (gr_14, .inl (gyI G, 16, .inl g6)), (q_23, .inl (gyI G, 4, .inl n4)), (ed2_37, .inl (gyO G, 10, .inr (.inr (.inr (.inr f2_38))))), (al, .inr (4, [.int md2_36, .ref ed2_37, .int (nI 1)]))] H := hP
                                              have hD : va_D A [(mo, .inr (15, [.int (nI 0), .ref al, .long (lN z6), .null, .ref pf, .int rs])), (q_13, .inr (13, [.ref gr_14, .ref mr_15, .ref cg_16])), (gr_14, .inl (gyI G, 16, .inl g6)), (q_23, .inl (gyI G, 4, .inl n4)), (ed2_37, .inl (gyO G, 10, .inr (.inr (.inr (.inr f2_38))))), (al, .inr (4, [.int md2_36, .ref ed2_37, .int (nI 1)]))] := hD
                                              refine lv_iconst (v := nI 1) hx hb dX10_make_351 (by decide) ?_
                                              refine lv_isub hx hb dX10_make_352 ?_
                                              refine lv_toe (pk_sub (a := 1) (b := 1) (by omega)) ?_
                                              have hP9 := hP.sub (ws' := [(mo, .inr (15, [.int (nI 0), .ref al, .long (lN z6), .null, .ref pf, .int rs]))]) [0] rfl
                                              have hD9 := hD.sub (ws' := [(mo, .inr (15, [.int (nI 0), .ref al, .long (lN z6), .null, .ref pf, .int rs]))]) [0] (by decide) rfl
                                              refine W.widen (k := 6000) (n := 1200000) (by show 11 + 264 * i + 1 ≤ 6000; omega) (by show 138 + 65155 * i + 10 ≤ 1200000; omega) ?_
                                              subst hQ
                                              exact W.iret (v := nI 0) hx hb hr (fun t ht hW => ⟨⟨nI 0, z6, rfl, rfl, by rw [ht]; exact hP9, hD9⟩, hS.F ht⟩) hS.2.2 dX10_make_353
                                            · skip
                                              have c_35 : ¬ 16 ≤ i := fun z => c_35 ((nI_leI (a := 16) (b := i) (by omega) (by omega)).mpr z)
                                              refine lv_aload_n hx hb dX10_make_274 rfl (lv_at hl 2 rfl) ?_
                                              refine lv_bipush (v := nI 16) hx hb dX10_make_275 (by decide) ?_
                                              refine fin_i hP hD hS hA [1] [0, 2, 3, 4] (wr := [(al, .inr (4, [.int md, .ref (gE G), .int (nI 0)])), (q_13, .inr (13, [.ref gr_14, .ref mr_15, .ref cg_16])), (gr_14, .inl (gyI G, 16, .inl g6)), (q_23, .inl (gyI G, 4, .inl n4))]) rfl rfl (by decide) (by decide) (va_runV (As := [.int (nI 16)]) (rest := []) ⟨hx, hb, hml, hown, hts⟩ (c_X10_draw l G mo (nI 0) al z6 pf rs 16 (by omega) (by omega) (by omega) H.size) (cwV 1 hts (gV q1043 q1045 q37 q52 q1046) rfl rfl rfl (by decide +kernel) ⟨Nat.le_of_ble_eq_true rfl, Nat.le_of_ble_eq_true rfl⟩) (preV (q0 := 1) (ci := 15) hK hE hP hD hS hA [1] rfl (by decide) rfl rfl) rfl rfl hl.1 rfl (lv_room (Nat.le_of_ble_eq_true rfl)) dX10_make_277 ⟨(by show 11 + 264 * i + 0 ≤ (6000 : Nat); omega), (by show 138 + 65155 * i + 0 ≤ (1200000 : Nat); omega)⟩) (fun r_47 u9 hw_46 H locs hP hD hS => ?_)
                                              obtain ⟨zn2_44, rn_45⟩ := u9
                                              obtain ⟨rfl, hz2_48, hrn_49⟩ := hw_46
                                              have hz2_48 : zn2_44 < 2147483648 := hz2_48
                                              have hrn_49 : rn_45 < 16 := hrn_49
                                              have hP : va_P (gD G) vwCl [(al, .inr (4, [.int md, .ref (gE G), .int (nI 0)])), (q_13, .inr (13, [.ref gr_14, .ref mr_15, .ref cg_16])), (gr_14, .inl (gyI G, 16, .inl g6)), (q_23, .inl (gyI G, 4, .inl n4)), (mo, .inr (15, [.int (nI 0), .ref al, .long (lN zn2_44), .null, .ref pf, .int rs]))] H := hP
                                              have hD : va_D A [(al, .inr (4, [.int md, .ref (gE G), .int (nI 0)])), (q_13, .inr (13, [.ref gr_14, .ref mr_15, .ref cg_16])), (gr_14, .inl (gyI G, 16, .inl g6)), (q_23, .inl (gyI G, 4, .inl n4)), (mo, .inr (15, [.int (nI 0), .ref al, .long (lN zn2_44), .null, .ref pf, .int rs]))] := hD
                                              refine lv_istore (lv' := [(6, .int (nI rn_45)), (4, .ref q_23), (3, .ref q_13), (0, .ref mo), (1, .int (nI sd)), (2, .int (nI hi)), (5, .int (nI i))]) hx hb dX10_make_280 hl (by decide) rfl (fun ls hl => ?_)
                                              refine lv_aload_n hx hb dX10_make_282 rfl (lv_at hl 2 rfl) ?_
                                              refine va_getN (D := gD G) (ci := 13) (v := .ref gr_14) (C := RX8) (T := TX8) (N := 3) hx hb hts fwX8 hown hK hP 1 rfl rfl 0 (by decide) (va_Nw.use rfl (hE.1.1 _ nq975)) (fun _ h9 => h9) rfl dX10_make_283 ?_
                                              refine lv_iload hx hb dX10_make_286 (lv_at hl 0 rfl) ?_
                                              refine va_iald (D := gD G) (cA := gyI G) (n := 16) (f := g6) hx hb hK hP 2 0 rfl rfl (vp_in_nI (n := rn_45) (N := 16) (by omega) (by omega)) dX10_make_288 ?_
                                              refine lv_topi (fun w_50 ew_50 => ?_)
                                              refine lv_istore (lv' := [(7, .int w_50), (6, .int (nI rn_45)), (4, .ref q_23), (3, .ref q_13), (0, .ref mo), (1, .int (nI sd)), (2, .int (nI hi)), (5, .int (nI i))]) hx hb dX10_make_289 hl (by decide) rfl (fun ls hl => ?_)
                                              refine lv_aload_n hx hb dX10_make_291 rfl (lv_at hl 3 rfl) ?_
                                              refine va_getN (D := gD G) (ci := 13) (v := .ref gr_14) (C := RX8) (T := TX8) (N := 3) hx hb hts fwX8 hown hK hP 1 rfl rfl 0 (by decide) (va_Nw.use rfl (hE.1.1 _ nq975)) (fun _ h9 => h9) rfl dX10_make_292 ?_
                                              refine lv_iload hx hb dX10_make_295 (lv_at hl 1 rfl) ?_
                                              refine lv_iconst (v := nI 0) hx hb dX10_make_297 (by decide) ?_
                                              refine va_iast (D := gD G) (cA := gyI G) (n := 16) (f := g6) hx hb hK hP hD hS 2 0 rfl rfl (vp_in_nI (n := rn_45) (N := 16) (by omega) (by omega)) dX10_make_298 (fun H locs hP hD hS => ?_)
                                              generalize upd g6 (nI rn_45).toNatClampNeg (nI 0) = f_51 at hP hD
                                              have hP : va_P (gD G) vwCl [(al, .inr (4, [.int md, .ref (gE G), .int (nI 0)])), (q_13, .inr (13, [.ref gr_14, .ref mr_15, .ref cg_16])), (gr_14, .inl (gyI G, 16, .inl f_51)), (q_23, .inl (gyI G, 4, .inl n4)), (mo, .inr (15, [.int (nI 0), .ref al, .long (lN zn2_44), .null, .ref pf, .int rs]))] H := hP
                                              have hD : va_D A [(al, .inr (4, [.int md, .ref (gE G), .int (nI 0)])), (q_13, .inr (13, [.ref gr_14, .ref mr_15, .ref cg_16])), (gr_14, .inl (gyI G, 16, .inl f_51)), (q_23, .inl (gyI G, 4, .inl n4)), (mo, .inr (15, [.int (nI 0), .ref al, .long (lN zn2_44), .null, .ref pf, .int rs]))] := hD
                                              refine va_new (D := gD G) (ci := 14) (fs := [.null, .null, .null]) (C := RX9) (T := TX9) (N := 3) hx hb hts fwX9 tyX9 tyX9_ok hown (hts _ q1061) (hts _ q1062) (hts _ q75) hK hP hD hS hA rfl (fun j hj => by rcases (show j = 0 ∨ j = 1 ∨ j = 2 by omega) with rfl | rfl | rfl <;> rfl) (by show 11 + 264 * i + 1 ≤ (6000 : Nat); omega) (by show 138 + 65155 * i + 3 ≤ (1200000 : Nat); omega) dX10_make_299 (fun q_52 H hP hD hS => ?_)
                                              have hP : va_P (gD G) vwCl [(al, .inr (4, [.int md, .ref (gE G), .int (nI 0)])), (q_13, .inr (13, [.ref gr_14, .ref mr_15, .ref cg_16])), (gr_14, .inl (gyI G, 16, .inl f_51)), (q_23, .inl (gyI G, 4, .inl n4)), (mo, .inr (15, [.int (nI 0), .ref al, .long (lN zn2_44), .null, .ref pf, .int rs])), (q_52, .inr (14, [.null, .null, .null]))] H := hP
                                              have hD : va_D A [(al, .inr (4, [.int md, .ref (gE G), .int (nI 0)])), (q_13, .inr (13, [.ref gr_14, .ref mr_15, .ref cg_16])), (gr_14, .inl (gyI G, 16, .inl f_51)), (q_23, .inl (gyI G, 4, .inl n4)), (mo, .inr (15, [.int (nI 0), .ref al, .long (lN zn2_44), .null, .ref pf, .int rs])), (q_52, .inr (14, [.null, .null, .null]))] := hD
                                              refine lv_dup hx hb dX10_make_302 rfl ?_
                                              refine lv_aload_n hx hb dX10_make_303 rfl (lv_at hl 3 rfl) ?_
                                              refine lv_iload_n hx hb dX10_make_304 rfl (lv_at hl 6 rfl) ?_
                                              refine fin_v hP hD hS hA [5, 1, 2] [0, 3, 4] (wr := [(al, .inr (4, [.int md, .ref (gE G), .int (nI 0)])), (q_23, .inl (gyI G, 4, .inl n4)), (mo, .inr (15, [.int (nI 0), .ref al, .long (lN zn2_44), .null, .ref pf, .int rs]))]) rfl rfl (by decide) (by decide) (va_runI (As := [.ref q_13, .int (nI hi)]) (rest := [.ref q_52]) ⟨hx, hb, hml, hown, hts⟩ (c_X9_init l G q_52 q_13 gr_14 mr_15 cg_16 f_51 hi (by omega) H.size) (cwI 2 hts (gI q1065) rfl rfl rfl (hts _ q75) (hts _ q1063) (hts _ q1064) rfl (by decide +kernel) ⟨Nat.le_of_ble_eq_true rfl, Nat.le_of_ble_eq_true rfl⟩) (preS hK hE hP hD hS hA [5, 1, 2] rfl (by decide)) rfl rfl hl.1 rfl (lv_room (Nat.le_of_ble_eq_true rfl)) dX10_make_305 ⟨(by show 11 + 264 * i + 1 + 263 ≤ (6000 : Nat); omega), (by show 138 + 65155 * i + 3 + 65152 ≤ (1200000 : Nat); omega)⟩) (fun u9 hw_57 H locs hP hD hS => ?_)
                                              obtain ⟨ca_53, sl_54, gl_55, f2_56⟩ := u9
                                              have hP : va_P (gD G) vwCl [(al, .inr (4, [.int md, .ref (gE G), .int (nI 0)])), (q_23, .inl (gyI G, 4, .inl n4)), (mo, .inr (15, [.int (nI 0), .ref al, .long (lN zn2_44), .null, .ref pf, .int rs])), (q_52, .inr (14, [.ref ca_53, .ref sl_54, .ref gl_55])), (ca_53, .inl (gyI G, 16, .inl f2_56)), (q_13, .inr (13, [.ref gr_14, .ref mr_15, .ref cg_16])), (gr_14, .inl (gyI G, 16, .inl f_51))] H := hP
                                              have hD : va_D A [(al, .inr (4, [.int md, .ref (gE G), .int (nI 0)])), (q_23, .inl (gyI G, 4, .inl n4)), (mo, .inr (15, [.int (nI 0), .ref al, .long (lN zn2_44), .null, .ref pf, .int rs])), (q_52, .inr (14, [.ref ca_53, .ref sl_54, .ref gl_55])), (ca_53, .inl (gyI G, 16, .inl f2_56)), (q_13, .inr (13, [.ref gr_14, .ref mr_15, .ref cg_16])), (gr_14, .inl (gyI G, 16, .inl f_51))] := hD
                                              refine fin_i hP hD hS hA [3, 4] [0, 1, 2, 5, 6] (wr := [(al, .inr (4, [.int md, .ref (gE G), .int (nI 0)])), (q_23, .inl (gyI G, 4, .inl n4)), (mo, .inr (15, [.int (nI 0), .ref al, .long (lN zn2_44), .null, .ref pf, .int rs])), (q_13, .inr (13, [.ref gr_14, .ref mr_15, .ref cg_16])), (gr_14, .inl (gyI G, 16, .inl f_51))]) rfl rfl (by decide) (by decide) (va_runV (As := []) (rest := []) ⟨hx, hb, hml, hown, hts⟩ (c_X9_state l G q_52 ca_53 sl_54 gl_55 f2_56 H.size) (cwV 0 hts (gV q1216 q1200 q1201 q75 q1202) rfl rfl rfl (by decide +kernel) ⟨Nat.le_of_ble_eq_true rfl, Nat.le_of_ble_eq_true rfl⟩) (preV (q0 := 3) (ci := 14) hK hE hP hD hS hA [3, 4] rfl (by decide) rfl rfl) rfl rfl hl.1 rfl (lv_room (Nat.le_of_ble_eq_true rfl)) dX10_make_308 ⟨(by show 11 + 264 * i + 1 + 263 + 0 ≤ (6000 : Nat); omega), (by show 138 + 65155 * i + 3 + 65152 + 0 ≤ (1200000 : Nat); omega)⟩) (fun r_60 u9 hw_59 H locs hP hD hS => ?_)
                                              have hP : va_P (gD G) vwCl [(al, .inr (4, [.int md, .ref (gE G), .int (nI 0)])), (q_23, .inl (gyI G, 4, .inl n4)), (mo, .inr (15, [.int (nI 0), .ref al, .long (lN zn2_44), .null, .ref pf, .int rs])), (q_13, .inr (13, [.ref gr_14, .ref mr_15, .ref cg_16])), (gr_14, .inl (gyI G, 16, .inl f_51)), (q_52, .inr (14, [.ref ca_53, .ref sl_54, .ref gl_55])), (ca_53, .inl (gyI G, 16, .inl f2_56))] H := hP
                                              have hD : va_D A [(al, .inr (4, [.int md, .ref (gE G), .int (nI 0)])), (q_23, .inl (gyI G, 4, .inl n4)), (mo, .inr (15, [.int (nI 0), .ref al, .long (lN zn2_44), .null, .ref pf, .int rs])), (q_13, .inr (13, [.ref gr_14, .ref mr_15, .ref cg_16])), (gr_14, .inl (gyI G, 16, .inl f_51)), (q_52, .inr (14, [.ref ca_53, .ref sl_54, .ref gl_55])), (ca_53, .inl (gyI G, 16, .inl f2_56))] := hD
                                              refine lv_bipush (v := nI 115) hx hb dX10_make_311 (by decide) ?_
                                              refine lv_icmp_eq (tgt := 325) hx hb dX10_make_313 (by decide) (fun c_61 => ?_) (fun c_61 => ?_)
                                              · skip
                                                refine lv_iinc (v := nI (i + 1)) (lv' := [(5, .int (nI (i + 1))), (7, .int w_50), (6, .int (nI rn_45)), (4, .ref q_23), (3, .ref q_13), (0, .ref mo), (1, .int (nI sd)), (2, .int (nI hi))]) hx hb dX10_make_325 hl (k := 7) rfl (nI_add i 1) (by decide) rfl (fun ls hl => ?_)
                                                refine lv_goto (tgt := 267) hx hb dX10_make_328 (by decide) ?_
                                                refine W.widen (k := 11 + 264 * (i + 1)) (n := 138 + 65155 * (i + 1)) (by show 11 + 264 * i + 1 + 263 ≤ 11 + 264 * (i + 1); omega) (by show 138 + 65155 * i + 3 + 65152 ≤ 138 + 65155 * (i + 1); omega) ?_
                                                exact ih_267_6 (i + 1) zn2_44 f_51 (by omega) (by omega) (by omega) _ _ (hP.sub [0, 2, 3, 4, 1] rfl) (hD.sub [0, 2, 3, 4, 1] (by decide) rfl) hS ls (lv_sub hl [3, 4, 5, 6, 7, 0] rfl)
                                              · skip
                                                refine lv_aload_n hx hb dX10_make_316 rfl (lv_at hl 3 rfl) ?_
                                                refine va_getN (D := gD G) (ci := 13) (v := .ref gr_14) (C := RX8) (T := TX8) (N := 3) hx hb hts fwX8 hown hK hP 3 rfl rfl 0 (by decide) (va_Nw.use rfl (hE.1.1 _ nq975)) (fun _ h9 => h9) rfl dX10_make_317 ?_
                                                refine lv_iload hx hb dX10_make_320 (lv_at hl 1 rfl) ?_
                                                refine lv_iload hx hb dX10_make_322 (lv_at hl 0 rfl) ?_
                                                refine va_iast (D := gD G) (cA := gyI G) (n := 16) (f := f_51) hx hb hK hP hD hS 4 0 rfl rfl (vp_in_nI (n := rn_45) (N := 16) (by omega) (by omega)) dX10_make_324 (fun H locs hP hD hS => ?_)
                                                generalize upd f_51 (nI rn_45).toNatClampNeg w_50 = f_62 at hP hD
                                                have hP : va_P (gD G) vwCl [(al, .inr (4, [.int md, .ref (gE G), .int (nI 0)])), (q_23, .inl (gyI G, 4, .inl n4)), (mo, .inr (15, [.int (nI 0), .ref al, .long (lN zn2_44), .null, .ref pf, .int rs])), (q_13, .inr (13, [.ref gr_14, .ref mr_15, .ref cg_16])), (gr_14, .inl (gyI G, 16, .inl f_62)), (q_52, .inr (14, [.ref ca_53, .ref sl_54, .ref gl_55])), (ca_53, .inl (gyI G, 16, .inl f2_56))] H := hP
                                                have hD : va_D A [(al, .inr (4, [.int md, .ref (gE G), .int (nI 0)])), (q_23, .inl (gyI G, 4, .inl n4)), (mo, .inr (15, [.int (nI 0), .ref al, .long (lN zn2_44), .null, .ref pf, .int rs])), (q_13, .inr (13, [.ref gr_14, .ref mr_15, .ref cg_16])), (gr_14, .inl (gyI G, 16, .inl f_62)), (q_52, .inr (14, [.ref ca_53, .ref sl_54, .ref gl_55])), (ca_53, .inl (gyI G, 16, .inl f2_56))] := hD
                                                refine lv_iinc (v := nI (i + 1)) (lv' := [(5, .int (nI (i + 1))), (7, .int w_50), (6, .int (nI rn_45)), (4, .ref q_23), (3, .ref q_13), (0, .ref mo), (1, .int (nI sd)), (2, .int (nI hi))]) hx hb dX10_make_325 hl (k := 7) rfl (nI_add i 1) (by decide) rfl (fun ls hl => ?_)
                                                refine lv_goto (tgt := 267) hx hb dX10_make_328 (by decide) ?_
                                                refine W.widen (k := 11 + 264 * (i + 1)) (n := 138 + 65155 * (i + 1)) (by show 11 + 264 * i + 1 + 263 ≤ 11 + 264 * (i + 1); omega) (by show 138 + 65155 * i + 3 + 65152 ≤ 138 + 65155 * (i + 1); omega) ?_
                                                exact ih_267_6 (i + 1) zn2_44 f_62 (by omega) (by omega) (by omega) _ _ (hP.sub [0, 2, 3, 4, 1] rfl) (hD.sub [0, 2, 3, 4, 1] (by decide) rfl) hS ls (lv_sub hl [3, 4, 5, 6, 7, 0] rfl)
                                        refine W.widen (k := 11 + 264 * 0) (n := 138 + 65155 * 0) (Nat.le_of_ble_eq_true rfl) (Nat.le_of_ble_eq_true rfl) ?_
                                        exact cut_267_6 (16 - 0 + 1) 0 z4 g5 (by omega) (by omega) (Nat.lt_succ_self _) _ _ (hP.sub [0, 1, 2, 3, 4] rfl) (hD.sub [0, 1, 2, 3, 4] (by decide) rfl) hS ls (lv_sub hl [1, 2, 3, 4, 5, 0] rfl)
                                      · skip
                                        have c_34 : ¬ 16 ≤ i := fun z => c_34 ((nI_leI (a := 16) (b := i) (by omega) (by omega)).mpr z)
                                        refine lv_aload_n hx hb dX10_make_239 rfl (lv_at hl 1 rfl) ?_
                                        refine va_getN (D := gD G) (ci := 13) (v := .ref gr_14) (C := RX8) (T := TX8) (N := 3) hx hb hts fwX8 hown hK hP 2 rfl rfl 0 (by decide) (va_Nw.use rfl (hE.1.1 _ nq975)) (fun _ h9 => h9) rfl dX10_make_240 ?_
                                        refine lv_iload hx hb dX10_make_243 (lv_at hl 5 rfl) ?_
                                        refine lv_aload hx hb dX10_make_245 (lv_at hl 0 rfl) ?_
                                        refine lv_aload_n hx hb dX10_make_247 rfl (lv_at hl 1 rfl) ?_
                                        refine va_getN (D := gD G) (ci := 13) (v := .ref gr_14) (C := RX8) (T := TX8) (N := 3) hx hb hts fwX8 hown hK hP 2 rfl rfl 0 (by decide) (va_Nw.use rfl (hE.1.1 _ nq975)) (fun _ h9 => h9) rfl dX10_make_248 ?_
                                        refine lv_iload hx hb dX10_make_251 (lv_at hl 5 rfl) ?_
                                        refine va_iald (D := gD G) (cA := gyI G) (n := 16) (f := g5) hx hb hK hP 3 0 rfl rfl (vp_in_nI (n := i) (N := 16) (by omega) (by omega)) dX10_make_253 ?_
                                        obtain ⟨n_63, ⟨hln_63, hn_63⟩, en_63⟩ := hg5 i (by omega)
                                        refine lv_toe (show g5 (nI i).toNatClampNeg = nI n_63 by rw [nI_clamp (by omega)]; exact en_63) ?_
                                        refine lv_iconst (v := nI 1) hx hb dX10_make_254 (by decide) ?_
                                        refine lv_isub hx hb dX10_make_255 ?_
                                        refine lv_toe (pk_sub (a := n_63) (b := 1) (by omega)) ?_
                                        refine va_iald (D := gD G) (cA := gyI G) (n := 4) (f := n4) hx hb hK hP 4 0 rfl rfl (vp_in_nI (n := n_63 - 1) (N := 4) (by omega) (by omega)) dX10_make_256 ?_
                                        obtain ⟨n_64, ⟨hln_64, hn_64⟩, en_64⟩ := hn4 (n_63 - 1) (by omega)
                                        refine lv_toe (show n4 (nI (n_63 - 1)).toNatClampNeg = nI n_64 by rw [nI_clamp (by omega)]; exact en_64) ?_
                                        refine va_iast (D := gD G) (cA := gyI G) (n := 16) (f := g5) hx hb hK hP hD hS 3 0 rfl rfl (vp_in_nI (n := i) (N := 16) (by omega) (by omega)) dX10_make_257 (fun H locs hP hD hS => ?_)
                                        have hb_66 : inC 16 1 5 (upd g5 (nI i).toNatClampNeg (nI n_64)) := hg5.upd (n := n_64) (by omega) (by omega) rfl
                                        generalize upd g5 (nI i).toNatClampNeg (nI n_64) = f_65 at hP hD hb_66
                                        have hP : va_P (gD G) vwCl [(al, .inr (4, [.int md, .ref (gE G), .int (nI 0)])), (mo, .inr (15, [.int (nI 0), .ref al, .long (lN z4), .null, .ref pf, .int rs])), (q_13, .inr (13, [.ref gr_14, .ref mr_15, .ref cg_16])), (gr_14, .inl (gyI G, 16, .inl f_65)), (q_23, .inl (gyI G, 4, .inl n4))] H := hP
                                        have hD : va_D A [(al, .inr (4, [.int md, .ref (gE G), .int (nI 0)])), (mo, .inr (15, [.int (nI 0), .ref al, .long (lN z4), .null, .ref pf, .int rs])), (q_13, .inr (13, [.ref gr_14, .ref mr_15, .ref cg_16])), (gr_14, .inl (gyI G, 16, .inl f_65)), (q_23, .inl (gyI G, 4, .inl n4))] := hD
                                        refine lv_iinc (v := nI (i + 1)) (lv' := [(5, .int (nI (i + 1))), (4, .ref q_23), (3, .ref q_13), (0, .ref mo), (1, .int (nI sd)), (2, .int (nI hi))]) hx hb dX10_make_258 hl (k := 5) rfl (nI_add i 1) (by decide) rfl (fun ls hl => ?_)
                                        refine lv_goto (tgt := 232) hx hb dX10_make_261 (by decide) ?_
                                        exact ih_232_5 (i + 1) f_65 (by omega) hb_66 (by omega) _ _ (hP.sub [0, 1, 2, 3, 4] rfl) (hD.sub [0, 1, 2, 3, 4] (by decide) rfl) hS ls (lv_sub hl [1, 2, 3, 4, 5, 0] rfl)
                                  exact cut_232_5 (16 - 0 + 1) 0 g3 (by omega) hg3 (Nat.lt_succ_self _) _ _ (hP.sub [0, 1, 2, 3, 4] rfl) (hD.sub [0, 1, 2, 3, 4] (by decide) rfl) hS ls (lv_sub hl [1, 2, 3, 4, 5, 0] rfl)
                                · skip
                                  have c_33 : ¬ k ≤ 0 := fun z => c_33 ((nI_leI (a := k) (b := 0) (by omega) (by omega)).mpr z)
                                  refine lv_aload_n hx hb dX10_make_189 rfl (lv_at hl 2 rfl) ?_
                                  refine lv_iload hx hb dX10_make_190 (lv_at hl 5 rfl) ?_
                                  refine lv_iconst (v := nI 1) hx hb dX10_make_192 (by decide) ?_
                                  refine lv_iadd hx hb dX10_make_193 ?_
                                  refine lv_toe (nI_add k 1) ?_
                                  refine fin_i hP hD hS hA [1] [0, 2, 3, 4] (wr := [(al, .inr (4, [.int md, .ref (gE G), .int (nI 0)])), (q_13, .inr (13, [.ref gr_14, .ref mr_15, .ref cg_16])), (gr_14, .inl (gyI G, 16, .inl g3)), (q_23, .inl (gyI G, 4, .inl n4))]) rfl rfl (by decide) (by decide) (va_runV (As := [.int (nI (k + 1))]) (rest := []) ⟨hx, hb, hml, hown, hts⟩ (c_X10_draw l G mo (nI 0) al z4 pf rs (k + 1) (by omega) (by omega) (by omega) H.size) (cwV 1 hts (gV q1043 q1045 q37 q52 q1046) rfl rfl rfl (by decide +kernel) ⟨Nat.le_of_ble_eq_true rfl, Nat.le_of_ble_eq_true rfl⟩) (preV (q0 := 1) (ci := 15) hK hE hP hD hS hA [1] rfl (by decide) rfl rfl) rfl rfl hl.1 rfl (lv_room (Nat.le_of_ble_eq_true rfl)) dX10_make_194 ⟨Nat.le_of_ble_eq_true rfl, Nat.le_of_ble_eq_true rfl⟩) (fun r_70 u9 hw_69 H locs hP hD hS => ?_)
                                  obtain ⟨zn2_67, rn_68⟩ := u9
                                  obtain ⟨rfl, hz2_71, hrn_72⟩ := hw_69
                                  have hz2_71 : zn2_67 < 2147483648 := hz2_71
                                  have hrn_72 : rn_68 < (k + 1) := hrn_72
                                  have hP : va_P (gD G) vwCl [(al, .inr (4, [.int md, .ref (gE G), .int (nI 0)])), (q_13, .inr (13, [.ref gr_14, .ref mr_15, .ref cg_16])), (gr_14, .inl (gyI G, 16, .inl g3)), (q_23, .inl (gyI G, 4, .inl n4)), (mo, .inr (15, [.int (nI 0), .ref al, .long (lN zn2_67), .null, .ref pf, .int rs]))] H := hP
                                  have hD : va_D A [(al, .inr (4, [.int md, .ref (gE G), .int (nI 0)])), (q_13, .inr (13, [.ref gr_14, .ref mr_15, .ref cg_16])), (gr_14, .inl (gyI G, 16, .inl g3)), (q_23, .inl (gyI G, 4, .inl n4)), (mo, .inr (15, [.int (nI 0), .ref al, .long (lN zn2_67), .null, .ref pf, .int rs]))] := hD
                                  refine lv_istore (lv' := [(6, .int (nI rn_68)), (4, .ref q_23), (3, .ref q_13), (0, .ref mo), (1, .int (nI sd)), (2, .int (nI hi)), (5, .int (nI k))]) hx hb dX10_make_197 hl (by decide) rfl (fun ls hl => ?_)
                                  refine lv_aload hx hb dX10_make_199 (lv_at hl 1 rfl) ?_
                                  refine lv_iload hx hb dX10_make_201 (lv_at hl 6 rfl) ?_
                                  refine va_iald (D := gD G) (cA := gyI G) (n := 4) (f := n4) hx hb hK hP 3 0 rfl rfl (vp_in_nI (n := k) (N := 4) (by omega) (by omega)) dX10_make_203 ?_
                                  obtain ⟨n_73, ⟨hln_73, hn_73⟩, en_73⟩ := hn4 k (by omega)
                                  refine lv_toe (show n4 (nI k).toNatClampNeg = nI n_73 by rw [nI_clamp (by omega)]; exact en_73) ?_
                                  refine lv_istore (lv' := [(7, .int (nI n_73)), (6, .int (nI rn_68)), (4, .ref q_23), (3, .ref q_13), (0, .ref mo), (1, .int (nI sd)), (2, .int (nI hi)), (5, .int (nI k))]) hx hb dX10_make_204 hl (by decide) rfl (fun ls hl => ?_)
                                  refine lv_aload hx hb dX10_make_206 (lv_at hl 2 rfl) ?_
                                  refine lv_iload hx hb dX10_make_208 (lv_at hl 7 rfl) ?_
                                  refine lv_aload hx hb dX10_make_210 (lv_at hl 2 rfl) ?_
                                  refine lv_iload hx hb dX10_make_212 (lv_at hl 1 rfl) ?_
                                  refine va_iald (D := gD G) (cA := gyI G) (n := 4) (f := n4) hx hb hK hP 3 0 rfl rfl (vp_in_nI (n := rn_68) (N := 4) (by omega) (by omega)) dX10_make_214 ?_
                                  obtain ⟨n_74, ⟨hln_74, hn_74⟩, en_74⟩ := hn4 rn_68 (by omega)
                                  refine lv_toe (show n4 (nI rn_68).toNatClampNeg = nI n_74 by rw [nI_clamp (by omega)]; exact en_74) ?_
                                  refine va_iast (D := gD G) (cA := gyI G) (n := 4) (f := n4) hx hb hK hP hD hS 3 0 rfl rfl (vp_in_nI (n := k) (N := 4) (by omega) (by omega)) dX10_make_215 (fun H locs hP hD hS => ?_)
                                  have hb_76 : inC 4 1 5 (upd n4 (nI k).toNatClampNeg (nI n_74)) := hn4.upd (n := n_74) (by omega) (by omega) rfl
                                  generalize upd n4 (nI k).toNatClampNeg (nI n_74) = f_75 at hP hD hb_76
                                  have hP : va_P (gD G) vwCl [(al, .inr (4, [.int md, .ref (gE G), .int (nI 0)])), (q_13, .inr (13, [.ref gr_14, .ref mr_15, .ref cg_16])), (gr_14, .inl (gyI G, 16, .inl g3)), (q_23, .inl (gyI G, 4, .inl f_75)), (mo, .inr (15, [.int (nI 0), .ref al, .long (lN zn2_67), .null, .ref pf, .int rs]))] H := hP
                                  have hD : va_D A [(al, .inr (4, [.int md, .ref (gE G), .int (nI 0)])), (q_13, .inr (13, [.ref gr_14, .ref mr_15, .ref cg_16])), (gr_14, .inl (gyI G, 16, .inl g3)), (q_23, .inl (gyI G, 4, .inl f_75)), (mo, .inr (15, [.int (nI 0), .ref al, .long (lN zn2_67), .null, .ref pf, .int rs]))] := hD
                                  refine lv_aload hx hb dX10_make_216 (lv_at hl 2 rfl) ?_
                                  refine lv_iload hx hb dX10_make_218 (lv_at hl 1 rfl) ?_
                                  refine lv_iload hx hb dX10_make_220 (lv_at hl 0 rfl) ?_
                                  refine va_iast (D := gD G) (cA := gyI G) (n := 4) (f := f_75) hx hb hK hP hD hS 3 0 rfl rfl (vp_in_nI (n := rn_68) (N := 4) (by omega) (by omega)) dX10_make_222 (fun H locs hP hD hS => ?_)
                                  have hb_78 : inC 4 1 5 (upd f_75 (nI rn_68).toNatClampNeg (nI n_73)) := hb_76.upd (n := n_73) (by omega) (by omega) rfl
                                  generalize upd f_75 (nI rn_68).toNatClampNeg (nI n_73) = f_77 at hP hD hb_78
                                  have hP : va_P (gD G) vwCl [(al, .inr (4, [.int md, .ref (gE G), .int (nI 0)])), (q_13, .inr (13, [.ref gr_14, .ref mr_15, .ref cg_16])), (gr_14, .inl (gyI G, 16, .inl g3)), (q_23, .inl (gyI G, 4, .inl f_77)), (mo, .inr (15, [.int (nI 0), .ref al, .long (lN zn2_67), .null, .ref pf, .int rs]))] H := hP
                                  have hD : va_D A [(al, .inr (4, [.int md, .ref (gE G), .int (nI 0)])), (q_13, .inr (13, [.ref gr_14, .ref mr_15, .ref cg_16])), (gr_14, .inl (gyI G, 16, .inl g3)), (q_23, .inl (gyI G, 4, .inl f_77)), (mo, .inr (15, [.int (nI 0), .ref al, .long (lN zn2_67), .null, .ref pf, .int rs]))] := hD
                                  refine lv_iinc (v := nI (k - 1)) (lv' := [(5, .int (nI (k - 1))), (7, .int (nI n_73)), (6, .int (nI rn_68)), (4, .ref q_23), (3, .ref q_13), (0, .ref mo), (1, .int (nI sd)), (2, .int (nI hi))]) hx hb dX10_make_223 hl (k := 7) rfl (dec1 (by omega)) (by decide) rfl (fun ls hl => ?_)
                                  refine lv_goto (tgt := 184) hx hb dX10_make_226 (by decide) ?_
                                  exact ih_184_4 (k - 1) zn2_67 f_77 (by omega) (by omega) hb_78 (by omega) _ _ (hP.sub [0, 4, 1, 2, 3] rfl) (hD.sub [0, 4, 1, 2, 3] (by decide) rfl) hS ls (lv_sub hl [3, 4, 5, 6, 7, 0] rfl)
                            exact cut_184_4 (3 + 1) 3 z3 f_31 (by omega) (by omega) hb_32 (Nat.lt_succ_self _) _ _ (hP.sub [0, 1, 2, 3, 4] rfl) (hD.sub [0, 1, 2, 3, 4] (by decide) rfl) hS ls (lv_sub hl [1, 2, 3, 4, 5, 0] rfl)
                          · skip
                            have c_22 : ¬ k ≤ 0 := fun z => c_22 ((nI_leI (a := k) (b := 0) (by omega) (by omega)).mpr z)
                            refine lv_aload_n hx hb dX10_make_139 rfl (lv_at hl 0 rfl) ?_
                            refine lv_iconst (v := nI 0) hx hb dX10_make_140 (by decide) ?_
                            refine lv_iload hx hb dX10_make_141 (lv_at hl 4 rfl) ?_
                            refine lv_aload_n hx hb dX10_make_143 rfl (lv_at hl 1 rfl) ?_
                            refine lv_iload hx hb dX10_make_144 (lv_at hl 4 rfl) ?_
                            refine lv_iconst (v := nI 1) hx hb dX10_make_146 (by decide) ?_
                            refine lv_iadd hx hb dX10_make_147 ?_
                            refine lv_toe (nI_add k 1) ?_
                            refine fin_i hP hD hS hA [1] [0, 2, 3] (wr := [(al, .inr (4, [.int md, .ref (gE G), .int (nI 0)])), (q_13, .inr (13, [.ref gr_14, .ref mr_15, .ref cg_16])), (gr_14, .inl (gyI G, 16, .inl g3))]) rfl rfl (by decide) (by decide) (va_runV (As := [.int (nI (k + 1))]) (rest := [.int (nI k), .int (nI 0), .ref q_13]) ⟨hx, hb, hml, hown, hts⟩ (c_X10_draw l G mo (nI 0) al z3 pf rs (k + 1) (by omega) (by omega) (by omega) H.size) (cwV 1 hts (gV q1043 q1045 q37 q52 q1046) rfl rfl rfl (by decide +kernel) ⟨Nat.le_of_ble_eq_true rfl, Nat.le_of_ble_eq_true rfl⟩) (preV (q0 := 1) (ci := 15) hK hE hP hD hS hA [1] rfl (by decide) rfl rfl) rfl rfl hl.1 rfl (lv_room (Nat.le_of_ble_eq_true rfl)) dX10_make_148 ⟨(by show 7 + (3 - k) + 0 ≤ (6000 : Nat); omega), (by show 86 + 16 * (3 - k) + 0 ≤ (1200000 : Nat); omega)⟩) (fun r_82 u9 hw_81 H locs hP hD hS => ?_)
                            obtain ⟨zn2_79, rn_80⟩ := u9
                            obtain ⟨rfl, hz2_83, hrn_84⟩ := hw_81
                            have hz2_83 : zn2_79 < 2147483648 := hz2_83
                            have hrn_84 : rn_80 < (k + 1) := hrn_84
                            have hP : va_P (gD G) vwCl [(al, .inr (4, [.int md, .ref (gE G), .int (nI 0)])), (q_13, .inr (13, [.ref gr_14, .ref mr_15, .ref cg_16])), (gr_14, .inl (gyI G, 16, .inl g3)), (mo, .inr (15, [.int (nI 0), .ref al, .long (lN zn2_79), .null, .ref pf, .int rs]))] H := hP
                            have hD : va_D A [(al, .inr (4, [.int md, .ref (gE G), .int (nI 0)])), (q_13, .inr (13, [.ref gr_14, .ref mr_15, .ref cg_16])), (gr_14, .inl (gyI G, 16, .inl g3)), (mo, .inr (15, [.int (nI 0), .ref al, .long (lN zn2_79), .null, .ref pf, .int rs]))] := hD
                            refine fin_v hP hD hS hA [1, 2] [0, 3] (wr := [(al, .inr (4, [.int md, .ref (gE G), .int (nI 0)])), (mo, .inr (15, [.int (nI 0), .ref al, .long (lN zn2_79), .null, .ref pf, .int rs]))]) rfl rfl (by decide) (by decide) (va_runS (As := [.ref q_13, .int (nI 0), .int (nI k), .int (nI rn_80)]) (rest := []) ⟨hx, hb, hml, hown, hts⟩ (c_X10_changes l G q_13 gr_14 mr_15 cg_16 g3 0 k rn_80 hg3 (by omega) (by omega) (by omega) H.size) (va_cwS 4 hts (gSt q1051 q1052 q52 q1053) rfl rfl rfl (by decide +kernel) ⟨Nat.le_of_ble_eq_true rfl, Nat.le_of_ble_eq_true rfl⟩) (preS hK hE hP hD hS hA [1, 2] rfl (by decide)) rfl rfl hl.1 rfl (lv_room (Nat.le_of_ble_eq_true rfl)) dX10_make_151 ⟨(by show 7 + (3 - k) + 1 ≤ (6000 : Nat); omega), (by show 86 + 16 * (3 - k) + 16 ≤ (1200000 : Nat); omega)⟩) (fun u9 hw_86 H locs hP hD hS => ?_)
                            obtain ⟨gv2_85, rfl⟩ : ∃ z, z = u9 := ⟨_, rfl⟩
                            have hgv2_88 := hw_86
                            have hgv2_88 : inC 16 1 5 gv2_85 := hgv2_88
                            have hP : va_P (gD G) vwCl [(al, .inr (4, [.int md, .ref (gE G), .int (nI 0)])), (mo, .inr (15, [.int (nI 0), .ref al, .long (lN zn2_79), .null, .ref pf, .int rs])), (q_13, .inr (13, [.ref gr_14, .ref mr_15, .ref cg_16])), (gr_14, .inl (gyI G, 16, .inl gv2_85))] H := hP
                            have hD : va_D A [(al, .inr (4, [.int md, .ref (gE G), .int (nI 0)])), (mo, .inr (15, [.int (nI 0), .ref al, .long (lN zn2_79), .null, .ref pf, .int rs])), (q_13, .inr (13, [.ref gr_14, .ref mr_15, .ref cg_16])), (gr_14, .inl (gyI G, 16, .inl gv2_85))] := hD
                            refine lv_iinc (v := nI (k - 1)) (lv' := [(4, .int (nI (k - 1))), (3, .ref q_13), (0, .ref mo), (1, .int (nI sd)), (2, .int (nI hi))]) hx hb dX10_make_154 hl (k := 4) rfl (dec1 (by omega)) (by decide) rfl (fun ls hl => ?_)
                            refine lv_goto (tgt := 134) hx hb dX10_make_157 (by decide) ?_
                            refine W.widen (k := 7 + (3 - (k - 1))) (n := 86 + 16 * (3 - (k - 1))) (by show 7 + (3 - k) + 1 ≤ 7 + (3 - (k - 1)); omega) (by show 86 + 16 * (3 - k) + 16 ≤ 86 + 16 * (3 - (k - 1)); omega) ?_
                            exact ih_134_3 (k - 1) zn2_79 gv2_85 (by omega) (by omega) hgv2_88 (by omega) _ _ (hP.sub [0, 1, 2, 3] rfl) (hD.sub [0, 1, 2, 3] (by decide) rfl) hS ls (lv_sub hl [1, 2, 3, 4, 0] rfl)
                      refine W.widen (k := 7 + (3 - 3)) (n := 86 + 16 * (3 - 3)) (Nat.le_of_ble_eq_true rfl) (Nat.le_of_ble_eq_true rfl) ?_
                      exact cut_134_3 (3 + 1) 3 z2 g2 (by omega) (by omega) hg2 (Nat.lt_succ_self _) _ _ (hP.sub [0, 1, 2, 3] rfl) (hD.sub [0, 1, 2, 3] (by decide) rfl) hS ls (lv_sub hl [1, 2, 3, 4, 0] rfl)
                    · skip
                      have c_21 : ¬ k ≤ 0 := fun z => c_21 ((nI_leI (a := k) (b := 0) (by omega) (by omega)).mpr z)
                      refine lv_aload_n hx hb dX10_make_110 rfl (lv_at hl 0 rfl) ?_
                      refine lv_iconst (v := nI 1) hx hb dX10_make_111 (by decide) ?_
                      refine lv_iload hx hb dX10_make_112 (lv_at hl 4 rfl) ?_
                      refine lv_aload_n hx hb dX10_make_114 rfl (lv_at hl 1 rfl) ?_
                      refine lv_iload hx hb dX10_make_115 (lv_at hl 4 rfl) ?_
                      refine lv_iconst (v := nI 1) hx hb dX10_make_117 (by decide) ?_
                      refine lv_iadd hx hb dX10_make_118 ?_
                      refine lv_toe (nI_add k 1) ?_
                      refine fin_i hP hD hS hA [1] [0, 2, 3] (wr := [(al, .inr (4, [.int md, .ref (gE G), .int (nI 0)])), (q_13, .inr (13, [.ref gr_14, .ref mr_15, .ref cg_16])), (gr_14, .inl (gyI G, 16, .inl g2))]) rfl rfl (by decide) (by decide) (va_runV (As := [.int (nI (k + 1))]) (rest := [.int (nI k), .int (nI 1), .ref q_13]) ⟨hx, hb, hml, hown, hts⟩ (c_X10_draw l G mo (nI 0) al z2 pf rs (k + 1) (by omega) (by omega) (by omega) H.size) (cwV 1 hts (gV q1043 q1045 q37 q52 q1046) rfl rfl rfl (by decide +kernel) ⟨Nat.le_of_ble_eq_true rfl, Nat.le_of_ble_eq_true rfl⟩) (preV (q0 := 1) (ci := 15) hK hE hP hD hS hA [1] rfl (by decide) rfl rfl) rfl rfl hl.1 rfl (lv_room (Nat.le_of_ble_eq_true rfl)) dX10_make_119 ⟨(by show 4 + (3 - k) + 0 ≤ (6000 : Nat); omega), (by show 38 + 16 * (3 - k) + 0 ≤ (1200000 : Nat); omega)⟩) (fun r_92 u9 hw_91 H locs hP hD hS => ?_)
                      obtain ⟨zn2_89, rn_90⟩ := u9
                      obtain ⟨rfl, hz2_93, hrn_94⟩ := hw_91
                      have hz2_93 : zn2_89 < 2147483648 := hz2_93
                      have hrn_94 : rn_90 < (k + 1) := hrn_94
                      have hP : va_P (gD G) vwCl [(al, .inr (4, [.int md, .ref (gE G), .int (nI 0)])), (q_13, .inr (13, [.ref gr_14, .ref mr_15, .ref cg_16])), (gr_14, .inl (gyI G, 16, .inl g2)), (mo, .inr (15, [.int (nI 0), .ref al, .long (lN zn2_89), .null, .ref pf, .int rs]))] H := hP
                      have hD : va_D A [(al, .inr (4, [.int md, .ref (gE G), .int (nI 0)])), (q_13, .inr (13, [.ref gr_14, .ref mr_15, .ref cg_16])), (gr_14, .inl (gyI G, 16, .inl g2)), (mo, .inr (15, [.int (nI 0), .ref al, .long (lN zn2_89), .null, .ref pf, .int rs]))] := hD
                      refine fin_v hP hD hS hA [1, 2] [0, 3] (wr := [(al, .inr (4, [.int md, .ref (gE G), .int (nI 0)])), (mo, .inr (15, [.int (nI 0), .ref al, .long (lN zn2_89), .null, .ref pf, .int rs]))]) rfl rfl (by decide) (by decide) (va_runS (As := [.ref q_13, .int (nI 1), .int (nI k), .int (nI rn_90)]) (rest := []) ⟨hx, hb, hml, hown, hts⟩ (c_X10_changes l G q_13 gr_14 mr_15 cg_16 g2 1 k rn_90 hg2 (by omega) (by omega) (by omega) H.size) (va_cwS 4 hts (gSt q1051 q1052 q52 q1053) rfl rfl rfl (by decide +kernel) ⟨Nat.le_of_ble_eq_true rfl, Nat.le_of_ble_eq_true rfl⟩) (preS hK hE hP hD hS hA [1, 2] rfl (by decide)) rfl rfl hl.1 rfl (lv_room (Nat.le_of_ble_eq_true rfl)) dX10_make_122 ⟨(by show 4 + (3 - k) + 1 ≤ (6000 : Nat); omega), (by show 38 + 16 * (3 - k) + 16 ≤ (1200000 : Nat); omega)⟩) (fun u9 hw_96 H locs hP hD hS => ?_)
                      obtain ⟨gv2_95, rfl⟩ : ∃ z, z = u9 := ⟨_, rfl⟩
                      have hgv2_98 := hw_96
                      have hgv2_98 : inC 16 1 5 gv2_95 := hgv2_98
                      have hP : va_P (gD G) vwCl [(al, .inr (4, [.int md, .ref (gE G), .int (nI 0)])), (mo, .inr (15, [.int (nI 0), .ref al, .long (lN zn2_89), .null, .ref pf, .int rs])), (q_13, .inr (13, [.ref gr_14, .ref mr_15, .ref cg_16])), (gr_14, .inl (gyI G, 16, .inl gv2_95))] H := hP
                      have hD : va_D A [(al, .inr (4, [.int md, .ref (gE G), .int (nI 0)])), (mo, .inr (15, [.int (nI 0), .ref al, .long (lN zn2_89), .null, .ref pf, .int rs])), (q_13, .inr (13, [.ref gr_14, .ref mr_15, .ref cg_16])), (gr_14, .inl (gyI G, 16, .inl gv2_95))] := hD
                      refine lv_iinc (v := nI (k - 1)) (lv' := [(4, .int (nI (k - 1))), (3, .ref q_13), (0, .ref mo), (1, .int (nI sd)), (2, .int (nI hi))]) hx hb dX10_make_125 hl (k := 4) rfl (dec1 (by omega)) (by decide) rfl (fun ls hl => ?_)
                      refine lv_goto (tgt := 105) hx hb dX10_make_128 (by decide) ?_
                      refine W.widen (k := 4 + (3 - (k - 1))) (n := 38 + 16 * (3 - (k - 1))) (by show 4 + (3 - k) + 1 ≤ 4 + (3 - (k - 1)); omega) (by show 38 + 16 * (3 - k) + 16 ≤ 38 + 16 * (3 - (k - 1)); omega) ?_
                      exact ih_105_2 (k - 1) zn2_89 gv2_95 (by omega) (by omega) hgv2_98 (by omega) _ _ (hP.sub [0, 1, 2, 3] rfl) (hD.sub [0, 1, 2, 3] (by decide) rfl) hS ls (lv_sub hl [1, 2, 3, 4, 0] rfl)
                refine W.widen (k := 4 + (3 - 3)) (n := 38 + 16 * (3 - 3)) (Nat.le_of_ble_eq_true rfl) (Nat.le_of_ble_eq_true rfl) ?_
                exact cut_105_2 (3 + 1) 3 sd g1 (by omega) (by omega) hg1 (Nat.lt_succ_self _) _ _ (hP.sub [0, 1, 2, 3] rfl) (hD.sub [0, 1, 2, 3] (by decide) rfl) hS ls (lv_sub hl [1, 2, 3, 4, 0] rfl)
              · skip
                have c_20 : ¬ 16 ≤ i := fun z => c_20 ((nI_leI (a := 16) (b := i) (by omega) (by omega)).mpr z)
                refine lv_aload_n hx hb dX10_make_76 rfl (lv_at hl 0 rfl) ?_
                refine va_getN (D := gD G) (ci := 13) (v := .ref gr_14) (C := RX8) (T := TX8) (N := 3) hx hb hts fwX8 hown hK hP 2 rfl rfl 0 (by decide) (va_Nw.use rfl (hE.1.1 _ nq975)) (fun _ h9 => h9) rfl dX10_make_77 ?_
                refine lv_iload hx hb dX10_make_80 (lv_at hl 4 rfl) ?_
                refine lv_iconst (v := nI 1) hx hb dX10_make_82 (by decide) ?_
                refine lv_iload hx hb dX10_make_83 (lv_at hl 4 rfl) ?_
                refine lv_iconst (v := nI 4) hx hb dX10_make_85 (by decide) ?_
                refine lv_idiv hx hb dX10_make_86 (nI_ne0 (by omega) (by omega)) ?_
                refine lv_toe (pk_div (a := i) (d := 4) (by omega) (by omega) (by omega)) ?_
                refine lv_iload hx hb dX10_make_87 (lv_at hl 4 rfl) ?_
                refine lv_iconst (v := nI 4) hx hb dX10_make_89 (by decide) ?_
                refine lv_irem hx hb dX10_make_90 (nI_ne0 (by omega) (by omega)) ?_
                refine lv_toe (pk_rem (a := i) (d := 4) (by omega) (by omega) (by omega)) ?_
                refine lv_iadd hx hb dX10_make_91 ?_
                refine lv_toe (nI_add (i / 4) (i % 4)) ?_
                refine lv_iconst (v := nI 4) hx hb dX10_make_92 (by decide) ?_
                refine lv_irem hx hb dX10_make_93 (nI_ne0 (by omega) (by omega)) ?_
                refine lv_toe (pk_rem (a := i / 4 + (i % 4)) (d := 4) (by omega) (by omega) (by omega)) ?_
                refine lv_iadd hx hb dX10_make_94 ?_
                refine lv_toe (nI_add 1 ((i / 4 + (i % 4)) % 4)) ?_
                refine va_iast (D := gD G) (cA := gyI G) (n := 16) (f := g1) hx hb hK hP hD hS 3 0 rfl rfl (vp_in_nI (n := i) (N := 16) (by omega) (by omega)) dX10_make_95 (fun H locs hP hD hS => ?_)
                have hb_100 : inC (i + 1) 1 5 (upd g1 (nI i).toNatClampNeg (nI (1 + ((i / 4 + (i % 4)) % 4)))) := by rw [nI_clamp (by omega)]; exact inC_snoc hg1 (n := 1 + ((i / 4 + (i % 4)) % 4)) (by omega) (by omega) rfl
                generalize upd g1 (nI i).toNatClampNeg (nI (1 + ((i / 4 + (i % 4)) % 4))) = f_99 at hP hD hb_100
                have hP : va_P (gD G) vwCl [(al, .inr (4, [.int md, .ref (gE G), .int (nI 0)])), (mo, .inr (15, [.int (nI 0), .ref al, .long (lN sd), .null, .ref pf, .int rs])), (q_13, .inr (13, [.ref gr_14, .ref mr_15, .ref cg_16])), (gr_14, .inl (gyI G, 16, .inl f_99))] H := hP
                have hD : va_D A [(al, .inr (4, [.int md, .ref (gE G), .int (nI 0)])), (mo, .inr (15, [.int (nI 0), .ref al, .long (lN sd), .null, .ref pf, .int rs])), (q_13, .inr (13, [.ref gr_14, .ref mr_15, .ref cg_16])), (gr_14, .inl (gyI G, 16, .inl f_99))] := hD
                refine lv_iinc (v := nI (i + 1)) (lv' := [(4, .int (nI (i + 1))), (3, .ref q_13), (0, .ref mo), (1, .int (nI sd)), (2, .int (nI hi))]) hx hb dX10_make_96 hl (k := 4) rfl (nI_add i 1) (by decide) rfl (fun ls hl => ?_)
                refine lv_goto (tgt := 69) hx hb dX10_make_99 (by decide) ?_
                exact ih_69_1 (i + 1) f_99 (by omega) hb_100 (by omega) _ _ (hP.sub [0, 1, 2, 3] rfl) (hD.sub [0, 1, 2, 3] (by decide) rfl) hS ls (lv_sub hl [1, 2, 3, 4, 0] rfl)
          exact cut_69_1 (16 - 0 + 1) 0 gv_17 (by omega) inC.nil (Nat.lt_succ_self _) _ _ (hP.sub [0, 1, 2, 3] rfl) (hD.sub [0, 1, 2, 3] (by decide) rfl) hS ls (lv_sub hl [1, 2, 3, 4, 0] rfl)
        · skip
          have c_12 : ¬ 0 = 0 := fun z => c_12 ((nI_eq (a := 0) (b := 0) (by omega) (by omega)).mpr z)
          exact absurd c_12 (by decide)
      · skip
        have c_9 : 0 = 8 := (nI_eq (a := 0) (b := 8) (by omega) (by omega)).mp c_9
        exact absurd c_9 (by decide)
    · skip
      have c_6 : 1 = 0 := (nI_eq (a := 1) (b := 0) (by omega) (by omega)).mp c_6
      exact absurd c_6 (by decide)
set_option maxHeartbeats 4000000 in
set_option maxRecDepth 100000 in
theorem c_Jx35411_init_45d68 (l : Launch) (G : GG) (it : Nat) (al : Nat) (md : Int32) : Mv l G yJx35411_init_45d68 cJx35411_init_45d68 2 ({ frames := 1, cells := 0, slots := 0, locals := 20 } : Room) [.ref it, .ref al] [(it, .inr (3, [.int (nI 0), .int (nI 0), .int (nI 0), .null])), (al, .inr (4, [.int md, .ref (gE G), .int (nI 0)]))] (fun (u : Unit) => True) (fun (u : Unit) => [(it, .inr (3, [.int (nI 0), .int (-1), .int md, .ref al])), (al, .inr (4, [.int md, .ref (gE G), .int (nI 0)]))]) := by
  intro sz
  refine Met.ofW (cc := cJx35411_init_45d68) (maxL := 2) (ret := none) (by decide) rfl ?_
  intro p e s m args below meth c s₁ B9 hml hv
  obtain ⟨rfl, hsz, hP, hK, hD0, hE⟩ := hv
  have hx := B9.exec
  have hb := B9.bytes
  have hr := B9.returns
  have hts : ∀ w ∈ WW, w.before ([.ref it, .ref al] : List Value).toArray s = true := fun w h => atoms_spec (ws := .code yJx35411_init_45d68 cJx35411_init_45d68 2 none :: WW) B9.pre w (List.mem_cons_of_mem _ h)
  have hown : s.vm.findClass RJx35411 = some m.cls := findClass_of_methodNamed B9.named
  have hin : meth.name = "<init>" := (name_of_methodNamed B9.named B9.method).1
  subst hsz
  have hD := hD0.self (sz := s.heap.size)
  generalize hAe : va_A [(it, .inr (3, [.int (nI 0), .int (nI 0), .int (nI 0), .null])), (al, .inr (4, [.int md, .ref (gE G), .int (nI 0)]))] s.heap.size = A at hD hE ⊢
  have hA : ∀ q : Nat, s.heap.size ≤ q → A q := fun q h => by rw [← hAe]; exact Or.inr h
  have hl := lv_entry ([.ref it, .ref al]) (n := 2) (Nat.le_of_ble_eq_true rfl)
  rw [lg_entry_eq]
  generalize (lg_sl ([.ref it, .ref al]) ++ List.replicate (2 - (lg_sl ([.ref it, .ref al])).length) Slot.unset).toArray = ls at hl ⊢
  have hl : lv_has ls 2 [(0, .ref it), (1, .ref al)] := hl
  refine qgen (fun Q hQ => ?_)
  refine hgen (fun H locs hP hD hS => ?_) hP hD
  refine lv_aload_n hx hb dJx35411_init_45d68_0 rfl (lv_at hl 0 rfl) ?_
  refine lv_aload_n hx hb dJx35411_init_45d68_1 rfl (lv_at hl 1 rfl) ?_
  refine va_putF (D := gD G) (ci := 3) (v := .ref al) (ty := .object "java/util/ArrayList") (C := RJx35411) (T := TJx35411) (N := 4) hx hb hts fwJx35411 tyJx35411 tyJx35411_ok nmJx35411 hown hK hP hD hS 0 rfl rfl 3 (by decide) (hts _ q1119) (fun _ h9 => h9) rfl hin rfl (by decide +kernel) rfl rfl (Nat.le_of_ble_eq_true rfl) dJx35411_init_45d68_2 (fun H locs hP hD hS => ?_)
  have hP : va_P (gD G) vwCl [(it, .inr (3, [.int (nI 0), .int (nI 0), .int (nI 0), .ref al])), (al, .inr (4, [.int md, .ref (gE G), .int (nI 0)]))] H := hP
  have hD : va_D A [(it, .inr (3, [.int (nI 0), .int (nI 0), .int (nI 0), .ref al])), (al, .inr (4, [.int md, .ref (gE G), .int (nI 0)]))] := hD
  refine lv_aload_n hx hb dJx35411_init_45d68_5 rfl (lv_at hl 0 rfl) ?_
  refine W.objInit hx hb hown (hts _ q1115) (hts _ q86) (hts _ q87) rfl (by rw [hml]; exact hl.1) rfl dJx35411_init_45d68_6 (Nat.le_of_ble_eq_true rfl) (Nat.le_of_ble_eq_true rfl) ?_
  refine W.eq (g2 := F0 m 9 ls []) rfl ?_
  refine lv_aload_n hx hb dJx35411_init_45d68_9 rfl (lv_at hl 0 rfl) ?_
  refine lv_iconst (v := -1) hx hb dJx35411_init_45d68_10 (by decide) ?_
  refine va_put (D := gD G) (ci := 3) (v := .int (-1)) (ty := .int) (C := RJx35411) (T := TJx35411) (N := 4) hx hb hts fwJx35411 tyJx35411 tyJx35411_ok nmJx35411 hown hK hP hD hS 0 rfl rfl 1 (by decide) (hts _ q1117) (fun _ h9 => h9) rfl (by decide +kernel) rfl rfl (Nat.le_of_ble_eq_true rfl) dJx35411_init_45d68_11 (fun H locs hP hD hS => ?_)
  have hP : va_P (gD G) vwCl [(it, .inr (3, [.int (nI 0), .int (-1), .int (nI 0), .ref al])), (al, .inr (4, [.int md, .ref (gE G), .int (nI 0)]))] H := hP
  have hD : va_D A [(it, .inr (3, [.int (nI 0), .int (-1), .int (nI 0), .ref al])), (al, .inr (4, [.int md, .ref (gE G), .int (nI 0)]))] := hD
  refine lv_aload_n hx hb dJx35411_init_45d68_14 rfl (lv_at hl 0 rfl) ?_
  refine lv_aload_n hx hb dJx35411_init_45d68_15 rfl (lv_at hl 0 rfl) ?_
  refine va_get (D := gD G) (ci := 3) (v := .ref al) (C := RJx35411) (T := TJx35411) (N := 4) hx hb hts fwJx35411 hown hK hP 0 rfl rfl 3 (by decide) (hts _ q1119) (fun _ h9 => h9) rfl dJx35411_init_45d68_16 ?_
  refine va_get (D := gD G) (ci := 4) (v := .int md) (C := RJx4a65c) (T := TJx4a65c) (N := 3) hx hb hts fwJx4a65c hown hK hP 1 rfl rfl 0 (by decide) (hts _ q107) (fun x9 h9 => u_same (hts _ q108) x9 h9) rfl dJx35411_init_45d68_19 ?_
  refine va_put (D := gD G) (ci := 3) (v := .int md) (ty := .int) (C := RJx35411) (T := TJx35411) (N := 4) hx hb hts fwJx35411 tyJx35411 tyJx35411_ok nmJx35411 hown hK hP hD hS 0 rfl rfl 2 (by decide) (hts _ q1118) (fun _ h9 => h9) rfl (by decide +kernel) rfl rfl (Nat.le_of_ble_eq_true rfl) dJx35411_init_45d68_22 (fun H locs hP hD hS => ?_)
  have hP : va_P (gD G) vwCl [(it, .inr (3, [.int (nI 0), .int (-1), .int md, .ref al])), (al, .inr (4, [.int md, .ref (gE G), .int (nI 0)]))] H := hP
  have hD : va_D A [(it, .inr (3, [.int (nI 0), .int (-1), .int md, .ref al])), (al, .inr (4, [.int md, .ref (gE G), .int (nI 0)]))] := hD
  have hP9 := hP.sub (ws' := [(it, .inr (3, [.int (nI 0), .int (-1), .int md, .ref al])), (al, .inr (4, [.int md, .ref (gE G), .int (nI 0)]))]) [0, 1] rfl
  have hD9 := hD.sub (ws' := [(it, .inr (3, [.int (nI 0), .int (-1), .int md, .ref al])), (al, .inr (4, [.int md, .ref (gE G), .int (nI 0)]))]) [0, 1] (by decide) rfl
  subst hQ
  exact W.vret hx hb hr (fun t ht hW => ⟨⟨(), rfl, trivial, by rw [ht]; exact hP9, hD9⟩, hS.F ht⟩) hS.2.2 dJx35411_init_45d68_25
set_option maxHeartbeats 4000000 in
set_option maxRecDepth 100000 in
theorem c_Jx4a65c_iterator_32c93 (l : Launch) (G : GG) (al : Nat) (md : Int32) : Mr l G yJx4a65c_iterator_32c93 cJx4a65c_iterator_32c93 1 (some (.object "java/util/Iterator")) ({ frames := 2, cells := 1, slots := 4, locals := 41 } : Room) [.ref al] [(al, .inr (4, [.int md, .ref (gE G), .int (nI 0)]))] (fun (u : Unit) (r : Nat) => True) (fun (u : Unit) (r : Nat) => [(al, .inr (4, [.int md, .ref (gE G), .int (nI 0)])), (r, .inr (3, [.int (nI 0), .int (-1), .int md, .ref al]))]) := by
  intro sz
  refine Met.ofW (cc := cJx4a65c_iterator_32c93) (maxL := 1) (ret := (some (.object "java/util/Iterator"))) (by decide) rfl ?_
  intro p e s m args below meth c s₁ B9 hml hv
  obtain ⟨rfl, hsz, hP, hK, hD0, hE⟩ := hv
  have hx := B9.exec
  have hb := B9.bytes
  have hr := B9.returns
  have hts : ∀ w ∈ WW, w.before ([.ref al] : List Value).toArray s = true := fun w h => atoms_spec (ws := .code yJx4a65c_iterator_32c93 cJx4a65c_iterator_32c93 1 (some (.object "java/util/Iterator")) :: WW) B9.pre w (List.mem_cons_of_mem _ h)
  have hown : s.vm.findClass RJx4a65c = some m.cls := findClass_of_methodNamed B9.named
  subst hsz
  have hD := hD0.self (sz := s.heap.size)
  generalize hAe : va_A [(al, .inr (4, [.int md, .ref (gE G), .int (nI 0)]))] s.heap.size = A at hD hE ⊢
  have hA : ∀ q : Nat, s.heap.size ≤ q → A q := fun q h => by rw [← hAe]; exact Or.inr h
  have hl := lv_entry ([.ref al]) (n := 1) (Nat.le_of_ble_eq_true rfl)
  rw [lg_entry_eq]
  generalize (lg_sl ([.ref al]) ++ List.replicate (1 - (lg_sl ([.ref al])).length) Slot.unset).toArray = ls at hl ⊢
  have hl : lv_has ls 1 [(0, .ref al)] := hl
  refine qgen (fun Q hQ => ?_)
  refine hgen (fun H locs hP hD hS => ?_) hP hD
  refine va_new (D := gD G) (ci := 3) (fs := [.int 0, .int 0, .int 0, .null]) (C := RJx35411) (T := TJx35411) (N := 4) hx hb hts fwJx35411 tyJx35411 tyJx35411_ok hown (hts _ q1110) (hts _ q1111) (hts _ q76) hK hP hD hS hA rfl (fun j hj => by rcases (show j = 0 ∨ j = 1 ∨ j = 2 ∨ j = 3 by omega) with rfl | rfl | rfl | rfl <;> rfl) (Nat.le_of_ble_eq_true rfl) (Nat.le_of_ble_eq_true rfl) dJx4a65c_iterator_32c93_0 (fun q_1 H hP hD hS => ?_)
  have hP : va_P (gD G) vwCl [(al, .inr (4, [.int md, .ref (gE G), .int (nI 0)])), (q_1, .inr (3, [.int (nI 0), .int (nI 0), .int (nI 0), .null]))] H := hP
  have hD : va_D A [(al, .inr (4, [.int md, .ref (gE G), .int (nI 0)])), (q_1, .inr (3, [.int (nI 0), .int (nI 0), .int (nI 0), .null]))] := hD
  refine lv_dup hx hb dJx4a65c_iterator_32c93_3 rfl ?_
  refine lv_aload_n hx hb dJx4a65c_iterator_32c93_4 rfl (lv_at hl 0 rfl) ?_
  refine fin_v hP hD hS hA [1, 0] [] (wr := []) rfl rfl (by decide) (by decide) (va_runI (As := [.ref al]) (rest := [.ref q_1]) ⟨hx, hb, hml, hown, hts⟩ (c_Jx35411_init_45d68 l G q_1 al md H.size) (cwI 1 hts (gI q1114) rfl rfl rfl (hts _ q76) (hts _ q1112) (hts _ q1113) rfl (by decide +kernel) ⟨Nat.le_of_ble_eq_true rfl, Nat.le_of_ble_eq_true rfl⟩) (preS hK hE hP hD hS hA [1, 0] rfl (by decide)) rfl rfl hl.1 rfl (lv_room (Nat.le_of_ble_eq_true rfl)) dJx4a65c_iterator_32c93_5 ⟨Nat.le_of_ble_eq_true rfl, Nat.le_of_ble_eq_true rfl⟩) (fun u9 hw_2 H locs hP hD hS => ?_)
  have hP : va_P (gD G) vwCl [(q_1, .inr (3, [.int (nI 0), .int (-1), .int md, .ref al])), (al, .inr (4, [.int md, .ref (gE G), .int (nI 0)]))] H := hP
  have hD : va_D A [(q_1, .inr (3, [.int (nI 0), .int (-1), .int md, .ref al])), (al, .inr (4, [.int md, .ref (gE G), .int (nI 0)]))] := hD
  have hP9 := hP.sub (ws' := [(al, .inr (4, [.int md, .ref (gE G), .int (nI 0)])), (q_1, .inr (3, [.int (nI 0), .int (-1), .int md, .ref al]))]) [1, 0] rfl
  have hD9 := hD.sub (ws' := [(al, .inr (4, [.int md, .ref (gE G), .int (nI 0)])), (q_1, .inr (3, [.int (nI 0), .int (-1), .int md, .ref al]))]) [1, 0] (by decide) rfl
  subst hQ
  exact W.aret (v := .ref q_1) hx hb hr (Or.inl ⟨_, rfl⟩) (Or.inr ⟨_, rfl⟩) (fun t ht hW => ⟨⟨(), q_1, rfl, trivial, trivial, by rw [ht]; exact hP9, hD9⟩, hS.F ht⟩) hS.2.2 dJx4a65c_iterator_32c93_8
set_option maxHeartbeats 4000000 in
set_option maxRecDepth 100000 in
theorem c_Jx35411_hasNext_aae02 (l : Launch) (G : GG) (it : Nat) (al : Nat) (md : Int32) : Mi l G yJx35411_hasNext_aae02 cJx35411_hasNext_aae02 1 (some .boolean) ({ frames := 0, cells := 0, slots := 0, locals := 0 } : Room) [.ref it] [(it, .inr (3, [.int (nI 0), .int (-1), .int md, .ref al])), (al, .inr (4, [.int md, .ref (gE G), .int (nI 0)]))] (fun (r : Int32) (u : Unit) => r = nI 0) (fun (u : Unit) => [(it, .inr (3, [.int (nI 0), .int (-1), .int md, .ref al])), (al, .inr (4, [.int md, .ref (gE G), .int (nI 0)]))]) := by
  intro sz
  refine Met.ofW (cc := cJx35411_hasNext_aae02) (maxL := 1) (ret := (some .boolean)) (by decide) rfl ?_
  intro p e s m args below meth c s₁ B9 hml hv
  obtain ⟨rfl, hsz, hP, hK, hD0, hE⟩ := hv
  have hx := B9.exec
  have hb := B9.bytes
  have hr := B9.returns
  have hts : ∀ w ∈ WW, w.before ([.ref it] : List Value).toArray s = true := fun w h => atoms_spec (ws := .code yJx35411_hasNext_aae02 cJx35411_hasNext_aae02 1 (some .boolean) :: WW) B9.pre w (List.mem_cons_of_mem _ h)
  have hown : s.vm.findClass RJx35411 = some m.cls := findClass_of_methodNamed B9.named
  subst hsz
  have hD := hD0.self (sz := s.heap.size)
  generalize hAe : va_A [(it, .inr (3, [.int (nI 0), .int (-1), .int md, .ref al])), (al, .inr (4, [.int md, .ref (gE G), .int (nI 0)]))] s.heap.size = A at hD hE ⊢
  have hA : ∀ q : Nat, s.heap.size ≤ q → A q := fun q h => by rw [← hAe]; exact Or.inr h
  have hl := lv_entry ([.ref it]) (n := 1) (Nat.le_of_ble_eq_true rfl)
  rw [lg_entry_eq]
  generalize (lg_sl ([.ref it]) ++ List.replicate (1 - (lg_sl ([.ref it])).length) Slot.unset).toArray = ls at hl ⊢
  have hl : lv_has ls 1 [(0, .ref it)] := hl
  refine qgen (fun Q hQ => ?_)
  refine hgen (fun H locs hP hD hS => ?_) hP hD
  refine lv_aload_n hx hb dJx35411_hasNext_aae02_0 rfl (lv_at hl 0 rfl) ?_
  refine va_get (D := gD G) (ci := 3) (v := .int (nI 0)) (C := RJx35411) (T := TJx35411) (N := 4) hx hb hts fwJx35411 hown hK hP 0 rfl rfl 0 (by decide) (hts _ q1116) (fun _ h9 => h9) rfl dJx35411_hasNext_aae02_1 ?_
  refine lv_aload_n hx hb dJx35411_hasNext_aae02_4 rfl (lv_at hl 0 rfl) ?_
  refine va_get (D := gD G) (ci := 3) (v := .ref al) (C := RJx35411) (T := TJx35411) (N := 4) hx hb hts fwJx35411 hown hK hP 0 rfl rfl 3 (by decide) (hts _ q1119) (fun _ h9 => h9) rfl dJx35411_hasNext_aae02_5 ?_
  refine va_getN (D := gD G) (ci := 4) (v := .int (nI 0)) (C := RJx4a65c) (T := TJx4a65c) (N := 3) hx hb hts fwJx4a65c hown hK hP 1 rfl rfl 2 (by decide) (va_Nw.use rfl (hE.1.1 _ nq104)) (fun _ h9 => h9) rfl dJx35411_hasNext_aae02_8 ?_
  refine lv_icmp_eq (tgt := 18) hx hb dJx35411_hasNext_aae02_11 (by decide) (fun c_1 => ?_) (fun c_1 => ?_)
  · skip
    have c_1 : 0 = 0 := (nI_eq (a := 0) (b := 0) (by omega) (by omega)).mp c_1
    refine lv_iconst (v := nI 0) hx hb dJx35411_hasNext_aae02_18 (by decide) ?_
    have hP9 := hP.sub (ws' := [(it, .inr (3, [.int (nI 0), .int (-1), .int md, .ref al])), (al, .inr (4, [.int md, .ref (gE G), .int (nI 0)]))]) [0, 1] rfl
    have hD9 := hD.sub (ws' := [(it, .inr (3, [.int (nI 0), .int (-1), .int md, .ref al])), (al, .inr (4, [.int md, .ref (gE G), .int (nI 0)]))]) [0, 1] (by decide) rfl
    subst hQ
    exact W.zret (v := nI 0) hx hb hr (by decide) (fun t ht hW => ⟨⟨nI 0, (), rfl, rfl, by rw [ht]; exact hP9, hD9⟩, hS.F ht⟩) hS.2.2 dJx35411_hasNext_aae02_19
  · skip
    have c_1 : ¬ 0 = 0 := fun z => c_1 ((nI_eq (a := 0) (b := 0) (by omega) (by omega)).mpr z)
    exact absurd c_1 (by decide)
set_option maxHeartbeats 4000000 in
set_option maxRecDepth 100000 in
theorem c_Jx4a65c_isEmpty_aae02 (l : Launch) (G : GG) (al : Nat) (md : Int32) : Mi l G yJx4a65c_isEmpty_aae02 cJx4a65c_isEmpty_aae02 1 (some .boolean) ({ frames := 0, cells := 0, slots := 0, locals := 0 } : Room) [.ref al] [(al, .inr (4, [.int md, .ref (gE G), .int (nI 0)]))] (fun (r : Int32) (u : Unit) => r = nI 1) (fun (u : Unit) => [(al, .inr (4, [.int md, .ref (gE G), .int (nI 0)]))]) := by
  intro sz
  refine Met.ofW (cc := cJx4a65c_isEmpty_aae02) (maxL := 1) (ret := (some .boolean)) (by decide) rfl ?_
  intro p e s m args below meth c s₁ B9 hml hv
  obtain ⟨rfl, hsz, hP, hK, hD0, hE⟩ := hv
  have hx := B9.exec
  have hb := B9.bytes
  have hr := B9.returns
  have hts : ∀ w ∈ WW, w.before ([.ref al] : List Value).toArray s = true := fun w h => atoms_spec (ws := .code yJx4a65c_isEmpty_aae02 cJx4a65c_isEmpty_aae02 1 (some .boolean) :: WW) B9.pre w (List.mem_cons_of_mem _ h)
  have hown : s.vm.findClass RJx4a65c = some m.cls := findClass_of_methodNamed B9.named
  subst hsz
  have hD := hD0.self (sz := s.heap.size)
  generalize hAe : va_A [(al, .inr (4, [.int md, .ref (gE G), .int (nI 0)]))] s.heap.size = A at hD hE ⊢
  have hA : ∀ q : Nat, s.heap.size ≤ q → A q := fun q h => by rw [← hAe]; exact Or.inr h
  have hl := lv_entry ([.ref al]) (n := 1) (Nat.le_of_ble_eq_true rfl)
  rw [lg_entry_eq]
  generalize (lg_sl ([.ref al]) ++ List.replicate (1 - (lg_sl ([.ref al])).length) Slot.unset).toArray = ls at hl ⊢
  have hl : lv_has ls 1 [(0, .ref al)] := hl
  refine qgen (fun Q hQ => ?_)
  refine hgen (fun H locs hP hD hS => ?_) hP hD
  refine lv_aload_n hx hb dJx4a65c_isEmpty_aae02_0 rfl (lv_at hl 0 rfl) ?_
  refine va_get (D := gD G) (ci := 4) (v := .int (nI 0)) (C := RJx4a65c) (T := TJx4a65c) (N := 3) hx hb hts fwJx4a65c hown hK hP 0 rfl rfl 2 (by decide) (hts _ q105) (fun _ h9 => h9) rfl dJx4a65c_isEmpty_aae02_1 ?_
  refine lv_if_ne (tgt := 11) hx hb dJx4a65c_isEmpty_aae02_4 (by decide) (fun c_1 => ?_) (fun c_1 => ?_)
  · skip
    have c_1 : ¬ 0 = 0 := fun z => c_1 ((nI_eq (a := 0) (b := 0) (by omega) (by omega)).mpr z)
    exact absurd c_1 (by decide)
  · skip
    have c_1 : 0 = 0 := (nI_eq (a := 0) (b := 0) (by omega) (by omega)).mp c_1
    refine lv_iconst (v := nI 1) hx hb dJx4a65c_isEmpty_aae02_7 (by decide) ?_
    refine lv_goto (tgt := 12) hx hb dJx4a65c_isEmpty_aae02_8 (by decide) ?_
    have hP9 := hP.sub (ws' := [(al, .inr (4, [.int md, .ref (gE G), .int (nI 0)]))]) [0] rfl
    have hD9 := hD.sub (ws' := [(al, .inr (4, [.int md, .ref (gE G), .int (nI 0)]))]) [0] (by decide) rfl
    subst hQ
    exact W.zret (v := nI 1) hx hb hr (by decide) (fun t ht hW => ⟨⟨nI 1, (), rfl, rfl, by rw [ht]; exact hP9, hD9⟩, hS.F ht⟩) hS.2.2 dJx4a65c_isEmpty_aae02_12
set_option maxHeartbeats 4000000 in
set_option maxRecDepth 100000 in
theorem c_X10_checksum (l : Launch) (G : GG) (mo : Nat) (th : Int32) (al : Nat) (zn : Nat) (pf : Nat) (rs : Int32) (md : Int32) : Ml l G yX10_checksum cX10_checksum 6 ({ frames := 3, cells := 1, slots := 4, locals := 61 } : Room) [.ref mo] [(mo, .inr (15, [.int th, .ref al, .long (lN zn), .null, .ref pf, .int rs])), (al, .inr (4, [.int md, .ref (gE G), .int (nI 0)]))] (fun (r : Int64) (u : Unit) => r = lN 0) (fun (u : Unit) => [(mo, .inr (15, [.int (nI 0), .ref al, .long (lN zn), .null, .ref pf, .int rs])), (al, .inr (4, [.int md, .ref (gE G), .int (nI 0)]))]) := by
  intro sz
  refine Met.ofW (cc := cX10_checksum) (maxL := 6) (ret := (some .long)) (by decide) rfl ?_
  intro p e s m args below meth c s₁ B9 hml hv
  obtain ⟨rfl, hsz, hP, hK, hD0, hE⟩ := hv
  have hx := B9.exec
  have hb := B9.bytes
  have hr := B9.returns
  have hts : ∀ w ∈ WW, w.before ([.ref mo] : List Value).toArray s = true := fun w h => atoms_spec (ws := .code yX10_checksum cX10_checksum 6 (some .long) :: WW) B9.pre w (List.mem_cons_of_mem _ h)
  have hown : s.vm.findClass RX10 = some m.cls := findClass_of_methodNamed B9.named
  subst hsz
  have hD := hD0.self (sz := s.heap.size)
  generalize hAe : va_A [(mo, .inr (15, [.int th, .ref al, .long (lN zn), .null, .ref pf, .int rs])), (al, .inr (4, [.int md, .ref (gE G), .int (nI 0)]))] s.heap.size = A at hD hE ⊢
  have hA : ∀ q : Nat, s.heap.size ≤ q → A q := fun q h => by rw [← hAe]; exact Or.inr h
  have hl := lv_entry ([.ref mo]) (n := 6) (Nat.le_of_ble_eq_true rfl)
  rw [lg_entry_eq]
  generalize (lg_sl ([.ref mo]) ++ List.replicate (6 - (lg_sl ([.ref mo])).length) Slot.unset).toArray = ls at hl ⊢
  have hl : lv_has ls 6 [(0, .ref mo)] := hl
  refine qgen (fun Q hQ => ?_)
  refine hgen (fun H locs hP hD hS => ?_) hP hD
  refine lv_aload_n hx hb dX10_checksum_0 rfl (lv_at hl 0 rfl) ?_
  refine lv_iconst (v := nI 0) hx hb dX10_checksum_1 (by decide) ?_
  refine va_put (D := gD G) (ci := 15) (v := .int (nI 0)) (ty := .int) (C := RX10) (T := TX10) (N := 6) hx hb hts fwX10 tyX10 tyX10_ok nmX10 hown hK hP hD hS 0 rfl rfl 0 (by decide) (hts _ q927) (fun _ h9 => h9) rfl (by decide +kernel) rfl rfl (Nat.le_of_ble_eq_true rfl) dX10_checksum_2 (fun H locs hP hD hS => ?_)
  have hP : va_P (gD G) vwCl [(mo, .inr (15, [.int (nI 0), .ref al, .long (lN zn), .null, .ref pf, .int rs])), (al, .inr (4, [.int md, .ref (gE G), .int (nI 0)]))] H := hP
  have hD : va_D A [(mo, .inr (15, [.int (nI 0), .ref al, .long (lN zn), .null, .ref pf, .int rs])), (al, .inr (4, [.int md, .ref (gE G), .int (nI 0)]))] := hD
  refine lv_lconst (v := lN 0) hx hb dX10_checksum_5 (by decide) ?_
  refine lv_lstore_n (lv' := [(1, .long (lN 0)), (0, .ref mo)]) hx hb dX10_checksum_6 rfl hl (by decide) rfl (fun ls hl => ?_)
  refine lv_aload_n hx hb dX10_checksum_7 rfl (lv_at hl 1 rfl) ?_
  refine va_get (D := gD G) (ci := 15) (v := .ref al) (C := RX10) (T := TX10) (N := 6) hx hb hts fwX10 hown hK hP 0 rfl rfl 1 (by decide) (hts _ q928) (fun _ h9 => h9) rfl dX10_checksum_8 ?_
  refine fin_r5 hP hD hS hA [1] [0] (wr := [(mo, .inr (15, [.int (nI 0), .ref al, .long (lN zn), .null, .ref pf, .int rs]))]) rfl rfl (by decide) (by decide) (va_runF (As := []) (rest := []) (hK.1 4 _ rfl).2 ⟨hx, hb, hml, hown, hts⟩ (c_Jx4a65c_iterator_32c93 l G al md H.size) (va_cwF 0 hts (gF q1284 q1105 q1107 q48 q1109) rfl rfl rfl (hE.1.2.1 _ FW2) (by decide +kernel) ⟨Nat.le_of_ble_eq_true rfl, Nat.le_of_ble_eq_true rfl⟩) (preV (q0 := 1) (ci := 4) hK hE hP hD hS hA [1] rfl (by decide) rfl rfl) rfl rfl hl.1 rfl (lv_room (Nat.le_of_ble_eq_true rfl)) dX10_checksum_11 ⟨Nat.le_of_ble_eq_true rfl, Nat.le_of_ble_eq_true rfl⟩) (fun u9 r_2 hw_1 H locs hP hD hS => ?_)
  have hP : va_P (gD G) vwCl [(mo, .inr (15, [.int (nI 0), .ref al, .long (lN zn), .null, .ref pf, .int rs])), (al, .inr (4, [.int md, .ref (gE G), .int (nI 0)])), (r_2, .inr (3, [.int (nI 0), .int (-1), .int md, .ref al]))] H := hP
  have hD : va_D A [(mo, .inr (15, [.int (nI 0), .ref al, .long (lN zn), .null, .ref pf, .int rs])), (al, .inr (4, [.int md, .ref (gE G), .int (nI 0)])), (r_2, .inr (3, [.int (nI 0), .int (-1), .int md, .ref al]))] := hD
  refine lv_astore_n (lv' := [(3, .ref r_2), (1, .long (lN 0)), (0, .ref mo)]) hx hb dX10_checksum_16 rfl hl (by decide) rfl (fun ls hl => ?_)
  refine lv_aload_n hx hb dX10_checksum_17 rfl (lv_at hl 0 rfl) ?_
  refine fin_i5 hP hD hS hA [2, 1] [0] (wr := [(mo, .inr (15, [.int (nI 0), .ref al, .long (lN zn), .null, .ref pf, .int rs]))]) rfl rfl (by decide) (by decide) (va_runF (As := []) (rest := []) (hK.1 3 _ rfl).2 ⟨hx, hb, hml, hown, hts⟩ (c_Jx35411_hasNext_aae02 l G r_2 al md H.size) (va_cwF 0 hts (gF q1286 q1134 q1136 q76 q1138) rfl rfl rfl (hE.1.2.1 _ FW4) (by decide +kernel) ⟨Nat.le_of_ble_eq_true rfl, Nat.le_of_ble_eq_true rfl⟩) (preV (q0 := 2) (ci := 3) hK hE hP hD hS hA [2, 1] rfl (by decide) rfl rfl) rfl rfl hl.1 rfl (lv_room (Nat.le_of_ble_eq_true rfl)) dX10_checksum_18 ⟨Nat.le_of_ble_eq_true rfl, Nat.le_of_ble_eq_true rfl⟩) (fun r_4 u9 hw_3 H locs hP hD hS => ?_)
  subst hw_3
  have hP : va_P (gD G) vwCl [(mo, .inr (15, [.int (nI 0), .ref al, .long (lN zn), .null, .ref pf, .int rs])), (r_2, .inr (3, [.int (nI 0), .int (-1), .int md, .ref al])), (al, .inr (4, [.int md, .ref (gE G), .int (nI 0)]))] H := hP
  have hD : va_D A [(mo, .inr (15, [.int (nI 0), .ref al, .long (lN zn), .null, .ref pf, .int rs])), (r_2, .inr (3, [.int (nI 0), .int (-1), .int md, .ref al])), (al, .inr (4, [.int md, .ref (gE G), .int (nI 0)]))] := hD
  refine lv_if_eq (tgt := 86) hx hb dX10_checksum_23 (by decide) (fun c_5 => ?_) (fun c_5 => ?_)
  · skip
    have c_5 : 0 = 0 := (nI_eq (a := 0) (b := 0) (by omega) (by omega)).mp c_5
    refine lv_lload_n hx hb dX10_checksum_86 rfl (lv_at hl 1 rfl) ?_
    have hP9 := hP.sub (ws' := [(mo, .inr (15, [.int (nI 0), .ref al, .long (lN zn), .null, .ref pf, .int rs])), (al, .inr (4, [.int md, .ref (gE G), .int (nI 0)]))]) [0, 2] rfl
    have hD9 := hD.sub (ws' := [(mo, .inr (15, [.int (nI 0), .ref al, .long (lN zn), .null, .ref pf, .int rs])), (al, .inr (4, [.int md, .ref (gE G), .int (nI 0)]))]) [0, 2] (by decide) rfl
    subst hQ
    exact W.lret (v := lN 0) hx hb hr (fun t ht hW => ⟨⟨lN 0, (), rfl, rfl, by rw [ht]; exact hP9, hD9⟩, hS.F ht⟩) hS.2.2 dX10_checksum_87
  · skip
    have c_5 : ¬ 0 = 0 := fun z => c_5 ((nI_eq (a := 0) (b := 0) (by omega) (by omega)).mpr z)
    exact absurd c_5 (by decide)
set_option maxHeartbeats 4000000 in
set_option maxRecDepth 100000 in
theorem c_X10_solvedShare (l : Launch) (G : GG) (mo : Nat) (th : Int32) (al : Nat) (zn : Nat) (pf : Nat) (rs : Int32) (md : Int32) : Mf l G yX10_solvedShare cX10_solvedShare 3 ({ frames := 1, cells := 0, slots := 0, locals := 21 } : Room) [.ref mo] [(mo, .inr (15, [.int th, .ref al, .long (lN zn), .null, .ref pf, .int rs])), (al, .inr (4, [.int md, .ref (gE G), .int (nI 0)]))] (fun (r : UInt32) (u : Unit) => True) (fun (u : Unit) => [(mo, .inr (15, [.int (nI 1), .ref al, .long (lN zn), .null, .ref pf, .int rs])), (al, .inr (4, [.int md, .ref (gE G), .int (nI 0)]))]) := by
  intro sz
  refine Met.ofW (cc := cX10_solvedShare) (maxL := 3) (ret := (some .float)) (by decide) rfl ?_
  intro p e s m args below meth c s₁ B9 hml hv
  obtain ⟨rfl, hsz, hP, hK, hD0, hE⟩ := hv
  have hx := B9.exec
  have hb := B9.bytes
  have hr := B9.returns
  have hts : ∀ w ∈ WW, w.before ([.ref mo] : List Value).toArray s = true := fun w h => atoms_spec (ws := .code yX10_solvedShare cX10_solvedShare 3 (some .float) :: WW) B9.pre w (List.mem_cons_of_mem _ h)
  have hown : s.vm.findClass RX10 = some m.cls := findClass_of_methodNamed B9.named
  subst hsz
  have hD := hD0.self (sz := s.heap.size)
  generalize hAe : va_A [(mo, .inr (15, [.int th, .ref al, .long (lN zn), .null, .ref pf, .int rs])), (al, .inr (4, [.int md, .ref (gE G), .int (nI 0)]))] s.heap.size = A at hD hE ⊢
  have hA : ∀ q : Nat, s.heap.size ≤ q → A q := fun q h => by rw [← hAe]; exact Or.inr h
  have hl := lv_entry ([.ref mo]) (n := 3) (Nat.le_of_ble_eq_true rfl)
  rw [lg_entry_eq]
  generalize (lg_sl ([.ref mo]) ++ List.replicate (3 - (lg_sl ([.ref mo])).length) Slot.unset).toArray = ls at hl ⊢
  have hl : lv_has ls 3 [(0, .ref mo)] := hl
  refine qgen (fun Q hQ => ?_)
  refine hgen (fun H locs hP hD hS => ?_) hP hD
  refine lv_iconst (v := nI 0) hx hb dX10_solvedShare_0 (by decide) ?_
  refine lv_istore_n (lv' := [(1, .int (nI 0)), (0, .ref mo)]) hx hb dX10_solvedShare_1 rfl hl (by decide) rfl (fun ls hl => ?_)
  refine lv_iconst (v := nI 0) hx hb dX10_solvedShare_2 (by decide) ?_
  refine lv_istore_n (lv' := [(2, .int (nI 0)), (1, .int (nI 0)), (0, .ref mo)]) hx hb dX10_solvedShare_3 rfl hl (by decide) rfl (fun ls hl => ?_)
  refine lv_iload_n hx hb dX10_solvedShare_4 rfl (lv_at hl 0 rfl) ?_
  refine lv_aload_n hx hb dX10_solvedShare_5 rfl (lv_at hl 2 rfl) ?_
  refine va_get (D := gD G) (ci := 15) (v := .ref al) (C := RX10) (T := TX10) (N := 6) hx hb hts fwX10 hown hK hP 0 rfl rfl 1 (by decide) (hts _ q928) (fun _ h9 => h9) rfl dX10_solvedShare_6 ?_
  refine fin_i5 hP hD hS hA [1] [0] (wr := [(mo, .inr (15, [.int th, .ref al, .long (lN zn), .null, .ref pf, .int rs]))]) rfl rfl (by decide) (by decide) (va_runF (As := []) (rest := [.int (nI 0)]) (hK.1 4 _ rfl).2 ⟨hx, hb, hml, hown, hts⟩ (c_Jx4a65c_size_8abf5 l G al md (gE G) 0 H.size) (va_cwF 0 hts (gF q955 q959 q209 q48 q211) rfl rfl rfl (hE.1.2.1 _ FW0) (by decide +kernel) ⟨Nat.le_of_ble_eq_true rfl, Nat.le_of_ble_eq_true rfl⟩) (preV (q0 := 1) (ci := 4) hK hE hP hD hS hA [1] rfl (by decide) rfl rfl) rfl rfl hl.1 rfl (lv_room (Nat.le_of_ble_eq_true rfl)) dX10_solvedShare_9 ⟨Nat.le_of_ble_eq_true rfl, Nat.le_of_ble_eq_true rfl⟩) (fun r_2 u9 hw_1 H locs hP hD hS => ?_)
  subst hw_1
  have hP : va_P (gD G) vwCl [(mo, .inr (15, [.int th, .ref al, .long (lN zn), .null, .ref pf, .int rs])), (al, .inr (4, [.int md, .ref (gE G), .int (nI 0)]))] H := hP
  have hD : va_D A [(mo, .inr (15, [.int th, .ref al, .long (lN zn), .null, .ref pf, .int rs])), (al, .inr (4, [.int md, .ref (gE G), .int (nI 0)]))] := hD
  refine lv_icmp_ge (tgt := 44) hx hb dX10_solvedShare_14 (by decide) (fun c_3 => ?_) (fun c_3 => ?_)
  · skip
    have c_3 : 0 ≤ 0 := (nI_leI (a := 0) (b := 0) (by omega) (by omega)).mp c_3
    refine lv_aload_n hx hb dX10_solvedShare_44 rfl (lv_at hl 2 rfl) ?_
    refine lv_aload_n hx hb dX10_solvedShare_45 rfl (lv_at hl 2 rfl) ?_
    refine va_get (D := gD G) (ci := 15) (v := .ref al) (C := RX10) (T := TX10) (N := 6) hx hb hts fwX10 hown hK hP 0 rfl rfl 1 (by decide) (hts _ q928) (fun _ h9 => h9) rfl dX10_solvedShare_46 ?_
    refine fin_i5 hP hD hS hA [1] [0] (wr := [(mo, .inr (15, [.int th, .ref al, .long (lN zn), .null, .ref pf, .int rs]))]) rfl rfl (by decide) (by decide) (va_runF (As := []) (rest := [.ref mo]) (hK.1 4 _ rfl).2 ⟨hx, hb, hml, hown, hts⟩ (c_Jx4a65c_isEmpty_aae02 l G al md H.size) (va_cwF 0 hts (gF q1299 q1302 q1304 q48 q1306) rfl rfl rfl (hE.1.2.1 _ FW3) (by decide +kernel) ⟨Nat.le_of_ble_eq_true rfl, Nat.le_of_ble_eq_true rfl⟩) (preV (q0 := 1) (ci := 4) hK hE hP hD hS hA [1] rfl (by decide) rfl rfl) rfl rfl hl.1 rfl (lv_room (Nat.le_of_ble_eq_true rfl)) dX10_solvedShare_49 ⟨Nat.le_of_ble_eq_true rfl, Nat.le_of_ble_eq_true rfl⟩) (fun r_5 u9 hw_4 H locs hP hD hS => ?_)
    subst hw_4
    have hP : va_P (gD G) vwCl [(mo, .inr (15, [.int th, .ref al, .long (lN zn), .null, .ref pf, .int rs])), (al, .inr (4, [.int md, .ref (gE G), .int (nI 0)]))] H := hP
    have hD : va_D A [(mo, .inr (15, [.int th, .ref al, .long (lN zn), .null, .ref pf, .int rs])), (al, .inr (4, [.int md, .ref (gE G), .int (nI 0)]))] := hD
    refine lv_if_eq (tgt := 61) hx hb dX10_solvedShare_54 (by decide) (fun c_6 => ?_) (fun c_6 => ?_)
    · skip
      have c_6 : 1 = 0 := (nI_eq (a := 1) (b := 0) (by omega) (by omega)).mp c_6
      exact absurd c_6 (by decide)
    · skip
      have c_6 : ¬ 1 = 0 := fun z => c_6 ((nI_eq (a := 1) (b := 0) (by omega) (by omega)).mpr z)
      refine lv_iconst (v := nI 1) hx hb dX10_solvedShare_57 (by decide) ?_
      refine lv_goto (tgt := 62) hx hb dX10_solvedShare_58 (by decide) ?_
      refine fin_i hP hD hS hA [0] [1] (wr := [(al, .inr (4, [.int md, .ref (gE G), .int (nI 0)]))]) rfl rfl (by decide) (by decide) (va_runV (As := [.int (nI 1)]) (rest := []) ⟨hx, hb, hml, hown, hts⟩ (c_isWrong_k l G mo th al zn pf rs 1 (by omega) (by omega) H.size) (cwV 1 hts (gV q962 q964 q34 q52 q965) rfl rfl rfl (by decide +kernel) ⟨Nat.le_of_ble_eq_true rfl, Nat.le_of_ble_eq_true rfl⟩) (preV (q0 := 0) (ci := 15) hK hE hP hD hS hA [0] rfl (by decide) rfl rfl) rfl rfl hl.1 rfl (lv_room (Nat.le_of_ble_eq_true rfl)) dX10_solvedShare_62 ⟨Nat.le_of_ble_eq_true rfl, Nat.le_of_ble_eq_true rfl⟩) (fun r_8 u9 hw_7 H locs hP hD hS => ?_)
      subst hw_7
      have hP : va_P (gD G) vwCl [(al, .inr (4, [.int md, .ref (gE G), .int (nI 0)])), (mo, .inr (15, [.int (nI 1), .ref al, .long (lN zn), .null, .ref pf, .int rs]))] H := hP
      have hD : va_D A [(al, .inr (4, [.int md, .ref (gE G), .int (nI 0)])), (mo, .inr (15, [.int (nI 1), .ref al, .long (lN zn), .null, .ref pf, .int rs]))] := hD
      refine lv_if_eq (tgt := 72) hx hb dX10_solvedShare_65 (by decide) (fun c_9 => ?_) (fun c_9 => ?_)
      · skip
        have c_9 : 1 = 0 := (nI_eq (a := 1) (b := 0) (by omega) (by omega)).mp c_9
        exact absurd c_9 (by decide)
      · skip
        have c_9 : ¬ 1 = 0 := fun z => c_9 ((nI_eq (a := 1) (b := 0) (by omega) (by omega)).mpr z)
        refine lv_fconst0 hx hb dX10_solvedShare_68 ?_
        refine lv_goto (tgt := 85) hx hb dX10_solvedShare_69 (by decide) ?_
        have hP9 := hP.sub (ws' := [(mo, .inr (15, [.int (nI 1), .ref al, .long (lN zn), .null, .ref pf, .int rs])), (al, .inr (4, [.int md, .ref (gE G), .int (nI 0)]))]) [1, 0] rfl
        have hD9 := hD.sub (ws' := [(mo, .inr (15, [.int (nI 1), .ref al, .long (lN zn), .null, .ref pf, .int rs])), (al, .inr (4, [.int md, .ref (gE G), .int (nI 0)]))]) [1, 0] (by decide) rfl
        subst hQ
        exact W.fret (hlocks := B9.notSynchronized) (v := FP.fconst0) hx hb hr (fun t ht hW => ⟨⟨FP.fconst0, (), rfl, trivial, by rw [ht]; exact hP9, hD9⟩, hS.F ht⟩) hS.2.2 dX10_solvedShare_85
  · skip
    have c_3 : ¬ 0 ≤ 0 := fun z => c_3 ((nI_leI (a := 0) (b := 0) (by omega) (by omega)).mpr z)
    exact absurd c_3 (by decide)
set_option maxHeartbeats 4000000 in
set_option maxRecDepth 100000 in
theorem c_X10_meanGivens (l : Launch) (G : GG) (mo : Nat) (th : Int32) (al : Nat) (zn : Nat) (pf : Nat) (rs : Int32) (md : Int32) : Md l G yX10_meanGivens cX10_meanGivens 4 ({ frames := 3, cells := 1, slots := 4, locals := 61 } : Room) [.ref mo] [(mo, .inr (15, [.int th, .ref al, .long (lN zn), .null, .ref pf, .int rs])), (al, .inr (4, [.int md, .ref (gE G), .int (nI 0)]))] (fun (r : UInt64) (u : Unit) => True) (fun (u : Unit) => [(mo, .inr (15, [.int (nI 1), .ref al, .long (lN zn), .null, .ref pf, .int rs])), (al, .inr (4, [.int md, .ref (gE G), .int (nI 0)]))]) := by
  intro sz
  refine Met.ofW (cc := cX10_meanGivens) (maxL := 4) (ret := (some .double)) (by decide) rfl ?_
  intro p e s m args below meth c s₁ B9 hml hv
  obtain ⟨rfl, hsz, hP, hK, hD0, hE⟩ := hv
  have hx := B9.exec
  have hb := B9.bytes
  have hr := B9.returns
  have hts : ∀ w ∈ WW, w.before ([.ref mo] : List Value).toArray s = true := fun w h => atoms_spec (ws := .code yX10_meanGivens cX10_meanGivens 4 (some .double) :: WW) B9.pre w (List.mem_cons_of_mem _ h)
  have hown : s.vm.findClass RX10 = some m.cls := findClass_of_methodNamed B9.named
  subst hsz
  have hD := hD0.self (sz := s.heap.size)
  generalize hAe : va_A [(mo, .inr (15, [.int th, .ref al, .long (lN zn), .null, .ref pf, .int rs])), (al, .inr (4, [.int md, .ref (gE G), .int (nI 0)]))] s.heap.size = A at hD hE ⊢
  have hA : ∀ q : Nat, s.heap.size ≤ q → A q := fun q h => by rw [← hAe]; exact Or.inr h
  have hl := lv_entry ([.ref mo]) (n := 4) (Nat.le_of_ble_eq_true rfl)
  rw [lg_entry_eq]
  generalize (lg_sl ([.ref mo]) ++ List.replicate (4 - (lg_sl ([.ref mo])).length) Slot.unset).toArray = ls at hl ⊢
  have hl : lv_has ls 4 [(0, .ref mo)] := hl
  refine qgen (fun Q hQ => ?_)
  refine hgen (fun H locs hP hD hS => ?_) hP hD
  refine lv_iconst (v := nI 0) hx hb dX10_meanGivens_0 (by decide) ?_
  refine lv_istore_n (lv' := [(1, .int (nI 0)), (0, .ref mo)]) hx hb dX10_meanGivens_1 rfl hl (by decide) rfl (fun ls hl => ?_)
  refine lv_aload_n hx hb dX10_meanGivens_2 rfl (lv_at hl 1 rfl) ?_
  refine va_get (D := gD G) (ci := 15) (v := .ref al) (C := RX10) (T := TX10) (N := 6) hx hb hts fwX10 hown hK hP 0 rfl rfl 1 (by decide) (hts _ q928) (fun _ h9 => h9) rfl dX10_meanGivens_3 ?_
  refine fin_r5 hP hD hS hA [1] [0] (wr := [(mo, .inr (15, [.int th, .ref al, .long (lN zn), .null, .ref pf, .int rs]))]) rfl rfl (by decide) (by decide) (va_runF (As := []) (rest := []) (hK.1 4 _ rfl).2 ⟨hx, hb, hml, hown, hts⟩ (c_Jx4a65c_iterator_32c93 l G al md H.size) (va_cwF 0 hts (gF q1284 q1105 q1107 q48 q1109) rfl rfl rfl (hE.1.2.1 _ FW2) (by decide +kernel) ⟨Nat.le_of_ble_eq_true rfl, Nat.le_of_ble_eq_true rfl⟩) (preV (q0 := 1) (ci := 4) hK hE hP hD hS hA [1] rfl (by decide) rfl rfl) rfl rfl hl.1 rfl (lv_room (Nat.le_of_ble_eq_true rfl)) dX10_meanGivens_6 ⟨Nat.le_of_ble_eq_true rfl, Nat.le_of_ble_eq_true rfl⟩) (fun u9 r_2 hw_1 H locs hP hD hS => ?_)
  have hP : va_P (gD G) vwCl [(mo, .inr (15, [.int th, .ref al, .long (lN zn), .null, .ref pf, .int rs])), (al, .inr (4, [.int md, .ref (gE G), .int (nI 0)])), (r_2, .inr (3, [.int (nI 0), .int (-1), .int md, .ref al]))] H := hP
  have hD : va_D A [(mo, .inr (15, [.int th, .ref al, .long (lN zn), .null, .ref pf, .int rs])), (al, .inr (4, [.int md, .ref (gE G), .int (nI 0)])), (r_2, .inr (3, [.int (nI 0), .int (-1), .int md, .ref al]))] := hD
  refine lv_astore_n (lv' := [(2, .ref r_2), (1, .int (nI 0)), (0, .ref mo)]) hx hb dX10_meanGivens_11 rfl hl (by decide) rfl (fun ls hl => ?_)
  refine lv_aload_n hx hb dX10_meanGivens_12 rfl (lv_at hl 0 rfl) ?_
  refine fin_i5 hP hD hS hA [2, 1] [0] (wr := [(mo, .inr (15, [.int th, .ref al, .long (lN zn), .null, .ref pf, .int rs]))]) rfl rfl (by decide) (by decide) (va_runF (As := []) (rest := []) (hK.1 3 _ rfl).2 ⟨hx, hb, hml, hown, hts⟩ (c_Jx35411_hasNext_aae02 l G r_2 al md H.size) (va_cwF 0 hts (gF q1286 q1134 q1136 q76 q1138) rfl rfl rfl (hE.1.2.1 _ FW4) (by decide +kernel) ⟨Nat.le_of_ble_eq_true rfl, Nat.le_of_ble_eq_true rfl⟩) (preV (q0 := 2) (ci := 3) hK hE hP hD hS hA [2, 1] rfl (by decide) rfl rfl) rfl rfl hl.1 rfl (lv_room (Nat.le_of_ble_eq_true rfl)) dX10_meanGivens_13 ⟨Nat.le_of_ble_eq_true rfl, Nat.le_of_ble_eq_true rfl⟩) (fun r_4 u9 hw_3 H locs hP hD hS => ?_)
  subst hw_3
  have hP : va_P (gD G) vwCl [(mo, .inr (15, [.int th, .ref al, .long (lN zn), .null, .ref pf, .int rs])), (r_2, .inr (3, [.int (nI 0), .int (-1), .int md, .ref al])), (al, .inr (4, [.int md, .ref (gE G), .int (nI 0)]))] H := hP
  have hD : va_D A [(mo, .inr (15, [.int th, .ref al, .long (lN zn), .null, .ref pf, .int rs])), (r_2, .inr (3, [.int (nI 0), .int (-1), .int md, .ref al])), (al, .inr (4, [.int md, .ref (gE G), .int (nI 0)]))] := hD
  refine lv_if_eq (tgt := 44) hx hb dX10_meanGivens_18 (by decide) (fun c_5 => ?_) (fun c_5 => ?_)
  · skip
    have c_5 : 0 = 0 := (nI_eq (a := 0) (b := 0) (by omega) (by omega)).mp c_5
    refine lv_aload_n hx hb dX10_meanGivens_44 rfl (lv_at hl 2 rfl) ?_
    refine lv_aload_n hx hb dX10_meanGivens_45 rfl (lv_at hl 2 rfl) ?_
    refine va_get (D := gD G) (ci := 15) (v := .ref al) (C := RX10) (T := TX10) (N := 6) hx hb hts fwX10 hown hK hP 0 rfl rfl 1 (by decide) (hts _ q928) (fun _ h9 => h9) rfl dX10_meanGivens_46 ?_
    refine fin_i5 hP hD hS hA [2] [0, 1] (wr := [(mo, .inr (15, [.int th, .ref al, .long (lN zn), .null, .ref pf, .int rs])), (r_2, .inr (3, [.int (nI 0), .int (-1), .int md, .ref al]))]) rfl rfl (by decide) (by decide) (va_runF (As := []) (rest := [.ref mo]) (hK.1 4 _ rfl).2 ⟨hx, hb, hml, hown, hts⟩ (c_Jx4a65c_isEmpty_aae02 l G al md H.size) (va_cwF 0 hts (gF q1299 q1302 q1304 q48 q1306) rfl rfl rfl (hE.1.2.1 _ FW3) (by decide +kernel) ⟨Nat.le_of_ble_eq_true rfl, Nat.le_of_ble_eq_true rfl⟩) (preV (q0 := 2) (ci := 4) hK hE hP hD hS hA [2] rfl (by decide) rfl rfl) rfl rfl hl.1 rfl (lv_room (Nat.le_of_ble_eq_true rfl)) dX10_meanGivens_49 ⟨Nat.le_of_ble_eq_true rfl, Nat.le_of_ble_eq_true rfl⟩) (fun r_7 u9 hw_6 H locs hP hD hS => ?_)
    subst hw_6
    have hP : va_P (gD G) vwCl [(mo, .inr (15, [.int th, .ref al, .long (lN zn), .null, .ref pf, .int rs])), (r_2, .inr (3, [.int (nI 0), .int (-1), .int md, .ref al])), (al, .inr (4, [.int md, .ref (gE G), .int (nI 0)]))] H := hP
    have hD : va_D A [(mo, .inr (15, [.int th, .ref al, .long (lN zn), .null, .ref pf, .int rs])), (r_2, .inr (3, [.int (nI 0), .int (-1), .int md, .ref al])), (al, .inr (4, [.int md, .ref (gE G), .int (nI 0)]))] := hD
    refine lv_if_eq (tgt := 61) hx hb dX10_meanGivens_54 (by decide) (fun c_8 => ?_) (fun c_8 => ?_)
    · skip
      have c_8 : 1 = 0 := (nI_eq (a := 1) (b := 0) (by omega) (by omega)).mp c_8
      exact absurd c_8 (by decide)
    · skip
      have c_8 : ¬ 1 = 0 := fun z => c_8 ((nI_eq (a := 1) (b := 0) (by omega) (by omega)).mpr z)
      refine lv_iconst (v := nI 1) hx hb dX10_meanGivens_57 (by decide) ?_
      refine lv_goto (tgt := 62) hx hb dX10_meanGivens_58 (by decide) ?_
      refine fin_i hP hD hS hA [0] [1, 2] (wr := [(r_2, .inr (3, [.int (nI 0), .int (-1), .int md, .ref al])), (al, .inr (4, [.int md, .ref (gE G), .int (nI 0)]))]) rfl rfl (by decide) (by decide) (va_runV (As := [.int (nI 1)]) (rest := []) ⟨hx, hb, hml, hown, hts⟩ (c_isWrong_k l G mo th al zn pf rs 1 (by omega) (by omega) H.size) (cwV 1 hts (gV q962 q964 q34 q52 q965) rfl rfl rfl (by decide +kernel) ⟨Nat.le_of_ble_eq_true rfl, Nat.le_of_ble_eq_true rfl⟩) (preV (q0 := 0) (ci := 15) hK hE hP hD hS hA [0] rfl (by decide) rfl rfl) rfl rfl hl.1 rfl (lv_room (Nat.le_of_ble_eq_true rfl)) dX10_meanGivens_62 ⟨Nat.le_of_ble_eq_true rfl, Nat.le_of_ble_eq_true rfl⟩) (fun r_10 u9 hw_9 H locs hP hD hS => ?_)
      subst hw_9
      have hP : va_P (gD G) vwCl [(r_2, .inr (3, [.int (nI 0), .int (-1), .int md, .ref al])), (al, .inr (4, [.int md, .ref (gE G), .int (nI 0)])), (mo, .inr (15, [.int (nI 1), .ref al, .long (lN zn), .null, .ref pf, .int rs]))] H := hP
      have hD : va_D A [(r_2, .inr (3, [.int (nI 0), .int (-1), .int md, .ref al])), (al, .inr (4, [.int md, .ref (gE G), .int (nI 0)])), (mo, .inr (15, [.int (nI 1), .ref al, .long (lN zn), .null, .ref pf, .int rs]))] := hD
      refine lv_if_eq (tgt := 72) hx hb dX10_meanGivens_65 (by decide) (fun c_11 => ?_) (fun c_11 => ?_)
      · skip
        have c_11 : 1 = 0 := (nI_eq (a := 1) (b := 0) (by omega) (by omega)).mp c_11
        exact absurd c_11 (by decide)
      · skip
        have c_11 : ¬ 1 = 0 := fun z => c_11 ((nI_eq (a := 1) (b := 0) (by omega) (by omega)).mpr z)
        refine lv_dconst0 hx hb dX10_meanGivens_68 ?_
        refine lv_goto (tgt := 85) hx hb dX10_meanGivens_69 (by decide) ?_
        have hP9 := hP.sub (ws' := [(mo, .inr (15, [.int (nI 1), .ref al, .long (lN zn), .null, .ref pf, .int rs])), (al, .inr (4, [.int md, .ref (gE G), .int (nI 0)]))]) [2, 1] rfl
        have hD9 := hD.sub (ws' := [(mo, .inr (15, [.int (nI 1), .ref al, .long (lN zn), .null, .ref pf, .int rs])), (al, .inr (4, [.int md, .ref (gE G), .int (nI 0)]))]) [2, 1] (by decide) rfl
        subst hQ
        exact W.dret (hlocks := B9.notSynchronized) (v := FP.dconst0) hx hb hr (fun t ht hW => ⟨⟨FP.dconst0, (), rfl, trivial, by rw [ht]; exact hP9, hD9⟩, hS.F ht⟩) hS.2.2 dX10_meanGivens_85
  · skip
    have c_5 : ¬ 0 = 0 := fun z => c_5 ((nI_eq (a := 0) (b := 0) (by omega) (by omega)).mpr z)
    exact absurd c_5 (by decide)
