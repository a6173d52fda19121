theorem q62 : (Jvm.Cond.initialized "PegboardryModel$Puzzle") ∈ WW := inW 62 (by decide +kernel) rfl
theorem q76 : (Jvm.Cond.initialized "java/util/ArrayList$Itr") ∈ WW := inW 76 (by decide +kernel) rfl
theorem q103 : (Jvm.Cond.fieldLink "java/util/ArrayList$Itr" (37 : Nat) "java/util/ArrayList" "elementData" "[Ljava/lang/Object;") ∈ WW := inW 103 (by decide +kernel) rfl
theorem nq104 : (Jvm.Cond.fieldLinkNest "java/util/ArrayList$Itr" (28 : Nat) "java/util/ArrayList" "size" "I" "java/util/ArrayList") ∈ NWs := inN 104 (by decide +kernel) rfl
theorem q107 : (Jvm.Cond.fieldLink "java/util/ArrayList$Itr" (17 : Nat) "java/util/ArrayList" "modCount" "I") ∈ WW := inW 107 (by decide +kernel) rfl
theorem q974 : (Jvm.Cond.fieldLink "PegboardryModel$Puzzle" (9 : Nat) "PegboardryModel$Puzzle" "givens" "[I") ∈ WW := inW 974 (by decide +kernel) rfl
theorem q1083 : (Jvm.Cond.methodLink "PegboardryModel$Puzzle" (25 : Nat) ({ cls := "PegboardryModel$Puzzle", name := "byOnly", desc := "(II[I)Z" } : Jvm.MethodName)) ∈ WW := inW 1083 (by decide +kernel) rfl
theorem q1084 : (Jvm.Cond.static ({ cls := "PegboardryModel$Puzzle", name := "byOnly", desc := "(II[I)Z" } : Jvm.MethodName)) ∈ WW := inW 1084 (by decide +kernel) rfl
theorem q1085 : (Jvm.Cond.code ({ cls := "PegboardryModel$Puzzle", name := "byOnly", desc := "(II[I)Z" } : Jvm.MethodName) prog_11_method_3_code (5 : Nat) (Option.some Jvm.ClassFile.FieldType.boolean)) ∈ WW := inW 1085 (by decide +kernel) rfl
theorem nq1086 : (Jvm.Cond.methodLinkNest "PegboardryModel$Puzzle" (38 : Nat) ({ cls := "PegboardryModel", name := "areInLine", desc := "(II)Z" } : Jvm.MethodName) "PegboardryModel") ∈ NWs := inN 1086 (by decide +kernel) rfl
theorem q1089 : (Jvm.Cond.methodLink "PegboardryModel$Puzzle" (29 : Nat) ({ cls := "PegboardryModel$Puzzle", name := "byPlace", desc := "(II[I)Z" } : Jvm.MethodName)) ∈ WW := inW 1089 (by decide +kernel) rfl
theorem q1090 : (Jvm.Cond.static ({ cls := "PegboardryModel$Puzzle", name := "byPlace", desc := "(II[I)Z" } : Jvm.MethodName)) ∈ WW := inW 1090 (by decide +kernel) rfl
theorem q1091 : (Jvm.Cond.code ({ cls := "PegboardryModel$Puzzle", name := "byPlace", desc := "(II[I)Z" } : Jvm.MethodName) prog_11_method_4_code (6 : Nat) (Option.some Jvm.ClassFile.FieldType.boolean)) ∈ WW := inW 1091 (by decide +kernel) rfl
theorem q1092 : (Jvm.Cond.methodLink "PegboardryModel$Puzzle" (32 : Nat) ({ cls := "PegboardryModel$Puzzle", name := "byPair", desc := "(II[I)Z" } : Jvm.MethodName)) ∈ WW := inW 1092 (by decide +kernel) rfl
theorem q1093 : (Jvm.Cond.static ({ cls := "PegboardryModel$Puzzle", name := "byPair", desc := "(II[I)Z" } : Jvm.MethodName)) ∈ WW := inW 1093 (by decide +kernel) rfl
theorem q1094 : (Jvm.Cond.code ({ cls := "PegboardryModel$Puzzle", name := "byPair", desc := "(II[I)Z" } : Jvm.MethodName) prog_11_method_5_code (8 : Nat) (Option.some Jvm.ClassFile.FieldType.boolean)) ∈ WW := inW 1094 (by decide +kernel) rfl
theorem q1095 : (Jvm.Cond.methodLink "PegboardryModel$Puzzle" (42 : Nat) ({ cls := "java/lang/Integer", name := "bitCount", desc := "(I)I" } : Jvm.MethodName)) ∈ WW := inW 1095 (by decide +kernel) rfl
theorem nq1096 : (Jvm.Cond.methodLinkNest "PegboardryModel$Puzzle" (48 : Nat) ({ cls := "PegboardryModel", name := "isIn", desc := "(II)Z" } : Jvm.MethodName) "PegboardryModel") ∈ NWs := inN 1096 (by decide +kernel) rfl
theorem q1110 : (Jvm.Cond.classLink "java/util/ArrayList" (267 : Nat) "java/util/ArrayList$Itr") ∈ WW := inW 1110 (by decide +kernel) rfl
theorem q1111 : (Jvm.Cond.instantiable "java/util/ArrayList$Itr" (4 : Nat)) ∈ WW := inW 1111 (by decide +kernel) rfl
theorem q1112 : (Jvm.Cond.methodLink "java/util/ArrayList" (269 : Nat) ({ cls := "java/util/ArrayList$Itr", name := "<init>", desc := "(Ljava/util/ArrayList;)V" } : Jvm.MethodName)) ∈ WW := inW 1112 (by decide +kernel) rfl
theorem q1113 : (Jvm.Cond.instanceMethod ({ cls := "java/util/ArrayList$Itr", name := "<init>", desc := "(Ljava/util/ArrayList;)V" } : Jvm.MethodName)) ∈ WW := inW 1113 (by decide +kernel) rfl
theorem q1114 : (Jvm.Cond.code ({ cls := "java/util/ArrayList$Itr", name := "<init>", desc := "(Ljava/util/ArrayList;)V" } : Jvm.MethodName) prog_37_method_1_code (2 : Nat) (Option.none : Option Jvm.ClassFile.FieldType)) ∈ WW := inW 1114 (by decide +kernel) rfl
theorem q1115 : (Jvm.Cond.methodLink "java/util/ArrayList$Itr" (7 : Nat) ({ cls := "java/lang/Object", name := "<init>", desc := "()V" } : Jvm.MethodName)) ∈ WW := inW 1115 (by decide +kernel) rfl
theorem q1116 : (Jvm.Cond.fieldLink "java/util/ArrayList$Itr" (25 : Nat) "java/util/ArrayList$Itr" "cursor" "I") ∈ WW := inW 1116 (by decide +kernel) rfl
theorem q1117 : (Jvm.Cond.fieldLink "java/util/ArrayList$Itr" (13 : Nat) "java/util/ArrayList$Itr" "lastRet" "I") ∈ WW := inW 1117 (by decide +kernel) rfl
theorem q1118 : (Jvm.Cond.fieldLink "java/util/ArrayList$Itr" (22 : Nat) "java/util/ArrayList$Itr" "expectedModCount" "I") ∈ WW := inW 1118 (by decide +kernel) rfl
theorem q1119 : (Jvm.Cond.fieldLink "java/util/ArrayList$Itr" (1 : Nat) "java/util/ArrayList$Itr" "this$0" "Ljava/util/ArrayList;") ∈ WW := inW 1119 (by decide +kernel) rfl
theorem q1148 : (Jvm.Cond.methodLink "java/util/ArrayList$Itr" (31 : Nat) ({ cls := "java/util/ArrayList$Itr", name := "checkForComodification", desc := "()V" } : Jvm.MethodName)) ∈ WW := inW 1148 (by decide +kernel) rfl
theorem q1149 : (Jvm.Cond.instanceMethod ({ cls := "java/util/ArrayList$Itr", name := "checkForComodification", desc := "()V" } : Jvm.MethodName)) ∈ WW := inW 1149 (by decide +kernel) rfl
theorem q1150 : (Jvm.Cond.selects "java/util/ArrayList$Itr" ({ cls := "java/util/ArrayList$Itr", name := "checkForComodification", desc := "()V" } : Jvm.MethodName) ({ cls := "java/util/ArrayList$Itr", name := "checkForComodification", desc := "()V" } : Jvm.MethodName)) ∈ WW := inW 1150 (by decide +kernel) rfl
theorem q1151 : (Jvm.Cond.code ({ cls := "java/util/ArrayList$Itr", name := "checkForComodification", desc := "()V" } : Jvm.MethodName) prog_37_method_6_code (1 : Nat) (Option.none : Option Jvm.ClassFile.FieldType)) ∈ WW := inW 1151 (by decide +kernel) rfl
theorem dJx35411_init_45d68_0 : decode cJx35411_init_45d68 0 = .ok (.aload_n 0, 1) := by decide +kernel
theorem dJx35411_init_45d68_1 : decode cJx35411_init_45d68 1 = .ok (.aload_n 1, 1) := by decide +kernel
theorem dJx35411_init_45d68_2 : decode cJx35411_init_45d68 2 = .ok (.putfield 1, 3) := by decide +kernel
theorem dJx35411_init_45d68_5 : decode cJx35411_init_45d68 5 = .ok (.aload_n 0, 1) := by decide +kernel
theorem dJx35411_init_45d68_6 : decode cJx35411_init_45d68 6 = .ok (.invokespecial 7, 3) := by decide +kernel
theorem dJx35411_init_45d68_9 : decode cJx35411_init_45d68 9 = .ok (.aload_n 0, 1) := by decide +kernel
theorem dJx35411_init_45d68_10 : decode cJx35411_init_45d68 10 = .ok (.iconst (-1), 1) := by decide +kernel
theorem dJx35411_init_45d68_11 : decode cJx35411_init_45d68 11 = .ok (.putfield 13, 3) := by decide +kernel
theorem dJx35411_init_45d68_14 : decode cJx35411_init_45d68 14 = .ok (.aload_n 0, 1) := by decide +kernel
theorem dJx35411_init_45d68_15 : decode cJx35411_init_45d68 15 = .ok (.aload_n 0, 1) := by decide +kernel
theorem dJx35411_init_45d68_16 : decode cJx35411_init_45d68 16 = .ok (.getfield 1, 3) := by decide +kernel
theorem dJx35411_init_45d68_19 : decode cJx35411_init_45d68 19 = .ok (.getfield 17, 3) := by decide +kernel
theorem dJx35411_init_45d68_22 : decode cJx35411_init_45d68 22 = .ok (.putfield 22, 3) := by decide +kernel
theorem dJx35411_init_45d68_25 : decode cJx35411_init_45d68 25 = .ok (.return_, 1) := by decide +kernel
theorem dJx4a65c_iterator_32c93_0 : decode cJx4a65c_iterator_32c93 0 = .ok (.new 267, 3) := by decide +kernel
theorem dJx4a65c_iterator_32c93_3 : decode cJx4a65c_iterator_32c93 3 = .ok (.dup, 1) := by decide +kernel
theorem dJx4a65c_iterator_32c93_4 : decode cJx4a65c_iterator_32c93 4 = .ok (.aload_n 0, 1) := by decide +kernel
theorem dJx4a65c_iterator_32c93_5 : decode cJx4a65c_iterator_32c93 5 = .ok (.invokespecial 269, 3) := by decide +kernel
theorem dJx4a65c_iterator_32c93_8 : decode cJx4a65c_iterator_32c93 8 = .ok (.areturn, 1) := by decide +kernel
theorem dJx35411_hasNext_aae02_0 : decode cJx35411_hasNext_aae02 0 = .ok (.aload_n 0, 1) := by decide +kernel
theorem dJx35411_hasNext_aae02_1 : decode cJx35411_hasNext_aae02 1 = .ok (.getfield 25, 3) := by decide +kernel
theorem dJx35411_hasNext_aae02_4 : decode cJx35411_hasNext_aae02 4 = .ok (.aload_n 0, 1) := by decide +kernel
theorem dJx35411_hasNext_aae02_5 : decode cJx35411_hasNext_aae02 5 = .ok (.getfield 1, 3) := by decide +kernel
theorem dJx35411_hasNext_aae02_8 : decode cJx35411_hasNext_aae02 8 = .ok (.getfield 28, 3) := by decide +kernel
theorem dJx35411_hasNext_aae02_11 : decode cJx35411_hasNext_aae02 11 = .ok (.if_icmp .eq 7, 3) := by decide +kernel
theorem dJx35411_hasNext_aae02_18 : decode cJx35411_hasNext_aae02 18 = .ok (.iconst 0, 1) := by decide +kernel
theorem dJx35411_hasNext_aae02_19 : decode cJx35411_hasNext_aae02 19 = .ok (.ireturn, 1) := by decide +kernel
theorem dJx35411_hasNext_aae02_14 : decode cJx35411_hasNext_aae02 14 = .ok (.iconst 1, 1) := by decide +kernel
theorem dJx35411_hasNext_aae02_15 : decode cJx35411_hasNext_aae02 15 = .ok (.goto 4, 3) := by decide +kernel
theorem dJx35411_checkForComodification_da8c8_0 : decode cJx35411_checkForComodification_da8c8 0 = .ok (.aload_n 0, 1) := by decide +kernel
theorem dJx35411_checkForComodification_da8c8_1 : decode cJx35411_checkForComodification_da8c8 1 = .ok (.getfield 1, 3) := by decide +kernel
theorem dJx35411_checkForComodification_da8c8_4 : decode cJx35411_checkForComodification_da8c8 4 = .ok (.getfield 17, 3) := by decide +kernel
theorem dJx35411_checkForComodification_da8c8_7 : decode cJx35411_checkForComodification_da8c8 7 = .ok (.aload_n 0, 1) := by decide +kernel
theorem dJx35411_checkForComodification_da8c8_8 : decode cJx35411_checkForComodification_da8c8 8 = .ok (.getfield 22, 3) := by decide +kernel
theorem dJx35411_checkForComodification_da8c8_11 : decode cJx35411_checkForComodification_da8c8 11 = .ok (.if_icmp .eq 11, 3) := by decide +kernel
theorem dJx35411_checkForComodification_da8c8_22 : decode cJx35411_checkForComodification_da8c8 22 = .ok (.return_, 1) := by decide +kernel
theorem dJx35411_next_0502b_0 : decode cJx35411_next_0502b 0 = .ok (.aload_n 0, 1) := by decide +kernel
theorem dJx35411_next_0502b_1 : decode cJx35411_next_0502b 1 = .ok (.invokevirtual 31, 3) := by decide +kernel
theorem dJx35411_next_0502b_4 : decode cJx35411_next_0502b 4 = .ok (.aload_n 0, 1) := by decide +kernel
theorem dJx35411_next_0502b_5 : decode cJx35411_next_0502b 5 = .ok (.getfield 25, 3) := by decide +kernel
theorem dJx35411_next_0502b_8 : decode cJx35411_next_0502b 8 = .ok (.istore_n 1, 1) := by decide +kernel
theorem dJx35411_next_0502b_9 : decode cJx35411_next_0502b 9 = .ok (.iload_n 1, 1) := by decide +kernel
theorem dJx35411_next_0502b_10 : decode cJx35411_next_0502b 10 = .ok (.aload_n 0, 1) := by decide +kernel
theorem dJx35411_next_0502b_11 : decode cJx35411_next_0502b 11 = .ok (.getfield 1, 3) := by decide +kernel
theorem dJx35411_next_0502b_14 : decode cJx35411_next_0502b 14 = .ok (.getfield 28, 3) := by decide +kernel
theorem dJx35411_next_0502b_17 : decode cJx35411_next_0502b 17 = .ok (.if_icmp .lt 11, 3) := by decide +kernel
theorem dJx35411_next_0502b_28 : decode cJx35411_next_0502b 28 = .ok (.aload_n 0, 1) := by decide +kernel
theorem dJx35411_next_0502b_29 : decode cJx35411_next_0502b 29 = .ok (.getfield 1, 3) := by decide +kernel
theorem dJx35411_next_0502b_32 : decode cJx35411_next_0502b 32 = .ok (.getfield 37, 3) := by decide +kernel
theorem dJx35411_next_0502b_35 : decode cJx35411_next_0502b 35 = .ok (.astore_n 2, 1) := by decide +kernel
theorem dJx35411_next_0502b_36 : decode cJx35411_next_0502b 36 = .ok (.iload_n 1, 1) := by decide +kernel
theorem dJx35411_next_0502b_37 : decode cJx35411_next_0502b 37 = .ok (.aload_n 2, 1) := by decide +kernel
theorem dJx35411_next_0502b_38 : decode cJx35411_next_0502b 38 = .ok (.arraylength, 1) := by decide +kernel
theorem dJx35411_next_0502b_39 : decode cJx35411_next_0502b 39 = .ok (.if_icmp .lt 11, 3) := by decide +kernel
theorem dJx35411_next_0502b_50 : decode cJx35411_next_0502b 50 = .ok (.aload_n 0, 1) := by decide +kernel
theorem dJx35411_next_0502b_51 : decode cJx35411_next_0502b 51 = .ok (.iload_n 1, 1) := by decide +kernel
theorem dJx35411_next_0502b_52 : decode cJx35411_next_0502b 52 = .ok (.iconst 1, 1) := by decide +kernel
theorem dJx35411_next_0502b_53 : decode cJx35411_next_0502b 53 = .ok (.iadd, 1) := by decide +kernel
theorem dJx35411_next_0502b_54 : decode cJx35411_next_0502b 54 = .ok (.putfield 25, 3) := by decide +kernel
theorem dJx35411_next_0502b_57 : decode cJx35411_next_0502b 57 = .ok (.aload_n 2, 1) := by decide +kernel
theorem dJx35411_next_0502b_58 : decode cJx35411_next_0502b 58 = .ok (.aload_n 0, 1) := by decide +kernel
theorem dJx35411_next_0502b_59 : decode cJx35411_next_0502b 59 = .ok (.iload_n 1, 1) := by decide +kernel
theorem dJx35411_next_0502b_60 : decode cJx35411_next_0502b 60 = .ok (.dup_x1, 1) := by decide +kernel
theorem dJx35411_next_0502b_61 : decode cJx35411_next_0502b 61 = .ok (.putfield 13, 3) := by decide +kernel
theorem dJx35411_next_0502b_64 : decode cJx35411_next_0502b 64 = .ok (.aaload, 1) := by decide +kernel
theorem dJx35411_next_0502b_65 : decode cJx35411_next_0502b 65 = .ok (.areturn, 1) := by decide +kernel
theorem dX8_byOnly_0 : decode cX8_byOnly 0 = .ok (.iconst 0, 1) := by decide +kernel
theorem dX8_byOnly_1 : decode cX8_byOnly 1 = .ok (.istore_n 3, 1) := by decide +kernel
theorem dX8_byOnly_2 : decode cX8_byOnly 2 = .ok (.iconst 0, 1) := by decide +kernel
theorem dX8_byOnly_3 : decode cX8_byOnly 3 = .ok (.istore 4, 2) := by decide +kernel
theorem dX8_byOnly_5 : decode cX8_byOnly 5 = .ok (.iload 4, 2) := by decide +kernel
theorem dX8_byOnly_7 : decode cX8_byOnly 7 = .ok (.bipush 16, 2) := by decide +kernel
theorem dX8_byOnly_9 : decode cX8_byOnly 9 = .ok (.if_icmp .ge 38, 3) := by decide +kernel
theorem dX8_byOnly_47 : decode cX8_byOnly 47 = .ok (.iload_n 3, 1) := by decide +kernel
theorem dX8_byOnly_48 : decode cX8_byOnly 48 = .ok (.ireturn, 1) := by decide +kernel
theorem dX8_byOnly_12 : decode cX8_byOnly 12 = .ok (.iload_n 3, 1) := by decide +kernel
theorem dX8_byOnly_13 : decode cX8_byOnly 13 = .ok (.iload 4, 2) := by decide +kernel
theorem dX8_byOnly_15 : decode cX8_byOnly 15 = .ok (.iload_n 0, 1) := by decide +kernel
theorem dX8_byOnly_16 : decode cX8_byOnly 16 = .ok (.invokestatic 38, 3) := by decide +kernel
theorem dX8_byOnly_19 : decode cX8_byOnly 19 = .ok (.ifCond .eq 19, 3) := by decide +kernel
theorem dX8_byOnly_38 : decode cX8_byOnly 38 = .ok (.iconst 0, 1) := by decide +kernel
theorem dX8_byOnly_39 : decode cX8_byOnly 39 = .ok (.ior, 1) := by decide +kernel
theorem dX8_byOnly_40 : decode cX8_byOnly 40 = .ok (.istore_n 3, 1) := by decide +kernel
theorem dX8_byOnly_41 : decode cX8_byOnly 41 = .ok (.iinc 4 1, 3) := by decide +kernel
theorem dX8_byOnly_44 : decode cX8_byOnly 44 = .ok (.goto (-39), 3) := by decide +kernel
theorem dX8_byOnly_22 : decode cX8_byOnly 22 = .ok (.aload_n 2, 1) := by decide +kernel
theorem dX8_byOnly_23 : decode cX8_byOnly 23 = .ok (.iload 4, 2) := by decide +kernel
theorem dX8_byOnly_25 : decode cX8_byOnly 25 = .ok (.iaload, 1) := by decide +kernel
theorem dX8_byOnly_26 : decode cX8_byOnly 26 = .ok (.iconst 1, 1) := by decide +kernel
theorem dX8_byOnly_27 : decode cX8_byOnly 27 = .ok (.iload_n 1, 1) := by decide +kernel
theorem dX8_byOnly_28 : decode cX8_byOnly 28 = .ok (.iconst 1, 1) := by decide +kernel
theorem dX8_byOnly_29 : decode cX8_byOnly 29 = .ok (.isub, 1) := by decide +kernel
theorem dX8_byOnly_30 : decode cX8_byOnly 30 = .ok (.ishl, 1) := by decide +kernel
theorem dX8_byOnly_31 : decode cX8_byOnly 31 = .ok (.if_icmp .ne 7, 3) := by decide +kernel
theorem dX8_byPlace_0 : decode cX8_byPlace 0 = .ok (.iconst 0, 1) := by decide +kernel
theorem dX8_byPlace_1 : decode cX8_byPlace 1 = .ok (.istore_n 3, 1) := by decide +kernel
theorem dX8_byPlace_2 : decode cX8_byPlace 2 = .ok (.iconst 0, 1) := by decide +kernel
theorem dX8_byPlace_3 : decode cX8_byPlace 3 = .ok (.istore 4, 2) := by decide +kernel
theorem dX8_byPlace_5 : decode cX8_byPlace 5 = .ok (.iconst 0, 1) := by decide +kernel
theorem dX8_byPlace_6 : decode cX8_byPlace 6 = .ok (.istore 5, 2) := by decide +kernel
theorem dX8_byPlace_8 : decode cX8_byPlace 8 = .ok (.iload 5, 2) := by decide +kernel
theorem dX8_byPlace_10 : decode cX8_byPlace 10 = .ok (.bipush 16, 2) := by decide +kernel
theorem dX8_byPlace_12 : decode cX8_byPlace 12 = .ok (.if_icmp .ge 57, 3) := by decide +kernel
theorem dX8_byPlace_69 : decode cX8_byPlace 69 = .ok (.aload_n 2, 1) := by decide +kernel
theorem dX8_byPlace_70 : decode cX8_byPlace 70 = .ok (.iload_n 0, 1) := by decide +kernel
theorem dX8_byPlace_71 : decode cX8_byPlace 71 = .ok (.iaload, 1) := by decide +kernel
theorem dX8_byPlace_72 : decode cX8_byPlace 72 = .ok (.iconst 1, 1) := by decide +kernel
theorem dX8_byPlace_73 : decode cX8_byPlace 73 = .ok (.iload_n 1, 1) := by decide +kernel
theorem dX8_byPlace_74 : decode cX8_byPlace 74 = .ok (.iconst 1, 1) := by decide +kernel
theorem dX8_byPlace_75 : decode cX8_byPlace 75 = .ok (.isub, 1) := by decide +kernel
theorem dX8_byPlace_76 : decode cX8_byPlace 76 = .ok (.ishl, 1) := by decide +kernel
theorem dX8_byPlace_77 : decode cX8_byPlace 77 = .ok (.iconst (-1), 1) := by decide +kernel
theorem dX8_byPlace_78 : decode cX8_byPlace 78 = .ok (.ixor, 1) := by decide +kernel
theorem dX8_byPlace_79 : decode cX8_byPlace 79 = .ok (.iand, 1) := by decide +kernel
theorem dX8_byPlace_80 : decode cX8_byPlace 80 = .ok (.istore 5, 2) := by decide +kernel
theorem dX8_byPlace_82 : decode cX8_byPlace 82 = .ok (.iload 5, 2) := by decide +kernel
theorem dX8_byPlace_84 : decode cX8_byPlace 84 = .ok (.iload_n 3, 1) := by decide +kernel
theorem dX8_byPlace_85 : decode cX8_byPlace 85 = .ok (.iconst (-1), 1) := by decide +kernel
theorem dX8_byPlace_86 : decode cX8_byPlace 86 = .ok (.ixor, 1) := by decide +kernel
theorem dX8_byPlace_87 : decode cX8_byPlace 87 = .ok (.iand, 1) := by decide +kernel
theorem dX8_byPlace_88 : decode cX8_byPlace 88 = .ok (.ifCond .ne 13, 3) := by decide +kernel
theorem dX8_byPlace_91 : decode cX8_byPlace 91 = .ok (.iload 5, 2) := by decide +kernel
theorem dX8_byPlace_93 : decode cX8_byPlace 93 = .ok (.iload 4, 2) := by decide +kernel
theorem dX8_byPlace_95 : decode cX8_byPlace 95 = .ok (.iconst (-1), 1) := by decide +kernel
theorem dX8_byPlace_96 : decode cX8_byPlace 96 = .ok (.ixor, 1) := by decide +kernel
theorem dX8_byPlace_97 : decode cX8_byPlace 97 = .ok (.iand, 1) := by decide +kernel
theorem dX8_byPlace_98 : decode cX8_byPlace 98 = .ok (.ifCond .eq 7, 3) := by decide +kernel
theorem dX8_byPlace_105 : decode cX8_byPlace 105 = .ok (.iconst 0, 1) := by decide +kernel
theorem dX8_byPlace_106 : decode cX8_byPlace 106 = .ok (.ireturn, 1) := by decide +kernel
theorem dX8_byPlace_15 : decode cX8_byPlace 15 = .ok (.iload 5, 2) := by decide +kernel
theorem dX8_byPlace_17 : decode cX8_byPlace 17 = .ok (.iload_n 0, 1) := by decide +kernel
theorem dX8_byPlace_18 : decode cX8_byPlace 18 = .ok (.if_icmp .eq 20, 3) := by decide +kernel
theorem dX8_byPlace_38 : decode cX8_byPlace 38 = .ok (.iload 5, 2) := by decide +kernel
theorem dX8_byPlace_40 : decode cX8_byPlace 40 = .ok (.iload_n 0, 1) := by decide +kernel
theorem dX8_byPlace_41 : decode cX8_byPlace 41 = .ok (.if_icmp .eq 22, 3) := by decide +kernel
theorem dX8_byPlace_63 : decode cX8_byPlace 63 = .ok (.iinc 5 1, 3) := by decide +kernel
theorem dX8_byPlace_66 : decode cX8_byPlace 66 = .ok (.goto (-58), 3) := by decide +kernel
theorem dX8_byPlace_44 : decode cX8_byPlace 44 = .ok (.iload 5, 2) := by decide +kernel
theorem dX8_byPlace_46 : decode cX8_byPlace 46 = .ok (.iconst 4, 1) := by decide +kernel
theorem dX8_byPlace_47 : decode cX8_byPlace 47 = .ok (.irem, 1) := by decide +kernel
theorem dX8_byPlace_48 : decode cX8_byPlace 48 = .ok (.iload_n 0, 1) := by decide +kernel
theorem dX8_byPlace_49 : decode cX8_byPlace 49 = .ok (.iconst 4, 1) := by decide +kernel
theorem dX8_byPlace_50 : decode cX8_byPlace 50 = .ok (.irem, 1) := by decide +kernel
theorem dX8_byPlace_51 : decode cX8_byPlace 51 = .ok (.if_icmp .ne 12, 3) := by decide +kernel
theorem dX8_byPlace_54 : decode cX8_byPlace 54 = .ok (.iload 4, 2) := by decide +kernel
theorem dX8_byPlace_56 : decode cX8_byPlace 56 = .ok (.aload_n 2, 1) := by decide +kernel
theorem dX8_byPlace_57 : decode cX8_byPlace 57 = .ok (.iload 5, 2) := by decide +kernel
theorem dX8_byPlace_59 : decode cX8_byPlace 59 = .ok (.iaload, 1) := by decide +kernel
theorem dX8_byPlace_60 : decode cX8_byPlace 60 = .ok (.ior, 1) := by decide +kernel
theorem dX8_byPlace_61 : decode cX8_byPlace 61 = .ok (.istore 4, 2) := by decide +kernel
theorem dX8_byPlace_21 : decode cX8_byPlace 21 = .ok (.iload 5, 2) := by decide +kernel
theorem dX8_byPlace_23 : decode cX8_byPlace 23 = .ok (.iconst 4, 1) := by decide +kernel
theorem dX8_byPlace_24 : decode cX8_byPlace 24 = .ok (.idiv, 1) := by decide +kernel
theorem dX8_byPlace_25 : decode cX8_byPlace 25 = .ok (.iload_n 0, 1) := by decide +kernel
theorem dX8_byPlace_26 : decode cX8_byPlace 26 = .ok (.iconst 4, 1) := by decide +kernel
theorem dX8_byPlace_27 : decode cX8_byPlace 27 = .ok (.idiv, 1) := by decide +kernel
theorem dX8_byPlace_28 : decode cX8_byPlace 28 = .ok (.if_icmp .ne 10, 3) := by decide +kernel
theorem dX8_byPlace_31 : decode cX8_byPlace 31 = .ok (.iload_n 3, 1) := by decide +kernel
theorem dX8_byPlace_32 : decode cX8_byPlace 32 = .ok (.aload_n 2, 1) := by decide +kernel
theorem dX8_byPlace_33 : decode cX8_byPlace 33 = .ok (.iload 5, 2) := by decide +kernel
theorem dX8_byPlace_35 : decode cX8_byPlace 35 = .ok (.iaload, 1) := by decide +kernel
theorem dX8_byPlace_36 : decode cX8_byPlace 36 = .ok (.ior, 1) := by decide +kernel
theorem dX8_byPlace_37 : decode cX8_byPlace 37 = .ok (.istore_n 3, 1) := by decide +kernel
theorem dX8_byPair_0 : decode cX8_byPair 0 = .ok (.iconst 0, 1) := by decide +kernel
theorem dX8_byPair_1 : decode cX8_byPair 1 = .ok (.istore_n 3, 1) := by decide +kernel
theorem dX8_byPair_2 : decode cX8_byPair 2 = .ok (.iload_n 3, 1) := by decide +kernel
theorem dX8_byPair_3 : decode cX8_byPair 3 = .ok (.bipush 16, 2) := by decide +kernel
theorem dX8_byPair_5 : decode cX8_byPair 5 = .ok (.if_icmp .ge 144, 3) := by decide +kernel
theorem dX8_byPair_149 : decode cX8_byPair 149 = .ok (.iconst 0, 1) := by decide +kernel
theorem dX8_byPair_150 : decode cX8_byPair 150 = .ok (.ireturn, 1) := by decide +kernel
theorem dX8_byPair_8 : decode cX8_byPair 8 = .ok (.iload_n 3, 1) := by decide +kernel
theorem dX8_byPair_9 : decode cX8_byPair 9 = .ok (.iconst 1, 1) := by decide +kernel
theorem dX8_byPair_10 : decode cX8_byPair 10 = .ok (.iadd, 1) := by decide +kernel
theorem dX8_byPair_11 : decode cX8_byPair 11 = .ok (.istore 4, 2) := by decide +kernel
theorem dX8_byPair_13 : decode cX8_byPair 13 = .ok (.iload 4, 2) := by decide +kernel
theorem dX8_byPair_15 : decode cX8_byPair 15 = .ok (.bipush 16, 2) := by decide +kernel
theorem dX8_byPair_17 : decode cX8_byPair 17 = .ok (.if_icmp .ge 126, 3) := by decide +kernel
theorem dX8_byPair_143 : decode cX8_byPair 143 = .ok (.iinc 3 1, 3) := by decide +kernel
theorem dX8_byPair_146 : decode cX8_byPair 146 = .ok (.goto (-144), 3) := by decide +kernel
theorem dX8_byPair_44 : decode cX8_byPair 44 = .ok (.istore 5, 2) := by decide +kernel
theorem dX8_byPair_70 : decode cX8_byPair 70 = .ok (.istore 6, 2) := by decide +kernel
theorem dX8_byPair_97 : decode cX8_byPair 97 = .ok (.istore 7, 2) := by decide +kernel
theorem dX8_byPair_99 : decode cX8_byPair 99 = .ok (.iload_n 3, 1) := by decide +kernel
theorem dX8_byPair_100 : decode cX8_byPair 100 = .ok (.iload_n 0, 1) := by decide +kernel
theorem dX8_byPair_101 : decode cX8_byPair 101 = .ok (.if_icmp .eq 36, 3) := by decide +kernel
theorem dX8_byPair_137 : decode cX8_byPair 137 = .ok (.iinc 4 1, 3) := by decide +kernel
theorem dX8_byPair_140 : decode cX8_byPair 140 = .ok (.goto (-127), 3) := by decide +kernel
theorem dX8_byPair_104 : decode cX8_byPair 104 = .ok (.iload 4, 2) := by decide +kernel
theorem dX8_byPair_106 : decode cX8_byPair 106 = .ok (.iload_n 0, 1) := by decide +kernel
theorem dX8_byPair_107 : decode cX8_byPair 107 = .ok (.if_icmp .eq 30, 3) := by decide +kernel
theorem dX8_byPair_110 : decode cX8_byPair 110 = .ok (.iload 5, 2) := by decide +kernel
theorem dX8_byPair_112 : decode cX8_byPair 112 = .ok (.ifCond .ne 8, 3) := by decide +kernel
theorem dX8_byPair_120 : decode cX8_byPair 120 = .ok (.iload 7, 2) := by decide +kernel
theorem dX8_byPair_122 : decode cX8_byPair 122 = .ok (.ifCond .eq 15, 3) := by decide +kernel
theorem dX8_byPair_115 : decode cX8_byPair 115 = .ok (.iload 6, 2) := by decide +kernel
theorem dX8_byPair_117 : decode cX8_byPair 117 = .ok (.ifCond .eq 20, 3) := by decide +kernel
theorem dX8_byPair_72 : decode cX8_byPair 72 = .ok (.aload_n 2, 1) := by decide +kernel
theorem dX8_byPair_73 : decode cX8_byPair 73 = .ok (.iload_n 3, 1) := by decide +kernel
theorem dX8_byPair_74 : decode cX8_byPair 74 = .ok (.iaload, 1) := by decide +kernel
theorem dX8_byPair_75 : decode cX8_byPair 75 = .ok (.aload_n 2, 1) := by decide +kernel
theorem dX8_byPair_76 : decode cX8_byPair 76 = .ok (.iload 4, 2) := by decide +kernel
theorem dX8_byPair_78 : decode cX8_byPair 78 = .ok (.iaload, 1) := by decide +kernel
theorem dX8_byPair_79 : decode cX8_byPair 79 = .ok (.if_icmp .ne 17, 3) := by decide +kernel
theorem dX8_byPair_96 : decode cX8_byPair 96 = .ok (.iconst 0, 1) := by decide +kernel
theorem dX8_byPair_82 : decode cX8_byPair 82 = .ok (.aload_n 2, 1) := by decide +kernel
theorem dX8_byPair_83 : decode cX8_byPair 83 = .ok (.iload_n 3, 1) := by decide +kernel
theorem dX8_byPair_84 : decode cX8_byPair 84 = .ok (.iaload, 1) := by decide +kernel
theorem dX8_byPair_85 : decode cX8_byPair 85 = .ok (.invokestatic 42, 3) := by decide +kernel
theorem dX8_byPair_88 : decode cX8_byPair 88 = .ok (.iconst 2, 1) := by decide +kernel
theorem dX8_byPair_89 : decode cX8_byPair 89 = .ok (.if_icmp .ne 7, 3) := by decide +kernel
theorem dX8_byPair_46 : decode cX8_byPair 46 = .ok (.iload_n 3, 1) := by decide +kernel
theorem dX8_byPair_47 : decode cX8_byPair 47 = .ok (.iconst 4, 1) := by decide +kernel
theorem dX8_byPair_48 : decode cX8_byPair 48 = .ok (.irem, 1) := by decide +kernel
theorem dX8_byPair_49 : decode cX8_byPair 49 = .ok (.iload_n 0, 1) := by decide +kernel
theorem dX8_byPair_50 : decode cX8_byPair 50 = .ok (.iconst 4, 1) := by decide +kernel
theorem dX8_byPair_51 : decode cX8_byPair 51 = .ok (.irem, 1) := by decide +kernel
theorem dX8_byPair_52 : decode cX8_byPair 52 = .ok (.if_icmp .ne 17, 3) := by decide +kernel
theorem dX8_byPair_69 : decode cX8_byPair 69 = .ok (.iconst 0, 1) := by decide +kernel
theorem dX8_byPair_55 : decode cX8_byPair 55 = .ok (.iload 4, 2) := by decide +kernel
theorem dX8_byPair_57 : decode cX8_byPair 57 = .ok (.iconst 4, 1) := by decide +kernel
theorem dX8_byPair_58 : decode cX8_byPair 58 = .ok (.irem, 1) := by decide +kernel
theorem dX8_byPair_59 : decode cX8_byPair 59 = .ok (.iload_n 0, 1) := by decide +kernel
theorem dX8_byPair_60 : decode cX8_byPair 60 = .ok (.iconst 4, 1) := by decide +kernel
theorem dX8_byPair_61 : decode cX8_byPair 61 = .ok (.irem, 1) := by decide +kernel
theorem dX8_byPair_62 : decode cX8_byPair 62 = .ok (.if_icmp .ne 7, 3) := by decide +kernel
theorem dX8_byPair_65 : decode cX8_byPair 65 = .ok (.iconst 1, 1) := by decide +kernel
theorem dX8_byPair_66 : decode cX8_byPair 66 = .ok (.goto 4, 3) := by decide +kernel
theorem dX8_byPair_20 : decode cX8_byPair 20 = .ok (.iload_n 3, 1) := by decide +kernel
theorem dX8_byPair_21 : decode cX8_byPair 21 = .ok (.iconst 4, 1) := by decide +kernel
theorem dX8_byPair_22 : decode cX8_byPair 22 = .ok (.idiv, 1) := by decide +kernel
theorem dX8_byPair_23 : decode cX8_byPair 23 = .ok (.iload_n 0, 1) := by decide +kernel
theorem dX8_byPair_24 : decode cX8_byPair 24 = .ok (.iconst 4, 1) := by decide +kernel
theorem dX8_byPair_25 : decode cX8_byPair 25 = .ok (.idiv, 1) := by decide +kernel
theorem dX8_byPair_26 : decode cX8_byPair 26 = .ok (.if_icmp .ne 17, 3) := by decide +kernel
theorem dX8_byPair_43 : decode cX8_byPair 43 = .ok (.iconst 0, 1) := by decide +kernel
theorem dX8_byPair_29 : decode cX8_byPair 29 = .ok (.iload 4, 2) := by decide +kernel
theorem dX8_byPair_31 : decode cX8_byPair 31 = .ok (.iconst 4, 1) := by decide +kernel
theorem dX8_byPair_32 : decode cX8_byPair 32 = .ok (.idiv, 1) := by decide +kernel
theorem dX8_byPair_33 : decode cX8_byPair 33 = .ok (.iload_n 0, 1) := by decide +kernel
theorem dX8_byPair_34 : decode cX8_byPair 34 = .ok (.iconst 4, 1) := by decide +kernel
theorem dX8_byPair_35 : decode cX8_byPair 35 = .ok (.idiv, 1) := by decide +kernel
theorem dX8_byPair_36 : decode cX8_byPair 36 = .ok (.if_icmp .ne 7, 3) := by decide +kernel
theorem dX8_byPair_39 : decode cX8_byPair 39 = .ok (.iconst 1, 1) := by decide +kernel
theorem dX8_byPair_40 : decode cX8_byPair 40 = .ok (.goto 4, 3) := by decide +kernel
theorem dX8_isTaken_0 : decode cX8_isTaken 0 = .ok (.iload_n 1, 1) := by decide +kernel
theorem dX8_isTaken_1 : decode cX8_isTaken 1 = .ok (.tableswitch 80 0 3 #[31, 56, 64, 72], 31) := by decide +kernel
theorem dX8_isTaken_32 : decode cX8_isTaken 32 = .ok (.aload_n 0, 1) := by decide +kernel
theorem dX8_isTaken_33 : decode cX8_isTaken 33 = .ok (.getfield 9, 3) := by decide +kernel
theorem dX8_isTaken_36 : decode cX8_isTaken 36 = .ok (.iload_n 2, 1) := by decide +kernel
theorem dX8_isTaken_37 : decode cX8_isTaken 37 = .ok (.iaload, 1) := by decide +kernel
theorem dX8_isTaken_38 : decode cX8_isTaken 38 = .ok (.ifCond .le 17, 3) := by decide +kernel
theorem dX8_isTaken_55 : decode cX8_isTaken 55 = .ok (.iconst 0, 1) := by decide +kernel
theorem dX8_isTaken_56 : decode cX8_isTaken 56 = .ok (.ireturn, 1) := by decide +kernel
theorem dX8_isTaken_57 : decode cX8_isTaken 57 = .ok (.iload_n 2, 1) := by decide +kernel
theorem dX8_isTaken_58 : decode cX8_isTaken 58 = .ok (.iload_n 3, 1) := by decide +kernel
theorem dX8_isTaken_59 : decode cX8_isTaken 59 = .ok (.aload 4, 2) := by decide +kernel
theorem dX8_isTaken_61 : decode cX8_isTaken 61 = .ok (.invokestatic 25, 3) := by decide +kernel
theorem dX8_isTaken_64 : decode cX8_isTaken 64 = .ok (.ireturn, 1) := by decide +kernel
theorem dX8_isTaken_65 : decode cX8_isTaken 65 = .ok (.iload_n 2, 1) := by decide +kernel
theorem dX8_isTaken_66 : decode cX8_isTaken 66 = .ok (.iload_n 3, 1) := by decide +kernel
theorem dX8_isTaken_67 : decode cX8_isTaken 67 = .ok (.aload 4, 2) := by decide +kernel
theorem dX8_isTaken_69 : decode cX8_isTaken 69 = .ok (.invokestatic 29, 3) := by decide +kernel
theorem dX8_isTaken_72 : decode cX8_isTaken 72 = .ok (.ireturn, 1) := by decide +kernel
theorem dX8_isTaken_73 : decode cX8_isTaken 73 = .ok (.iload_n 2, 1) := by decide +kernel
theorem dX8_isTaken_74 : decode cX8_isTaken 74 = .ok (.iload_n 3, 1) := by decide +kernel
theorem dX8_isTaken_75 : decode cX8_isTaken 75 = .ok (.aload 4, 2) := by decide +kernel
theorem dX8_isTaken_77 : decode cX8_isTaken 77 = .ok (.invokestatic 32, 3) := by decide +kernel
theorem dX8_isTaken_80 : decode cX8_isTaken 80 = .ok (.ireturn, 1) := by decide +kernel
theorem dX8_byOnly_34 : decode cX8_byOnly 34 = .ok (.iconst 1, 1) := by decide +kernel
theorem dX8_byOnly_35 : decode cX8_byOnly 35 = .ok (.goto 4, 3) := by decide +kernel
theorem dX8_byPlace_101 : decode cX8_byPlace 101 = .ok (.iconst 1, 1) := by decide +kernel
theorem dX8_byPlace_102 : decode cX8_byPlace 102 = .ok (.goto 4, 3) := by decide +kernel
theorem dX8_byPair_125 : decode cX8_byPair 125 = .ok (.aload_n 2, 1) := by decide +kernel
theorem dX8_byPair_126 : decode cX8_byPair 126 = .ok (.iload_n 3, 1) := by decide +kernel
theorem dX8_byPair_127 : decode cX8_byPair 127 = .ok (.iaload, 1) := by decide +kernel
theorem dX8_byPair_128 : decode cX8_byPair 128 = .ok (.iload_n 1, 1) := by decide +kernel
theorem dX8_byPair_129 : decode cX8_byPair 129 = .ok (.invokestatic 48, 3) := by decide +kernel
theorem dX8_byPair_132 : decode cX8_byPair 132 = .ok (.ifCond .eq 5, 3) := by decide +kernel
theorem dX8_byPair_135 : decode cX8_byPair 135 = .ok (.iconst 1, 1) := by decide +kernel
theorem dX8_byPair_136 : decode cX8_byPair 136 = .ok (.ireturn, 1) := by decide +kernel
theorem dX8_byPair_92 : decode cX8_byPair 92 = .ok (.iconst 1, 1) := by decide +kernel
theorem dX8_byPair_93 : decode cX8_byPair 93 = .ok (.goto 4, 3) := by decide +kernel
theorem dX8_isTaken_41 : decode cX8_isTaken 41 = .ok (.aload_n 0, 1) := by decide +kernel
theorem dX8_isTaken_42 : decode cX8_isTaken 42 = .ok (.getfield 9, 3) := by decide +kernel
theorem dX8_isTaken_45 : decode cX8_isTaken 45 = .ok (.iload_n 2, 1) := by decide +kernel
theorem dX8_isTaken_46 : decode cX8_isTaken 46 = .ok (.iaload, 1) := by decide +kernel
theorem dX8_isTaken_47 : decode cX8_isTaken 47 = .ok (.iload_n 3, 1) := by decide +kernel
theorem dX8_isTaken_48 : decode cX8_isTaken 48 = .ok (.if_icmp .eq 7, 3) := by decide +kernel
theorem dX8_isTaken_51 : decode cX8_isTaken 51 = .ok (.iconst 1, 1) := by decide +kernel
theorem dX8_isTaken_52 : decode cX8_isTaken 52 = .ok (.goto 4, 3) := by decide +kernel
set_option maxHeartbeats 4000000 in
set_option maxRecDepth 100000 in
theorem c_Jx35411_init_45d68 (l : Launch) (G : GG) (it : Nat) (al : Nat) (md : Int32) (ed : Nat) (n : Nat) : Mv l G yJx35411_init_45d68 cJx35411_init_45d68 2 ({ frames := 1, cells := 0, slots := 0, locals := 20 } : Room) [.ref it, .ref al] [(it, .inr (3, [.int (nI 0), .int (nI 0), .int (nI 0), .null])), (al, .inr (4, [.int md, .ref ed, .int (nI n)]))] (fun (u : Unit) => True) (fun (u : Unit) => [(it, .inr (3, [.int (nI 0), .int (-1), .int md, .ref al])), (al, .inr (4, [.int md, .ref ed, .int (nI n)]))]) := by
  intro sz
  refine Met.ofW (cc := cJx35411_init_45d68) (maxL := 2) (ret := none) (by decide) rfl ?_
  intro p e s m args below meth c s₁ B9 hml hv
  obtain ⟨rfl, hsz, hP, hK, hD0, hE⟩ := hv
  have hx := B9.exec
  have hb := B9.bytes
  have hr := B9.returns
  have hts : ∀ w ∈ WW, w.before ([.ref it, .ref al] : List Value).toArray s = true := fun w h => atoms_spec (ws := .code yJx35411_init_45d68 cJx35411_init_45d68 2 none :: WW) B9.pre w (List.mem_cons_of_mem _ h)
  have hown : s.vm.findClass RJx35411 = some m.cls := findClass_of_methodNamed B9.named
  have hin : meth.name = "<init>" := (name_of_methodNamed B9.named B9.method).1
  subst hsz
  have hD := hD0.self (sz := s.heap.size)
  generalize hAe : va_A [(it, .inr (3, [.int (nI 0), .int (nI 0), .int (nI 0), .null])), (al, .inr (4, [.int md, .ref ed, .int (nI n)]))] s.heap.size = A at hD hE ⊢
  have hA : ∀ q : Nat, s.heap.size ≤ q → A q := fun q h => by rw [← hAe]; exact Or.inr h
  have hl := lv_entry ([.ref it, .ref al]) (n := 2) (Nat.le_of_ble_eq_true rfl)
  rw [lg_entry_eq]
  generalize (lg_sl ([.ref it, .ref al]) ++ List.replicate (2 - (lg_sl ([.ref it, .ref al])).length) Slot.unset).toArray = ls at hl ⊢
  have hl : lv_has ls 2 [(0, .ref it), (1, .ref al)] := hl
  refine qgen (fun Q hQ => ?_)
  refine hgen (fun H locs hP hD hS => ?_) hP hD
  refine lv_aload_n hx hb dJx35411_init_45d68_0 rfl (lv_at hl 0 rfl) ?_
  refine lv_aload_n hx hb dJx35411_init_45d68_1 rfl (lv_at hl 1 rfl) ?_
  refine va_putF (D := gD G) (ci := 3) (v := .ref al) (ty := .object "java/util/ArrayList") (C := RJx35411) (T := TJx35411) (N := 4) hx hb hts fwJx35411 tyJx35411 tyJx35411_ok nmJx35411 hown hK hP hD hS 0 rfl rfl 3 (by decide) (hts _ q1119) (fun _ h9 => h9) rfl hin rfl (by decide +kernel) rfl rfl (Nat.le_of_ble_eq_true rfl) dJx35411_init_45d68_2 (fun H locs hP hD hS => ?_)
  have hP : va_P (gD G) vwCl [(it, .inr (3, [.int (nI 0), .int (nI 0), .int (nI 0), .ref al])), (al, .inr (4, [.int md, .ref ed, .int (nI n)]))] H := hP
  have hD : va_D A [(it, .inr (3, [.int (nI 0), .int (nI 0), .int (nI 0), .ref al])), (al, .inr (4, [.int md, .ref ed, .int (nI n)]))] := hD
  refine lv_aload_n hx hb dJx35411_init_45d68_5 rfl (lv_at hl 0 rfl) ?_
  refine W.objInit hx hb hown (hts _ q1115) (hts _ q86) (hts _ q87) rfl (by rw [hml]; exact hl.1) rfl dJx35411_init_45d68_6 (Nat.le_of_ble_eq_true rfl) (Nat.le_of_ble_eq_true rfl) ?_
  refine W.eq (g2 := F0 m 9 ls []) rfl ?_
  refine lv_aload_n hx hb dJx35411_init_45d68_9 rfl (lv_at hl 0 rfl) ?_
  refine lv_iconst (v := -1) hx hb dJx35411_init_45d68_10 (by decide) ?_
  refine va_put (D := gD G) (ci := 3) (v := .int (-1)) (ty := .int) (C := RJx35411) (T := TJx35411) (N := 4) hx hb hts fwJx35411 tyJx35411 tyJx35411_ok nmJx35411 hown hK hP hD hS 0 rfl rfl 1 (by decide) (hts _ q1117) (fun _ h9 => h9) rfl (by decide +kernel) rfl rfl (Nat.le_of_ble_eq_true rfl) dJx35411_init_45d68_11 (fun H locs hP hD hS => ?_)
  have hP : va_P (gD G) vwCl [(it, .inr (3, [.int (nI 0), .int (-1), .int (nI 0), .ref al])), (al, .inr (4, [.int md, .ref ed, .int (nI n)]))] H := hP
  have hD : va_D A [(it, .inr (3, [.int (nI 0), .int (-1), .int (nI 0), .ref al])), (al, .inr (4, [.int md, .ref ed, .int (nI n)]))] := hD
  refine lv_aload_n hx hb dJx35411_init_45d68_14 rfl (lv_at hl 0 rfl) ?_
  refine lv_aload_n hx hb dJx35411_init_45d68_15 rfl (lv_at hl 0 rfl) ?_
  refine va_get (D := gD G) (ci := 3) (v := .ref al) (C := RJx35411) (T := TJx35411) (N := 4) hx hb hts fwJx35411 hown hK hP 0 rfl rfl 3 (by decide) (hts _ q1119) (fun _ h9 => h9) rfl dJx35411_init_45d68_16 ?_
  refine va_get (D := gD G) (ci := 4) (v := .int md) (C := RJx4a65c) (T := TJx4a65c) (N := 3) hx hb hts fwJx4a65c hown hK hP 1 rfl rfl 0 (by decide) (hts _ q107) (fun x9 h9 => u_same (hts _ q108) x9 h9) rfl dJx35411_init_45d68_19 ?_
  refine va_put (D := gD G) (ci := 3) (v := .int md) (ty := .int) (C := RJx35411) (T := TJx35411) (N := 4) hx hb hts fwJx35411 tyJx35411 tyJx35411_ok nmJx35411 hown hK hP hD hS 0 rfl rfl 2 (by decide) (hts _ q1118) (fun _ h9 => h9) rfl (by decide +kernel) rfl rfl (Nat.le_of_ble_eq_true rfl) dJx35411_init_45d68_22 (fun H locs hP hD hS => ?_)
  have hP : va_P (gD G) vwCl [(it, .inr (3, [.int (nI 0), .int (-1), .int md, .ref al])), (al, .inr (4, [.int md, .ref ed, .int (nI n)]))] H := hP
  have hD : va_D A [(it, .inr (3, [.int (nI 0), .int (-1), .int md, .ref al])), (al, .inr (4, [.int md, .ref ed, .int (nI n)]))] := hD
  have hP9 := hP.sub (ws' := [(it, .inr (3, [.int (nI 0), .int (-1), .int md, .ref al])), (al, .inr (4, [.int md, .ref ed, .int (nI n)]))]) [0, 1] rfl
  have hD9 := hD.sub (ws' := [(it, .inr (3, [.int (nI 0), .int (-1), .int md, .ref al])), (al, .inr (4, [.int md, .ref ed, .int (nI n)]))]) [0, 1] (by decide) rfl
  subst hQ
  exact W.vret hx hb hr (fun t ht hW => ⟨⟨(), rfl, trivial, by rw [ht]; exact hP9, hD9⟩, hS.F ht⟩) hS.2.2 dJx35411_init_45d68_25
set_option maxHeartbeats 4000000 in
set_option maxRecDepth 100000 in
theorem c_Jx4a65c_iterator_32c93 (l : Launch) (G : GG) (al : Nat) (md : Int32) (ed : Nat) (n : Nat) : Mr l G yJx4a65c_iterator_32c93 cJx4a65c_iterator_32c93 1 (some (.object "java/util/Iterator")) ({ frames := 2, cells := 1, slots := 4, locals := 41 } : Room) [.ref al] [(al, .inr (4, [.int md, .ref ed, .int (nI n)]))] (fun (u : Unit) (r : Nat) => True) (fun (u : Unit) (r : Nat) => [(al, .inr (4, [.int md, .ref ed, .int (nI n)])), (r, .inr (3, [.int (nI 0), .int (-1), .int md, .ref al]))]) := by
  intro sz
  refine Met.ofW (cc := cJx4a65c_iterator_32c93) (maxL := 1) (ret := (some (.object "java/util/Iterator"))) (by decide) rfl ?_
  intro p e s m args below meth c s₁ B9 hml hv
  obtain ⟨rfl, hsz, hP, hK, hD0, hE⟩ := hv
  have hx := B9.exec
  have hb := B9.bytes
  have hr := B9.returns
  have hts : ∀ w ∈ WW, w.before ([.ref al] : List Value).toArray s = true := fun w h => atoms_spec (ws := .code yJx4a65c_iterator_32c93 cJx4a65c_iterator_32c93 1 (some (.object "java/util/Iterator")) :: WW) B9.pre w (List.mem_cons_of_mem _ h)
  have hown : s.vm.findClass RJx4a65c = some m.cls := findClass_of_methodNamed B9.named
  subst hsz
  have hD := hD0.self (sz := s.heap.size)
  generalize hAe : va_A [(al, .inr (4, [.int md, .ref ed, .int (nI n)]))] s.heap.size = A at hD hE ⊢
  have hA : ∀ q : Nat, s.heap.size ≤ q → A q := fun q h => by rw [← hAe]; exact Or.inr h
  have hl := lv_entry ([.ref al]) (n := 1) (Nat.le_of_ble_eq_true rfl)
  rw [lg_entry_eq]
  generalize (lg_sl ([.ref al]) ++ List.replicate (1 - (lg_sl ([.ref al])).length) Slot.unset).toArray = ls at hl ⊢
  have hl : lv_has ls 1 [(0, .ref al)] := hl
  refine qgen (fun Q hQ => ?_)
  refine hgen (fun H locs hP hD hS => ?_) hP hD
  refine va_new (D := gD G) (ci := 3) (fs := [.int 0, .int 0, .int 0, .null]) (C := RJx35411) (T := TJx35411) (N := 4) hx hb hts fwJx35411 tyJx35411 tyJx35411_ok hown (hts _ q1110) (hts _ q1111) (hts _ q76) hK hP hD hS hA rfl (fun j hj => by rcases (show j = 0 ∨ j = 1 ∨ j = 2 ∨ j = 3 by omega) with rfl | rfl | rfl | rfl <;> rfl) (Nat.le_of_ble_eq_true rfl) (Nat.le_of_ble_eq_true rfl) dJx4a65c_iterator_32c93_0 (fun q_1 H hP hD hS => ?_)
  have hP : va_P (gD G) vwCl [(al, .inr (4, [.int md, .ref ed, .int (nI n)])), (q_1, .inr (3, [.int (nI 0), .int (nI 0), .int (nI 0), .null]))] H := hP
  have hD : va_D A [(al, .inr (4, [.int md, .ref ed, .int (nI n)])), (q_1, .inr (3, [.int (nI 0), .int (nI 0), .int (nI 0), .null]))] := hD
  refine lv_dup hx hb dJx4a65c_iterator_32c93_3 rfl ?_
  refine lv_aload_n hx hb dJx4a65c_iterator_32c93_4 rfl (lv_at hl 0 rfl) ?_
  refine fin_v hP hD hS hA [1, 0] [] (wr := []) rfl rfl (by decide) (by decide) (va_runI (As := [.ref al]) (rest := [.ref q_1]) ⟨hx, hb, hml, hown, hts⟩ (c_Jx35411_init_45d68 l G q_1 al md ed n H.size) (cwI 1 hts (gI q1114) rfl rfl rfl (hts _ q76) (hts _ q1112) (hts _ q1113) rfl (by decide +kernel) ⟨Nat.le_of_ble_eq_true rfl, Nat.le_of_ble_eq_true rfl⟩) (preS hK hE hP hD hS hA [1, 0] rfl (by decide)) rfl rfl hl.1 rfl (lv_room (Nat.le_of_ble_eq_true rfl)) dJx4a65c_iterator_32c93_5 ⟨Nat.le_of_ble_eq_true rfl, Nat.le_of_ble_eq_true rfl⟩) (fun u9 hw_2 H locs hP hD hS => ?_)
  have hP : va_P (gD G) vwCl [(q_1, .inr (3, [.int (nI 0), .int (-1), .int md, .ref al])), (al, .inr (4, [.int md, .ref ed, .int (nI n)]))] H := hP
  have hD : va_D A [(q_1, .inr (3, [.int (nI 0), .int (-1), .int md, .ref al])), (al, .inr (4, [.int md, .ref ed, .int (nI n)]))] := hD
  have hP9 := hP.sub (ws' := [(al, .inr (4, [.int md, .ref ed, .int (nI n)])), (q_1, .inr (3, [.int (nI 0), .int (-1), .int md, .ref al]))]) [1, 0] rfl
  have hD9 := hD.sub (ws' := [(al, .inr (4, [.int md, .ref ed, .int (nI n)])), (q_1, .inr (3, [.int (nI 0), .int (-1), .int md, .ref al]))]) [1, 0] (by decide) rfl
  subst hQ
  exact W.aret (v := .ref q_1) hx hb hr (Or.inl ⟨_, rfl⟩) (Or.inr ⟨_, rfl⟩) (fun t ht hW => ⟨⟨(), q_1, rfl, trivial, trivial, by rw [ht]; exact hP9, hD9⟩, hS.F ht⟩) hS.2.2 dJx4a65c_iterator_32c93_8
set_option maxHeartbeats 4000000 in
set_option maxRecDepth 100000 in
theorem c_hasNext_no (l : Launch) (G : GG) (it : Nat) (lr : Int32) (al : Nat) (md : Int32) (ed : Nat) (n : Nat) (hn : n ≤ 500) : Mi l G yJx35411_hasNext_aae02 cJx35411_hasNext_aae02 1 (some .boolean) ({ frames := 0, cells := 0, slots := 0, locals := 0 } : Room) [.ref it] [(it, .inr (3, [.int (nI n), .int lr, .int md, .ref al])), (al, .inr (4, [.int md, .ref ed, .int (nI n)]))] (fun (r : Int32) (u : Unit) => r = nI 0) (fun (u : Unit) => [(it, .inr (3, [.int (nI n), .int lr, .int md, .ref al])), (al, .inr (4, [.int md, .ref ed, .int (nI n)]))]) := by
  intro sz
  refine Met.ofW (cc := cJx35411_hasNext_aae02) (maxL := 1) (ret := (some .boolean)) (by decide) rfl ?_
  intro p e s m args below meth c s₁ B9 hml hv
  obtain ⟨rfl, hsz, hP, hK, hD0, hE⟩ := hv
  have hx := B9.exec
  have hb := B9.bytes
  have hr := B9.returns
  have hts : ∀ w ∈ WW, w.before ([.ref it] : List Value).toArray s = true := fun w h => atoms_spec (ws := .code yJx35411_hasNext_aae02 cJx35411_hasNext_aae02 1 (some .boolean) :: WW) B9.pre w (List.mem_cons_of_mem _ h)
  have hown : s.vm.findClass RJx35411 = some m.cls := findClass_of_methodNamed B9.named
  subst hsz
  have hD := hD0.self (sz := s.heap.size)
  generalize hAe : va_A [(it, .inr (3, [.int (nI n), .int lr, .int md, .ref al])), (al, .inr (4, [.int md, .ref ed, .int (nI n)]))] s.heap.size = A at hD hE ⊢
  have hA : ∀ q : Nat, s.heap.size ≤ q → A q := fun q h => by rw [← hAe]; exact Or.inr h
  have hl := lv_entry ([.ref it]) (n := 1) (Nat.le_of_ble_eq_true rfl)
  rw [lg_entry_eq]
  generalize (lg_sl ([.ref it]) ++ List.replicate (1 - (lg_sl ([.ref it])).length) Slot.unset).toArray = ls at hl ⊢
  have hl : lv_has ls 1 [(0, .ref it)] := hl
  refine qgen (fun Q hQ => ?_)
  refine hgen (fun H locs hP hD hS => ?_) hP hD
  refine lv_aload_n hx hb dJx35411_hasNext_aae02_0 rfl (lv_at hl 0 rfl) ?_
  refine va_get (D := gD G) (ci := 3) (v := .int (nI n)) (C := RJx35411) (T := TJx35411) (N := 4) hx hb hts fwJx35411 hown hK hP 0 rfl rfl 0 (by decide) (hts _ q1116) (fun _ h9 => h9) rfl dJx35411_hasNext_aae02_1 ?_
  refine lv_aload_n hx hb dJx35411_hasNext_aae02_4 rfl (lv_at hl 0 rfl) ?_
  refine va_get (D := gD G) (ci := 3) (v := .ref al) (C := RJx35411) (T := TJx35411) (N := 4) hx hb hts fwJx35411 hown hK hP 0 rfl rfl 3 (by decide) (hts _ q1119) (fun _ h9 => h9) rfl dJx35411_hasNext_aae02_5 ?_
  refine va_getN (D := gD G) (ci := 4) (v := .int (nI n)) (C := RJx4a65c) (T := TJx4a65c) (N := 3) hx hb hts fwJx4a65c hown hK hP 1 rfl rfl 2 (by decide) (va_Nw.use rfl (hE.1.1 _ nq104)) (fun _ h9 => h9) rfl dJx35411_hasNext_aae02_8 ?_
  refine lv_icmp_eq (tgt := 18) hx hb dJx35411_hasNext_aae02_11 (by decide) (fun c_1 => ?_) (fun c_1 => ?_)
  · skip
    have c_1 : n = n := (nI_eq (a := n) (b := n) (by omega) (by omega)).mp c_1
    refine lv_iconst (v := nI 0) hx hb dJx35411_hasNext_aae02_18 (by decide) ?_
    have hP9 := hP.sub (ws' := [(it, .inr (3, [.int (nI n), .int lr, .int md, .ref al])), (al, .inr (4, [.int md, .ref ed, .int (nI n)]))]) [0, 1] rfl
    have hD9 := hD.sub (ws' := [(it, .inr (3, [.int (nI n), .int lr, .int md, .ref al])), (al, .inr (4, [.int md, .ref ed, .int (nI n)]))]) [0, 1] (by decide) rfl
    subst hQ
    exact W.zret (v := nI 0) hx hb hr (by decide) (fun t ht hW => ⟨⟨nI 0, (), rfl, rfl, by rw [ht]; exact hP9, hD9⟩, hS.F ht⟩) hS.2.2 dJx35411_hasNext_aae02_19
  · skip
    have c_1 : ¬ n = n := fun z => c_1 ((nI_eq (a := n) (b := n) (by omega) (by omega)).mpr z)
    exfalso; omega
set_option maxHeartbeats 4000000 in
set_option maxRecDepth 100000 in
theorem c_hasNext_yes (l : Launch) (G : GG) (it : Nat) (lr : Int32) (al : Nat) (md : Int32) (ed : Nat) (n : Nat) (i : Nat) (hi : i < n) (hn : n ≤ 500) : Mi l G yJx35411_hasNext_aae02 cJx35411_hasNext_aae02 1 (some .boolean) ({ frames := 0, cells := 0, slots := 0, locals := 0 } : Room) [.ref it] [(it, .inr (3, [.int (nI i), .int lr, .int md, .ref al])), (al, .inr (4, [.int md, .ref ed, .int (nI n)]))] (fun (r : Int32) (u : Unit) => r = nI 1) (fun (u : Unit) => [(it, .inr (3, [.int (nI i), .int lr, .int md, .ref al])), (al, .inr (4, [.int md, .ref ed, .int (nI n)]))]) := by
  intro sz
  refine Met.ofW (cc := cJx35411_hasNext_aae02) (maxL := 1) (ret := (some .boolean)) (by decide) rfl ?_
  intro p e s m args below meth c s₁ B9 hml hv
  obtain ⟨rfl, hsz, hP, hK, hD0, hE⟩ := hv
  have hx := B9.exec
  have hb := B9.bytes
  have hr := B9.returns
  have hts : ∀ w ∈ WW, w.before ([.ref it] : List Value).toArray s = true := fun w h => atoms_spec (ws := .code yJx35411_hasNext_aae02 cJx35411_hasNext_aae02 1 (some .boolean) :: WW) B9.pre w (List.mem_cons_of_mem _ h)
  have hown : s.vm.findClass RJx35411 = some m.cls := findClass_of_methodNamed B9.named
  subst hsz
  have hD := hD0.self (sz := s.heap.size)
  generalize hAe : va_A [(it, .inr (3, [.int (nI i), .int lr, .int md, .ref al])), (al, .inr (4, [.int md, .ref ed, .int (nI n)]))] s.heap.size = A at hD hE ⊢
  have hA : ∀ q : Nat, s.heap.size ≤ q → A q := fun q h => by rw [← hAe]; exact Or.inr h
  have hl := lv_entry ([.ref it]) (n := 1) (Nat.le_of_ble_eq_true rfl)
  rw [lg_entry_eq]
  generalize (lg_sl ([.ref it]) ++ List.replicate (1 - (lg_sl ([.ref it])).length) Slot.unset).toArray = ls at hl ⊢
  have hl : lv_has ls 1 [(0, .ref it)] := hl
  refine qgen (fun Q hQ => ?_)
  refine hgen (fun H locs hP hD hS => ?_) hP hD
  refine lv_aload_n hx hb dJx35411_hasNext_aae02_0 rfl (lv_at hl 0 rfl) ?_
  refine va_get (D := gD G) (ci := 3) (v := .int (nI i)) (C := RJx35411) (T := TJx35411) (N := 4) hx hb hts fwJx35411 hown hK hP 0 rfl rfl 0 (by decide) (hts _ q1116) (fun _ h9 => h9) rfl dJx35411_hasNext_aae02_1 ?_
  refine lv_aload_n hx hb dJx35411_hasNext_aae02_4 rfl (lv_at hl 0 rfl) ?_
  refine va_get (D := gD G) (ci := 3) (v := .ref al) (C := RJx35411) (T := TJx35411) (N := 4) hx hb hts fwJx35411 hown hK hP 0 rfl rfl 3 (by decide) (hts _ q1119) (fun _ h9 => h9) rfl dJx35411_hasNext_aae02_5 ?_
  refine va_getN (D := gD G) (ci := 4) (v := .int (nI n)) (C := RJx4a65c) (T := TJx4a65c) (N := 3) hx hb hts fwJx4a65c hown hK hP 1 rfl rfl 2 (by decide) (va_Nw.use rfl (hE.1.1 _ nq104)) (fun _ h9 => h9) rfl dJx35411_hasNext_aae02_8 ?_
  refine lv_icmp_eq (tgt := 18) hx hb dJx35411_hasNext_aae02_11 (by decide) (fun c_1 => ?_) (fun c_1 => ?_)
  · skip
    have c_1 : i = n := (nI_eq (a := i) (b := n) (by omega) (by omega)).mp c_1
    exfalso; omega
  · skip
    have c_1 : ¬ i = n := fun z => c_1 ((nI_eq (a := i) (b := n) (by omega) (by omega)).mpr z)
    refine lv_iconst (v := nI 1) hx hb dJx35411_hasNext_aae02_14 (by decide) ?_
    refine lv_goto (tgt := 19) hx hb dJx35411_hasNext_aae02_15 (by decide) ?_
    have hP9 := hP.sub (ws' := [(it, .inr (3, [.int (nI i), .int lr, .int md, .ref al])), (al, .inr (4, [.int md, .ref ed, .int (nI n)]))]) [0, 1] rfl
    have hD9 := hD.sub (ws' := [(it, .inr (3, [.int (nI i), .int lr, .int md, .ref al])), (al, .inr (4, [.int md, .ref ed, .int (nI n)]))]) [0, 1] (by decide) rfl
    subst hQ
    exact W.zret (v := nI 1) hx hb hr (by decide) (fun t ht hW => ⟨⟨nI 1, (), rfl, rfl, by rw [ht]; exact hP9, hD9⟩, hS.F ht⟩) hS.2.2 dJx35411_hasNext_aae02_19
set_option maxHeartbeats 4000000 in
set_option maxRecDepth 100000 in
theorem c_Jx35411_checkForComodification_da8c8 (l : Launch) (G : GG) (it : Nat) (lr : Int32) (al : Nat) (md : Int32) (ed : Nat) (n : Nat) (cu : Int32) : Mv l G yJx35411_checkForComodification_da8c8 cJx35411_checkForComodification_da8c8 1 ({ frames := 0, cells := 0, slots := 0, locals := 0 } : Room) [.ref it] [(it, .inr (3, [.int cu, .int lr, .int md, .ref al])), (al, .inr (4, [.int md, .ref ed, .int (nI n)]))] (fun (u : Unit) => True) (fun (u : Unit) => [(it, .inr (3, [.int cu, .int lr, .int md, .ref al])), (al, .inr (4, [.int md, .ref ed, .int (nI n)]))]) := by
  intro sz
  refine Met.ofW (cc := cJx35411_checkForComodification_da8c8) (maxL := 1) (ret := none) (by decide) rfl ?_
  intro p e s m args below meth c s₁ B9 hml hv
  obtain ⟨rfl, hsz, hP, hK, hD0, hE⟩ := hv
  have hx := B9.exec
  have hb := B9.bytes
  have hr := B9.returns
  have hts : ∀ w ∈ WW, w.before ([.ref it] : List Value).toArray s = true := fun w h => atoms_spec (ws := .code yJx35411_checkForComodification_da8c8 cJx35411_checkForComodification_da8c8 1 none :: WW) B9.pre w (List.mem_cons_of_mem _ h)
  have hown : s.vm.findClass RJx35411 = some m.cls := findClass_of_methodNamed B9.named
  subst hsz
  have hD := hD0.self (sz := s.heap.size)
  generalize hAe : va_A [(it, .inr (3, [.int cu, .int lr, .int md, .ref al])), (al, .inr (4, [.int md, .ref ed, .int (nI n)]))] s.heap.size = A at hD hE ⊢
  have hA : ∀ q : Nat, s.heap.size ≤ q → A q := fun q h => by rw [← hAe]; exact Or.inr h
  have hl := lv_entry ([.ref it]) (n := 1) (Nat.le_of_ble_eq_true rfl)
  rw [lg_entry_eq]
  generalize (lg_sl ([.ref it]) ++ List.replicate (1 - (lg_sl ([.ref it])).length) Slot.unset).toArray = ls at hl ⊢
  have hl : lv_has ls 1 [(0, .ref it)] := hl
  refine qgen (fun Q hQ => ?_)
  refine hgen (fun H locs hP hD hS => ?_) hP hD
  refine lv_aload_n hx hb dJx35411_checkForComodification_da8c8_0 rfl (lv_at hl 0 rfl) ?_
  refine va_get (D := gD G) (ci := 3) (v := .ref al) (C := RJx35411) (T := TJx35411) (N := 4) hx hb hts fwJx35411 hown hK hP 0 rfl rfl 3 (by decide) (hts _ q1119) (fun _ h9 => h9) rfl dJx35411_checkForComodification_da8c8_1 ?_
  refine va_get (D := gD G) (ci := 4) (v := .int md) (C := RJx4a65c) (T := TJx4a65c) (N := 3) hx hb hts fwJx4a65c hown hK hP 1 rfl rfl 0 (by decide) (hts _ q107) (fun x9 h9 => u_same (hts _ q108) x9 h9) rfl dJx35411_checkForComodification_da8c8_4 ?_
  refine lv_aload_n hx hb dJx35411_checkForComodification_da8c8_7 rfl (lv_at hl 0 rfl) ?_
  refine va_get (D := gD G) (ci := 3) (v := .int md) (C := RJx35411) (T := TJx35411) (N := 4) hx hb hts fwJx35411 hown hK hP 0 rfl rfl 2 (by decide) (hts _ q1118) (fun _ h9 => h9) rfl dJx35411_checkForComodification_da8c8_8 ?_
  refine lv_icmp_eq (tgt := 22) hx hb dJx35411_checkForComodification_da8c8_11 (by decide) (fun c_1 => ?_) (fun c_1 => ?_)
  · skip
    have hP9 := hP.sub (ws' := [(it, .inr (3, [.int cu, .int lr, .int md, .ref al])), (al, .inr (4, [.int md, .ref ed, .int (nI n)]))]) [0, 1] rfl
    have hD9 := hD.sub (ws' := [(it, .inr (3, [.int cu, .int lr, .int md, .ref al])), (al, .inr (4, [.int md, .ref ed, .int (nI n)]))]) [0, 1] (by decide) rfl
    subst hQ
    exact W.vret hx hb hr (fun t ht hW => ⟨⟨(), rfl, trivial, by rw [ht]; exact hP9, hD9⟩, hS.F ht⟩) hS.2.2 dJx35411_checkForComodification_da8c8_22
  · skip
    exact absurd rfl c_1
set_option maxHeartbeats 4000000 in
set_option maxRecDepth 100000 in
theorem c_Jx35411_next_0502b (l : Launch) (G : GG) (it : Nat) (lr : Int32) (al : Nat) (md : Int32) (ed : Nat) (n : Nat) (cap : Nat) (g : Nat → Option Nat) (i : Nat) (v : Nat) (hi : i < n) (hn : n ≤ cap) (hc : cap ≤ 500) (hv : g i = some v) : Mr l G yJx35411_next_0502b cJx35411_next_0502b 3 (some (.object "java/lang/Object")) ({ frames := 1, cells := 0, slots := 0, locals := 20 } : Room) [.ref it] [(it, .inr (3, [.int (nI i), .int lr, .int md, .ref al])), (al, .inr (4, [.int md, .ref ed, .int (nI n)])), (ed, .inl (gyO G, cap, .inr (.inr (.inr (.inr g)))))] (fun (u : Unit) (r : Nat) => r = v) (fun (u : Unit) (r : Nat) => [(it, .inr (3, [.int (nI (i + 1)), .int (nI i), .int md, .ref al])), (al, .inr (4, [.int md, .ref ed, .int (nI n)])), (ed, .inl (gyO G, cap, .inr (.inr (.inr (.inr g)))))]) := by
  intro sz
  refine Met.ofW (cc := cJx35411_next_0502b) (maxL := 3) (ret := (some (.object "java/lang/Object"))) (by decide) rfl ?_
  intro p e s m args below meth c s₁ B9 hml hv
  obtain ⟨rfl, hsz, hP, hK, hD0, hE⟩ := hv
  have hx := B9.exec
  have hb := B9.bytes
  have hr := B9.returns
  have hts : ∀ w ∈ WW, w.before ([.ref it] : List Value).toArray s = true := fun w h => atoms_spec (ws := .code yJx35411_next_0502b cJx35411_next_0502b 3 (some (.object "java/lang/Object")) :: WW) B9.pre w (List.mem_cons_of_mem _ h)
  have hown : s.vm.findClass RJx35411 = some m.cls := findClass_of_methodNamed B9.named
  subst hsz
  have hD := hD0.self (sz := s.heap.size)
  generalize hAe : va_A [(it, .inr (3, [.int (nI i), .int lr, .int md, .ref al])), (al, .inr (4, [.int md, .ref ed, .int (nI n)])), (ed, .inl (gyO G, cap, .inr (.inr (.inr (.inr g)))))] s.heap.size = A at hD hE ⊢
  have hA : ∀ q : Nat, s.heap.size ≤ q → A q := fun q h => by rw [← hAe]; exact Or.inr h
  have hl := lv_entry ([.ref it]) (n := 3) (Nat.le_of_ble_eq_true rfl)
  rw [lg_entry_eq]
  generalize (lg_sl ([.ref it]) ++ List.replicate (3 - (lg_sl ([.ref it])).length) Slot.unset).toArray = ls at hl ⊢
  have hl : lv_has ls 3 [(0, .ref it)] := hl
  refine qgen (fun Q hQ => ?_)
  refine hgen (fun H locs hP hD hS => ?_) hP hD
  refine lv_aload_n hx hb dJx35411_next_0502b_0 rfl (lv_at hl 0 rfl) ?_
  refine fin_v hP hD hS hA [0, 1] [2] (wr := [(ed, .inl (gyO G, cap, .inr (.inr (.inr (.inr g)))))]) rfl rfl (by decide) (by decide) (va_runV (As := []) (rest := []) ⟨hx, hb, hml, hown, hts⟩ (c_Jx35411_checkForComodification_da8c8 l G it lr al md ed n (nI i) H.size) (cwV 0 hts (gV q1148 q1149 q1150 q76 q1151) rfl rfl rfl (by decide +kernel) ⟨Nat.le_of_ble_eq_true rfl, Nat.le_of_ble_eq_true rfl⟩) (preV (q0 := 0) (ci := 3) hK hE hP hD hS hA [0, 1] rfl (by decide) rfl rfl) rfl rfl hl.1 rfl (lv_room (Nat.le_of_ble_eq_true rfl)) dJx35411_next_0502b_1 ⟨Nat.le_of_ble_eq_true rfl, Nat.le_of_ble_eq_true rfl⟩) (fun u9 hw_1 H locs hP hD hS => ?_)
  have hP : va_P (gD G) vwCl [(ed, .inl (gyO G, cap, .inr (.inr (.inr (.inr g))))), (it, .inr (3, [.int (nI i), .int lr, .int md, .ref al])), (al, .inr (4, [.int md, .ref ed, .int (nI n)]))] H := hP
  have hD : va_D A [(ed, .inl (gyO G, cap, .inr (.inr (.inr (.inr g))))), (it, .inr (3, [.int (nI i), .int lr, .int md, .ref al])), (al, .inr (4, [.int md, .ref ed, .int (nI n)]))] := hD
  refine lv_aload_n hx hb dJx35411_next_0502b_4 rfl (lv_at hl 0 rfl) ?_
  refine va_get (D := gD G) (ci := 3) (v := .int (nI i)) (C := RJx35411) (T := TJx35411) (N := 4) hx hb hts fwJx35411 hown hK hP 1 rfl rfl 0 (by decide) (hts _ q1116) (fun _ h9 => h9) rfl dJx35411_next_0502b_5 ?_
  refine lv_istore_n (lv' := [(1, .int (nI i)), (0, .ref it)]) hx hb dJx35411_next_0502b_8 rfl hl (by decide) rfl (fun ls hl => ?_)
  refine lv_iload_n hx hb dJx35411_next_0502b_9 rfl (lv_at hl 0 rfl) ?_
  refine lv_aload_n hx hb dJx35411_next_0502b_10 rfl (lv_at hl 1 rfl) ?_
  refine va_get (D := gD G) (ci := 3) (v := .ref al) (C := RJx35411) (T := TJx35411) (N := 4) hx hb hts fwJx35411 hown hK hP 1 rfl rfl 3 (by decide) (hts _ q1119) (fun _ h9 => h9) rfl dJx35411_next_0502b_11 ?_
  refine va_getN (D := gD G) (ci := 4) (v := .int (nI n)) (C := RJx4a65c) (T := TJx4a65c) (N := 3) hx hb hts fwJx4a65c hown hK hP 2 rfl rfl 2 (by decide) (va_Nw.use rfl (hE.1.1 _ nq104)) (fun _ h9 => h9) rfl dJx35411_next_0502b_14 ?_
  refine lv_icmp_lt (tgt := 28) hx hb dJx35411_next_0502b_17 (by decide) (fun c_3 => ?_) (fun c_3 => ?_)
  · skip
    have c_3 : i < n := (nI_ltI (a := i) (b := n) (by omega) (by omega)).mp c_3
    refine lv_aload_n hx hb dJx35411_next_0502b_28 rfl (lv_at hl 1 rfl) ?_
    refine va_get (D := gD G) (ci := 3) (v := .ref al) (C := RJx35411) (T := TJx35411) (N := 4) hx hb hts fwJx35411 hown hK hP 1 rfl rfl 3 (by decide) (hts _ q1119) (fun _ h9 => h9) rfl dJx35411_next_0502b_29 ?_
    refine va_get (D := gD G) (ci := 4) (v := .ref ed) (C := RJx4a65c) (T := TJx4a65c) (N := 3) hx hb hts fwJx4a65c hown hK hP 2 rfl rfl 1 (by decide) (hts _ q103) (fun _ h9 => h9) rfl dJx35411_next_0502b_32 ?_
    refine lv_astore_n (lv' := [(2, .ref ed), (1, .int (nI i)), (0, .ref it)]) hx hb dJx35411_next_0502b_35 rfl hl (by decide) rfl (fun ls hl => ?_)
    refine lv_iload_n hx hb dJx35411_next_0502b_36 rfl (lv_at hl 1 rfl) ?_
    refine lv_aload_n hx hb dJx35411_next_0502b_37 rfl (lv_at hl 0 rfl) ?_
    refine va_alen (D := gD G) (v := nI cap) hx hb hK hP 0 1 rfl rfl rfl dJx35411_next_0502b_38 ?_
    refine lv_icmp_lt (tgt := 50) hx hb dJx35411_next_0502b_39 (by decide) (fun c_4 => ?_) (fun c_4 => ?_)
    · skip
      have c_4 : i < cap := (nI_ltI (a := i) (b := cap) (by omega) (by omega)).mp c_4
      refine lv_aload_n hx hb dJx35411_next_0502b_50 rfl (lv_at hl 2 rfl) ?_
      refine lv_iload_n hx hb dJx35411_next_0502b_51 rfl (lv_at hl 1 rfl) ?_
      refine lv_iconst (v := nI 1) hx hb dJx35411_next_0502b_52 (by decide) ?_
      refine lv_iadd hx hb dJx35411_next_0502b_53 ?_
      refine lv_toe (nI_add i 1) ?_
      refine va_put (D := gD G) (ci := 3) (v := .int (nI (i + 1))) (ty := .int) (C := RJx35411) (T := TJx35411) (N := 4) hx hb hts fwJx35411 tyJx35411 tyJx35411_ok nmJx35411 hown hK hP hD hS 1 rfl rfl 0 (by decide) (hts _ q1116) (fun _ h9 => h9) rfl (by decide +kernel) rfl rfl (Nat.le_of_ble_eq_true rfl) dJx35411_next_0502b_54 (fun H locs hP hD hS => ?_)
      have hP : va_P (gD G) vwCl [(ed, .inl (gyO G, cap, .inr (.inr (.inr (.inr g))))), (it, .inr (3, [.int (nI (i + 1)), .int lr, .int md, .ref al])), (al, .inr (4, [.int md, .ref ed, .int (nI n)]))] H := hP
      have hD : va_D A [(ed, .inl (gyO G, cap, .inr (.inr (.inr (.inr g))))), (it, .inr (3, [.int (nI (i + 1)), .int lr, .int md, .ref al])), (al, .inr (4, [.int md, .ref ed, .int (nI n)]))] := hD
      refine lv_aload_n hx hb dJx35411_next_0502b_57 rfl (lv_at hl 0 rfl) ?_
      refine lv_aload_n hx hb dJx35411_next_0502b_58 rfl (lv_at hl 2 rfl) ?_
      refine lv_iload_n hx hb dJx35411_next_0502b_59 rfl (lv_at hl 1 rfl) ?_
      refine lv_dup_x1 hx hb dJx35411_next_0502b_60 rfl rfl ?_
      refine va_put (D := gD G) (ci := 3) (v := .int (nI i)) (ty := .int) (C := RJx35411) (T := TJx35411) (N := 4) hx hb hts fwJx35411 tyJx35411 tyJx35411_ok nmJx35411 hown hK hP hD hS 1 rfl rfl 1 (by decide) (hts _ q1117) (fun _ h9 => h9) rfl (by decide +kernel) rfl rfl (Nat.le_of_ble_eq_true rfl) dJx35411_next_0502b_61 (fun H locs hP hD hS => ?_)
      have hP : va_P (gD G) vwCl [(ed, .inl (gyO G, cap, .inr (.inr (.inr (.inr g))))), (it, .inr (3, [.int (nI (i + 1)), .int (nI i), .int md, .ref al])), (al, .inr (4, [.int md, .ref ed, .int (nI n)]))] H := hP
      have hD : va_D A [(ed, .inl (gyO G, cap, .inr (.inr (.inr (.inr g))))), (it, .inr (3, [.int (nI (i + 1)), .int (nI i), .int md, .ref al])), (al, .inr (4, [.int md, .ref ed, .int (nI n)]))] := hD
      refine va_aldq (D := gD G) (cA := gyO G) (C := "java/lang/Object") (n := cap) (f := g) hx hb hK hP 0 1 rfl rfl (vp_in_nI (n := i) (N := cap) (by omega) (by omega)) dJx35411_next_0502b_64 ?_
      refine lv_tov (show va_rf (g (nI i).toNatClampNeg) = .ref v by rw [nI_clamp (by omega), hv]; rfl) ?_
      have hP9 := hP.sub (ws' := [(it, .inr (3, [.int (nI (i + 1)), .int (nI i), .int md, .ref al])), (al, .inr (4, [.int md, .ref ed, .int (nI n)])), (ed, .inl (gyO G, cap, .inr (.inr (.inr (.inr g)))))]) [1, 2, 0] rfl
      have hD9 := hD.sub (ws' := [(it, .inr (3, [.int (nI (i + 1)), .int (nI i), .int md, .ref al])), (al, .inr (4, [.int md, .ref ed, .int (nI n)])), (ed, .inl (gyO G, cap, .inr (.inr (.inr (.inr g)))))]) [1, 2, 0] (by decide) rfl
      subst hQ
      exact W.aret (v := .ref v) hx hb hr (Or.inl ⟨_, rfl⟩) (Or.inr ⟨_, rfl⟩) (fun t ht hW => ⟨⟨(), v, rfl, trivial, (show v = v by omega), by rw [ht]; exact hP9, hD9⟩, hS.F ht⟩) hS.2.2 dJx35411_next_0502b_65
    · skip
      have c_4 : ¬ i < cap := fun z => c_4 ((nI_ltI (a := i) (b := cap) (by omega) (by omega)).mpr z)
      exfalso; omega
  · skip
    have c_3 : ¬ i < n := fun z => c_3 ((nI_ltI (a := i) (b := n) (by omega) (by omega)).mpr z)
    exfalso; omega
set_option maxHeartbeats 4000000 in
set_option maxRecDepth 100000 in
theorem c_byOnly_X (l : Launch) (G : GG) (k : Nat) (ca : Nat) (f : Nat → Int32) (x : Nat) (v : Nat) (hX : inX x f) (hx3 : x = 15 ∨ x = 14 ∨ x = 12) (hk : k < 16) (hv1 : 1 ≤ v) (hv4 : v ≤ 4) : Mi l G yX8_byOnly cX8_byOnly 5 (some .boolean) ({ frames := 1, cells := 0, slots := 0, locals := 21 } : Room) [.int (nI k), .int (nI v), .ref ca] [(ca, .inl (gyI G, 16, .inl f))] (fun (r : Int32) (u : Unit) => r = nI 0) (fun (u : Unit) => [(ca, .inl (gyI G, 16, .inl f))]) := by
  intro sz
  refine Met.ofW (cc := cX8_byOnly) (maxL := 5) (ret := (some .boolean)) (by decide) rfl ?_
  intro p e s m args below meth c s₁ B9 hml hv
  obtain ⟨rfl, hsz, hP, hK, hD0, hE⟩ := hv
  have hx := B9.exec
  have hb := B9.bytes
  have hr := B9.returns
  have hts : ∀ w ∈ WW, w.before ([.int (nI k), .int (nI v), .ref ca] : List Value).toArray s = true := fun w h => atoms_spec (ws := .code yX8_byOnly cX8_byOnly 5 (some .boolean) :: WW) B9.pre w (List.mem_cons_of_mem _ h)
  have hown : s.vm.findClass RX8 = some m.cls := findClass_of_methodNamed B9.named
  subst hsz
  have hD := hD0.self (sz := s.heap.size)
  generalize hAe : va_A [(ca, .inl (gyI G, 16, .inl f))] s.heap.size = A at hD hE ⊢
  have hA : ∀ q : Nat, s.heap.size ≤ q → A q := fun q h => by rw [← hAe]; exact Or.inr h
  have hl := lv_entry ([.int (nI k), .int (nI v), .ref ca]) (n := 5) (Nat.le_of_ble_eq_true rfl)
  rw [lg_entry_eq]
  generalize (lg_sl ([.int (nI k), .int (nI v), .ref ca]) ++ List.replicate (5 - (lg_sl ([.int (nI k), .int (nI v), .ref ca])).length) Slot.unset).toArray = ls at hl ⊢
  have hl : lv_has ls 5 [(0, .int (nI k)), (1, .int (nI v)), (2, .ref ca)] := hl
  refine qgen (fun Q hQ => ?_)
  refine hgen (fun H locs hP hD hS => ?_) hP hD
  rcases (show v = 1 ∨ v = 2 ∨ v = 3 ∨ v = 4 by omega) with rfl | rfl | rfl | rfl
  · skip
    refine lv_iconst (v := nI 0) hx hb dX8_byOnly_0 (by decide) ?_
    refine lv_istore_n (lv' := [(3, .int (nI 0)), (0, .int (nI k)), (1, .int (nI 1)), (2, .ref ca)]) hx hb dX8_byOnly_1 rfl hl (by decide) rfl (fun ls hl => ?_)
    refine lv_iconst (v := nI 0) hx hb dX8_byOnly_2 (by decide) ?_
    refine lv_istore (lv' := [(4, .int (nI 0)), (3, .int (nI 0)), (0, .int (nI k)), (1, .int (nI 1)), (2, .ref ca)]) hx hb dX8_byOnly_3 hl (by decide) rfl (fun ls hl => ?_)
    have cut_5_1 : ∀ (n9 : Nat) (i : Nat) (hi : i ≤ 16) (hm9 : 16 - i < n9) (H : Heap) (locs : List Loc), va_P (gD G) vwCl [(ca, .inl (gyI G, 16, .inl f))] H → va_D A [(ca, .inl (gyI G, 16, .inl f))] → va_S A s.heap H locs → ∀ (ls : Array Slot), lv_has ls 5 [(0, .int (nI k)), (1, .int (nI 1)), (2, .ref ca), (3, .int (nI 0)), (4, .int (nI i))] → W p l e ({ frames := 1, cells := 0, slots := 0, locals := 21 } : Room) s m ([.int (nI k), .int (nI 1), .ref ca] : List Value).toArray below meth c H locs 0 0 Q (F0 m 5 ls []) := by
      intro n9
      induction n9 with
      | zero =>
        intro i hi hm9
        exact absurd hm9 (Nat.not_lt_zero _)
      | succ n9 ih_5_1 =>
        intro i hi hm9 H locs hP hD hS ls hl
        refine lv_iload hx hb dX8_byOnly_5 (lv_at hl 4 rfl) ?_
        refine lv_bipush (v := nI 16) hx hb dX8_byOnly_7 (by decide) ?_
        refine lv_icmp_ge (tgt := 47) hx hb dX8_byOnly_9 (by decide) (fun c_1 => ?_) (fun c_1 => ?_)
        · skip
          have c_1 : 16 ≤ i := (nI_leI (a := 16) (b := i) (by omega) (by omega)).mp c_1
          refine lv_iload_n hx hb dX8_byOnly_47 rfl (lv_at hl 3 rfl) ?_
          have hP9 := hP.sub (ws' := [(ca, .inl (gyI G, 16, .inl f))]) [0] rfl
          have hD9 := hD.sub (ws' := [(ca, .inl (gyI G, 16, .inl f))]) [0] (by decide) rfl
          subst hQ
          exact W.zret (v := nI 0) hx hb hr (by decide) (fun t ht hW => ⟨⟨nI 0, (), rfl, rfl, by rw [ht]; exact hP9, hD9⟩, hS.F ht⟩) hS.2.2 dX8_byOnly_48
        · skip
          have c_1 : ¬ 16 ≤ i := fun z => c_1 ((nI_leI (a := 16) (b := i) (by omega) (by omega)).mpr z)
          refine lv_iload_n hx hb dX8_byOnly_12 rfl (lv_at hl 3 rfl) ?_
          refine lv_iload hx hb dX8_byOnly_13 (lv_at hl 4 rfl) ?_
          refine lv_iload_n hx hb dX8_byOnly_15 rfl (lv_at hl 0 rfl) ?_
          refine fin_i hP hD hS hA [] [0] (wr := [(ca, .inl (gyI G, 16, .inl f))]) rfl rfl (by decide) (by decide) (va_runSN (As := [.int (nI i), .int (nI k)]) (rest := [.int (nI 0)]) ⟨hx, hb, hml, hown, hts⟩ (c_X10_areInLine l G i k (by omega) (by omega) H.size) ⟨(va_cnB 2 hts (gI q1088) rfl rfl rfl (hE.1.1 _ nq1086) (hts _ q52) (by decide +kernel) ⟨Nat.le_of_ble_eq_true rfl, Nat.le_of_ble_eq_true rfl⟩), hts _ q1087, trivial⟩ (preS hK hE hP hD hS hA [] rfl (by decide)) rfl rfl hl.1 rfl (lv_room (Nat.le_of_ble_eq_true rfl)) dX8_byOnly_16 ⟨Nat.le_of_ble_eq_true rfl, Nat.le_of_ble_eq_true rfl⟩) (fun r_3 u9 hw_2 H locs hP hD hS => ?_)
          have hP : va_P (gD G) vwCl [(ca, .inl (gyI G, 16, .inl f))] H := hP
          have hD : va_D A [(ca, .inl (gyI G, 16, .inl f))] := hD
          refine lv_if_eq (tgt := 38) hx hb dX8_byOnly_19 (by decide) (fun c_4 => ?_) (fun c_4 => ?_)
          · skip
            refine lv_iconst (v := nI 0) hx hb dX8_byOnly_38 (by decide) ?_
            refine lv_ior hx hb dX8_byOnly_39 ?_
            refine lv_toe (show _ = nI 0 by decide) ?_
            refine lv_istore_n (lv' := [(3, .int (nI 0)), (0, .int (nI k)), (1, .int (nI 1)), (2, .ref ca), (4, .int (nI i))]) hx hb dX8_byOnly_40 rfl hl (by decide) rfl (fun ls hl => ?_)
            refine lv_iinc (v := nI (i + 1)) (lv' := [(4, .int (nI (i + 1))), (3, .int (nI 0)), (0, .int (nI k)), (1, .int (nI 1)), (2, .ref ca)]) hx hb dX8_byOnly_41 hl (k := 4) rfl (nI_add i 1) (by decide) rfl (fun ls hl => ?_)
            refine lv_goto (tgt := 5) hx hb dX8_byOnly_44 (by decide) ?_
            exact ih_5_1 (i + 1) (by omega) (by omega) _ _ (hP.sub [0] rfl) (hD.sub [0] (by decide) rfl) hS ls (lv_sub hl [2, 3, 4, 1, 0] rfl)
          · skip
            refine lv_aload_n hx hb dX8_byOnly_22 rfl (lv_at hl 2 rfl) ?_
            refine lv_iload hx hb dX8_byOnly_23 (lv_at hl 4 rfl) ?_
            refine va_iald (D := gD G) (cA := gyI G) (n := 16) (f := f) hx hb hK hP 0 0 rfl rfl (vp_in_nI (n := i) (N := 16) (by omega) (by omega)) dX8_byOnly_25 ?_
            refine lv_toe (show f (nI i).toNatClampNeg = nI (Fx x i) by rw [nI_clamp (by omega)]; exact hX i (by omega)) ?_
            have hfx_5 := fx_or x i
            refine lv_iconst (v := nI 1) hx hb dX8_byOnly_26 (by decide) ?_
            refine lv_iload_n hx hb dX8_byOnly_27 rfl (lv_at hl 1 rfl) ?_
            refine lv_iconst (v := nI 1) hx hb dX8_byOnly_28 (by decide) ?_
            refine lv_isub hx hb dX8_byOnly_29 ?_
            refine lv_toe (show _ = nI 0 by decide) ?_
            refine lv_ishl hx hb dX8_byOnly_30 ?_
            refine lv_toe (show _ = nI 1 by decide) ?_
            refine lv_icmp_ne (tgt := 38) hx hb dX8_byOnly_31 (by decide) (fun c_6 => ?_) (fun c_6 => ?_)
            · skip
              have c_6 : ¬ (Fx x i) = 1 := fun z => c_6 ((nI_eq (a := Fx x i) (b := 1) (by omega) (by omega)).mpr z)
              refine lv_iconst (v := nI 0) hx hb dX8_byOnly_38 (by decide) ?_
              refine lv_ior hx hb dX8_byOnly_39 ?_
              refine lv_toe (show _ = nI 0 by decide) ?_
              refine lv_istore_n (lv' := [(3, .int (nI 0)), (0, .int (nI k)), (1, .int (nI 1)), (2, .ref ca), (4, .int (nI i))]) hx hb dX8_byOnly_40 rfl hl (by decide) rfl (fun ls hl => ?_)
              refine lv_iinc (v := nI (i + 1)) (lv' := [(4, .int (nI (i + 1))), (3, .int (nI 0)), (0, .int (nI k)), (1, .int (nI 1)), (2, .ref ca)]) hx hb dX8_byOnly_41 hl (k := 4) rfl (nI_add i 1) (by decide) rfl (fun ls hl => ?_)
              refine lv_goto (tgt := 5) hx hb dX8_byOnly_44 (by decide) ?_
              exact ih_5_1 (i + 1) (by omega) (by omega) _ _ (hP.sub [0] rfl) (hD.sub [0] (by decide) rfl) hS ls (lv_sub hl [2, 3, 4, 1, 0] rfl)
            · skip
              have c_6 : (Fx x i) = 1 := (nI_eq (a := Fx x i) (b := 1) (by omega) (by omega)).mp c_6
              exfalso; omega
    exact cut_5_1 (16 - 0 + 1) 0 (by omega) (Nat.lt_succ_self _) _ _ (hP.sub [0] rfl) (hD.sub [0] (by decide) rfl) hS ls (lv_sub hl [2, 3, 4, 1, 0] rfl)
  · skip
    refine lv_iconst (v := nI 0) hx hb dX8_byOnly_0 (by decide) ?_
    refine lv_istore_n (lv' := [(3, .int (nI 0)), (0, .int (nI k)), (1, .int (nI 2)), (2, .ref ca)]) hx hb dX8_byOnly_1 rfl hl (by decide) rfl (fun ls hl => ?_)
    refine lv_iconst (v := nI 0) hx hb dX8_byOnly_2 (by decide) ?_
    refine lv_istore (lv' := [(4, .int (nI 0)), (3, .int (nI 0)), (0, .int (nI k)), (1, .int (nI 2)), (2, .ref ca)]) hx hb dX8_byOnly_3 hl (by decide) rfl (fun ls hl => ?_)
    have cut_5_2 : ∀ (n9 : Nat) (i : Nat) (hi : i ≤ 16) (hm9 : 16 - i < n9) (H : Heap) (locs : List Loc), va_P (gD G) vwCl [(ca, .inl (gyI G, 16, .inl f))] H → va_D A [(ca, .inl (gyI G, 16, .inl f))] → va_S A s.heap H locs → ∀ (ls : Array Slot), lv_has ls 5 [(0, .int (nI k)), (1, .int (nI 2)), (2, .ref ca), (3, .int (nI 0)), (4, .int (nI i))] → W p l e ({ frames := 1, cells := 0, slots := 0, locals := 21 } : Room) s m ([.int (nI k), .int (nI 2), .ref ca] : List Value).toArray below meth c H locs 0 0 Q (F0 m 5 ls []) := by
      intro n9
      induction n9 with
      | zero =>
        intro i hi hm9
        exact absurd hm9 (Nat.not_lt_zero _)
      | succ n9 ih_5_2 =>
        intro i hi hm9 H locs hP hD hS ls hl
        refine lv_iload hx hb dX8_byOnly_5 (lv_at hl 4 rfl) ?_
        refine lv_bipush (v := nI 16) hx hb dX8_byOnly_7 (by decide) ?_
        refine lv_icmp_ge (tgt := 47) hx hb dX8_byOnly_9 (by decide) (fun c_7 => ?_) (fun c_7 => ?_)
        · skip
          have c_7 : 16 ≤ i := (nI_leI (a := 16) (b := i) (by omega) (by omega)).mp c_7
          refine lv_iload_n hx hb dX8_byOnly_47 rfl (lv_at hl 3 rfl) ?_
          have hP9 := hP.sub (ws' := [(ca, .inl (gyI G, 16, .inl f))]) [0] rfl
          have hD9 := hD.sub (ws' := [(ca, .inl (gyI G, 16, .inl f))]) [0] (by decide) rfl
          subst hQ
          exact W.zret (v := nI 0) hx hb hr (by decide) (fun t ht hW => ⟨⟨nI 0, (), rfl, rfl, by rw [ht]; exact hP9, hD9⟩, hS.F ht⟩) hS.2.2 dX8_byOnly_48
        · skip
          have c_7 : ¬ 16 ≤ i := fun z => c_7 ((nI_leI (a := 16) (b := i) (by omega) (by omega)).mpr z)
          refine lv_iload_n hx hb dX8_byOnly_12 rfl (lv_at hl 3 rfl) ?_
          refine lv_iload hx hb dX8_byOnly_13 (lv_at hl 4 rfl) ?_
          refine lv_iload_n hx hb dX8_byOnly_15 rfl (lv_at hl 0 rfl) ?_
          refine fin_i hP hD hS hA [] [0] (wr := [(ca, .inl (gyI G, 16, .inl f))]) rfl rfl (by decide) (by decide) (va_runSN (As := [.int (nI i), .int (nI k)]) (rest := [.int (nI 0)]) ⟨hx, hb, hml, hown, hts⟩ (c_X10_areInLine l G i k (by omega) (by omega) H.size) ⟨(va_cnB 2 hts (gI q1088) rfl rfl rfl (hE.1.1 _ nq1086) (hts _ q52) (by decide +kernel) ⟨Nat.le_of_ble_eq_true rfl, Nat.le_of_ble_eq_true rfl⟩), hts _ q1087, trivial⟩ (preS hK hE hP hD hS hA [] rfl (by decide)) rfl rfl hl.1 rfl (lv_room (Nat.le_of_ble_eq_true rfl)) dX8_byOnly_16 ⟨Nat.le_of_ble_eq_true rfl, Nat.le_of_ble_eq_true rfl⟩) (fun r_9 u9 hw_8 H locs hP hD hS => ?_)
          have hP : va_P (gD G) vwCl [(ca, .inl (gyI G, 16, .inl f))] H := hP
          have hD : va_D A [(ca, .inl (gyI G, 16, .inl f))] := hD
          refine lv_if_eq (tgt := 38) hx hb dX8_byOnly_19 (by decide) (fun c_10 => ?_) (fun c_10 => ?_)
          · skip
            refine lv_iconst (v := nI 0) hx hb dX8_byOnly_38 (by decide) ?_
            refine lv_ior hx hb dX8_byOnly_39 ?_
            refine lv_toe (show _ = nI 0 by decide) ?_
            refine lv_istore_n (lv' := [(3, .int (nI 0)), (0, .int (nI k)), (1, .int (nI 2)), (2, .ref ca), (4, .int (nI i))]) hx hb dX8_byOnly_40 rfl hl (by decide) rfl (fun ls hl => ?_)
            refine lv_iinc (v := nI (i + 1)) (lv' := [(4, .int (nI (i + 1))), (3, .int (nI 0)), (0, .int (nI k)), (1, .int (nI 2)), (2, .ref ca)]) hx hb dX8_byOnly_41 hl (k := 4) rfl (nI_add i 1) (by decide) rfl (fun ls hl => ?_)
            refine lv_goto (tgt := 5) hx hb dX8_byOnly_44 (by decide) ?_
            exact ih_5_2 (i + 1) (by omega) (by omega) _ _ (hP.sub [0] rfl) (hD.sub [0] (by decide) rfl) hS ls (lv_sub hl [2, 3, 4, 1, 0] rfl)
          · skip
            refine lv_aload_n hx hb dX8_byOnly_22 rfl (lv_at hl 2 rfl) ?_
            refine lv_iload hx hb dX8_byOnly_23 (lv_at hl 4 rfl) ?_
            refine va_iald (D := gD G) (cA := gyI G) (n := 16) (f := f) hx hb hK hP 0 0 rfl rfl (vp_in_nI (n := i) (N := 16) (by omega) (by omega)) dX8_byOnly_25 ?_
            refine lv_toe (show f (nI i).toNatClampNeg = nI (Fx x i) by rw [nI_clamp (by omega)]; exact hX i (by omega)) ?_
            have hfx_11 := fx_or x i
            refine lv_iconst (v := nI 1) hx hb dX8_byOnly_26 (by decide) ?_
            refine lv_iload_n hx hb dX8_byOnly_27 rfl (lv_at hl 1 rfl) ?_
            refine lv_iconst (v := nI 1) hx hb dX8_byOnly_28 (by decide) ?_
            refine lv_isub hx hb dX8_byOnly_29 ?_
            refine lv_toe (show _ = nI 1 by decide) ?_
            refine lv_ishl hx hb dX8_byOnly_30 ?_
            refine lv_toe (show _ = nI 2 by decide) ?_
            refine lv_icmp_ne (tgt := 38) hx hb dX8_byOnly_31 (by decide) (fun c_12 => ?_) (fun c_12 => ?_)
            · skip
              have c_12 : ¬ (Fx x i) = 2 := fun z => c_12 ((nI_eq (a := Fx x i) (b := 2) (by omega) (by omega)).mpr z)
              refine lv_iconst (v := nI 0) hx hb dX8_byOnly_38 (by decide) ?_
              refine lv_ior hx hb dX8_byOnly_39 ?_
              refine lv_toe (show _ = nI 0 by decide) ?_
              refine lv_istore_n (lv' := [(3, .int (nI 0)), (0, .int (nI k)), (1, .int (nI 2)), (2, .ref ca), (4, .int (nI i))]) hx hb dX8_byOnly_40 rfl hl (by decide) rfl (fun ls hl => ?_)
              refine lv_iinc (v := nI (i + 1)) (lv' := [(4, .int (nI (i + 1))), (3, .int (nI 0)), (0, .int (nI k)), (1, .int (nI 2)), (2, .ref ca)]) hx hb dX8_byOnly_41 hl (k := 4) rfl (nI_add i 1) (by decide) rfl (fun ls hl => ?_)
              refine lv_goto (tgt := 5) hx hb dX8_byOnly_44 (by decide) ?_
              exact ih_5_2 (i + 1) (by omega) (by omega) _ _ (hP.sub [0] rfl) (hD.sub [0] (by decide) rfl) hS ls (lv_sub hl [2, 3, 4, 1, 0] rfl)
            · skip
              have c_12 : (Fx x i) = 2 := (nI_eq (a := Fx x i) (b := 2) (by omega) (by omega)).mp c_12
              exfalso; omega
    exact cut_5_2 (16 - 0 + 1) 0 (by omega) (Nat.lt_succ_self _) _ _ (hP.sub [0] rfl) (hD.sub [0] (by decide) rfl) hS ls (lv_sub hl [2, 3, 4, 1, 0] rfl)
  · skip
    refine lv_iconst (v := nI 0) hx hb dX8_byOnly_0 (by decide) ?_
    refine lv_istore_n (lv' := [(3, .int (nI 0)), (0, .int (nI k)), (1, .int (nI 3)), (2, .ref ca)]) hx hb dX8_byOnly_1 rfl hl (by decide) rfl (fun ls hl => ?_)
    refine lv_iconst (v := nI 0) hx hb dX8_byOnly_2 (by decide) ?_
    refine lv_istore (lv' := [(4, .int (nI 0)), (3, .int (nI 0)), (0, .int (nI k)), (1, .int (nI 3)), (2, .ref ca)]) hx hb dX8_byOnly_3 hl (by decide) rfl (fun ls hl => ?_)
    have cut_5_3 : ∀ (n9 : Nat) (i : Nat) (hi : i ≤ 16) (hm9 : 16 - i < n9) (H : Heap) (locs : List Loc), va_P (gD G) vwCl [(ca, .inl (gyI G, 16, .inl f))] H → va_D A [(ca, .inl (gyI G, 16, .inl f))] → va_S A s.heap H locs → ∀ (ls : Array Slot), lv_has ls 5 [(0, .int (nI k)), (1, .int (nI 3)), (2, .ref ca), (3, .int (nI 0)), (4, .int (nI i))] → W p l e ({ frames := 1, cells := 0, slots := 0, locals := 21 } : Room) s m ([.int (nI k), .int (nI 3), .ref ca] : List Value).toArray below meth c H locs 0 0 Q (F0 m 5 ls []) := by
      intro n9
      induction n9 with
      | zero =>
        intro i hi hm9
        exact absurd hm9 (Nat.not_lt_zero _)
      | succ n9 ih_5_3 =>
        intro i hi hm9 H locs hP hD hS ls hl
        refine lv_iload hx hb dX8_byOnly_5 (lv_at hl 4 rfl) ?_
        refine lv_bipush (v := nI 16) hx hb dX8_byOnly_7 (by decide) ?_
        refine lv_icmp_ge (tgt := 47) hx hb dX8_byOnly_9 (by decide) (fun c_13 => ?_) (fun c_13 => ?_)
        · skip
          have c_13 : 16 ≤ i := (nI_leI (a := 16) (b := i) (by omega) (by omega)).mp c_13
          refine lv_iload_n hx hb dX8_byOnly_47 rfl (lv_at hl 3 rfl) ?_
          have hP9 := hP.sub (ws' := [(ca, .inl (gyI G, 16, .inl f))]) [0] rfl
          have hD9 := hD.sub (ws' := [(ca, .inl (gyI G, 16, .inl f))]) [0] (by decide) rfl
          subst hQ
          exact W.zret (v := nI 0) hx hb hr (by decide) (fun t ht hW => ⟨⟨nI 0, (), rfl, rfl, by rw [ht]; exact hP9, hD9⟩, hS.F ht⟩) hS.2.2 dX8_byOnly_48
        · skip
          have c_13 : ¬ 16 ≤ i := fun z => c_13 ((nI_leI (a := 16) (b := i) (by omega) (by omega)).mpr z)
          refine lv_iload_n hx hb dX8_byOnly_12 rfl (lv_at hl 3 rfl) ?_
          refine lv_iload hx hb dX8_byOnly_13 (lv_at hl 4 rfl) ?_
          refine lv_iload_n hx hb dX8_byOnly_15 rfl (lv_at hl 0 rfl) ?_
          refine fin_i hP hD hS hA [] [0] (wr := [(ca, .inl (gyI G, 16, .inl f))]) rfl rfl (by decide) (by decide) (va_runSN (As := [.int (nI i), .int (nI k)]) (rest := [.int (nI 0)]) ⟨hx, hb, hml, hown, hts⟩ (c_X10_areInLine l G i k (by omega) (by omega) H.size) ⟨(va_cnB 2 hts (gI q1088) rfl rfl rfl (hE.1.1 _ nq1086) (hts _ q52) (by decide +kernel) ⟨Nat.le_of_ble_eq_true rfl, Nat.le_of_ble_eq_true rfl⟩), hts _ q1087, trivial⟩ (preS hK hE hP hD hS hA [] rfl (by decide)) rfl rfl hl.1 rfl (lv_room (Nat.le_of_ble_eq_true rfl)) dX8_byOnly_16 ⟨Nat.le_of_ble_eq_true rfl, Nat.le_of_ble_eq_true rfl⟩) (fun r_15 u9 hw_14 H locs hP hD hS => ?_)
          have hP : va_P (gD G) vwCl [(ca, .inl (gyI G, 16, .inl f))] H := hP
          have hD : va_D A [(ca, .inl (gyI G, 16, .inl f))] := hD
          refine lv_if_eq (tgt := 38) hx hb dX8_byOnly_19 (by decide) (fun c_16 => ?_) (fun c_16 => ?_)
          · skip
            refine lv_iconst (v := nI 0) hx hb dX8_byOnly_38 (by decide) ?_
            refine lv_ior hx hb dX8_byOnly_39 ?_
            refine lv_toe (show _ = nI 0 by decide) ?_
            refine lv_istore_n (lv' := [(3, .int (nI 0)), (0, .int (nI k)), (1, .int (nI 3)), (2, .ref ca), (4, .int (nI i))]) hx hb dX8_byOnly_40 rfl hl (by decide) rfl (fun ls hl => ?_)
            refine lv_iinc (v := nI (i + 1)) (lv' := [(4, .int (nI (i + 1))), (3, .int (nI 0)), (0, .int (nI k)), (1, .int (nI 3)), (2, .ref ca)]) hx hb dX8_byOnly_41 hl (k := 4) rfl (nI_add i 1) (by decide) rfl (fun ls hl => ?_)
            refine lv_goto (tgt := 5) hx hb dX8_byOnly_44 (by decide) ?_
            exact ih_5_3 (i + 1) (by omega) (by omega) _ _ (hP.sub [0] rfl) (hD.sub [0] (by decide) rfl) hS ls (lv_sub hl [2, 3, 4, 1, 0] rfl)
          · skip
            refine lv_aload_n hx hb dX8_byOnly_22 rfl (lv_at hl 2 rfl) ?_
            refine lv_iload hx hb dX8_byOnly_23 (lv_at hl 4 rfl) ?_
            refine va_iald (D := gD G) (cA := gyI G) (n := 16) (f := f) hx hb hK hP 0 0 rfl rfl (vp_in_nI (n := i) (N := 16) (by omega) (by omega)) dX8_byOnly_25 ?_
            refine lv_toe (show f (nI i).toNatClampNeg = nI (Fx x i) by rw [nI_clamp (by omega)]; exact hX i (by omega)) ?_
            have hfx_17 := fx_or x i
            refine lv_iconst (v := nI 1) hx hb dX8_byOnly_26 (by decide) ?_
            refine lv_iload_n hx hb dX8_byOnly_27 rfl (lv_at hl 1 rfl) ?_
            refine lv_iconst (v := nI 1) hx hb dX8_byOnly_28 (by decide) ?_
            refine lv_isub hx hb dX8_byOnly_29 ?_
            refine lv_toe (show _ = nI 2 by decide) ?_
            refine lv_ishl hx hb dX8_byOnly_30 ?_
            refine lv_toe (show _ = nI 4 by decide) ?_
            refine lv_icmp_ne (tgt := 38) hx hb dX8_byOnly_31 (by decide) (fun c_18 => ?_) (fun c_18 => ?_)
            · skip
              have c_18 : ¬ (Fx x i) = 4 := fun z => c_18 ((nI_eq (a := Fx x i) (b := 4) (by omega) (by omega)).mpr z)
              refine lv_iconst (v := nI 0) hx hb dX8_byOnly_38 (by decide) ?_
              refine lv_ior hx hb dX8_byOnly_39 ?_
              refine lv_toe (show _ = nI 0 by decide) ?_
              refine lv_istore_n (lv' := [(3, .int (nI 0)), (0, .int (nI k)), (1, .int (nI 3)), (2, .ref ca), (4, .int (nI i))]) hx hb dX8_byOnly_40 rfl hl (by decide) rfl (fun ls hl => ?_)
              refine lv_iinc (v := nI (i + 1)) (lv' := [(4, .int (nI (i + 1))), (3, .int (nI 0)), (0, .int (nI k)), (1, .int (nI 3)), (2, .ref ca)]) hx hb dX8_byOnly_41 hl (k := 4) rfl (nI_add i 1) (by decide) rfl (fun ls hl => ?_)
              refine lv_goto (tgt := 5) hx hb dX8_byOnly_44 (by decide) ?_
              exact ih_5_3 (i + 1) (by omega) (by omega) _ _ (hP.sub [0] rfl) (hD.sub [0] (by decide) rfl) hS ls (lv_sub hl [2, 3, 4, 1, 0] rfl)
            · skip
              have c_18 : (Fx x i) = 4 := (nI_eq (a := Fx x i) (b := 4) (by omega) (by omega)).mp c_18
              exfalso; omega
    exact cut_5_3 (16 - 0 + 1) 0 (by omega) (Nat.lt_succ_self _) _ _ (hP.sub [0] rfl) (hD.sub [0] (by decide) rfl) hS ls (lv_sub hl [2, 3, 4, 1, 0] rfl)
  · skip
    refine lv_iconst (v := nI 0) hx hb dX8_byOnly_0 (by decide) ?_
    refine lv_istore_n (lv' := [(3, .int (nI 0)), (0, .int (nI k)), (1, .int (nI 4)), (2, .ref ca)]) hx hb dX8_byOnly_1 rfl hl (by decide) rfl (fun ls hl => ?_)
    refine lv_iconst (v := nI 0) hx hb dX8_byOnly_2 (by decide) ?_
    refine lv_istore (lv' := [(4, .int (nI 0)), (3, .int (nI 0)), (0, .int (nI k)), (1, .int (nI 4)), (2, .ref ca)]) hx hb dX8_byOnly_3 hl (by decide) rfl (fun ls hl => ?_)
    have cut_5_4 : ∀ (n9 : Nat) (i : Nat) (hi : i ≤ 16) (hm9 : 16 - i < n9) (H : Heap) (locs : List Loc), va_P (gD G) vwCl [(ca, .inl (gyI G, 16, .inl f))] H → va_D A [(ca, .inl (gyI G, 16, .inl f))] → va_S A s.heap H locs → ∀ (ls : Array Slot), lv_has ls 5 [(0, .int (nI k)), (1, .int (nI 4)), (2, .ref ca), (3, .int (nI 0)), (4, .int (nI i))] → W p l e ({ frames := 1, cells := 0, slots := 0, locals := 21 } : Room) s m ([.int (nI k), .int (nI 4), .ref ca] : List Value).toArray below meth c H locs 0 0 Q (F0 m 5 ls []) := by
      intro n9
      induction n9 with
      | zero =>
        intro i hi hm9
        exact absurd hm9 (Nat.not_lt_zero _)
      | succ n9 ih_5_4 =>
        intro i hi hm9 H locs hP hD hS ls hl
        refine lv_iload hx hb dX8_byOnly_5 (lv_at hl 4 rfl) ?_
        refine lv_bipush (v := nI 16) hx hb dX8_byOnly_7 (by decide) ?_
        refine lv_icmp_ge (tgt := 47) hx hb dX8_byOnly_9 (by decide) (fun c_19 => ?_) (fun c_19 => ?_)
        · skip
          have c_19 : 16 ≤ i := (nI_leI (a := 16) (b := i) (by omega) (by omega)).mp c_19
          refine lv_iload_n hx hb dX8_byOnly_47 rfl (lv_at hl 3 rfl) ?_
          have hP9 := hP.sub (ws' := [(ca, .inl (gyI G, 16, .inl f))]) [0] rfl
          have hD9 := hD.sub (ws' := [(ca, .inl (gyI G, 16, .inl f))]) [0] (by decide) rfl
          subst hQ
          exact W.zret (v := nI 0) hx hb hr (by decide) (fun t ht hW => ⟨⟨nI 0, (), rfl, rfl, by rw [ht]; exact hP9, hD9⟩, hS.F ht⟩) hS.2.2 dX8_byOnly_48
        · skip
          have c_19 : ¬ 16 ≤ i := fun z => c_19 ((nI_leI (a := 16) (b := i) (by omega) (by omega)).mpr z)
          refine lv_iload_n hx hb dX8_byOnly_12 rfl (lv_at hl 3 rfl) ?_
          refine lv_iload hx hb dX8_byOnly_13 (lv_at hl 4 rfl) ?_
          refine lv_iload_n hx hb dX8_byOnly_15 rfl (lv_at hl 0 rfl) ?_
          refine fin_i hP hD hS hA [] [0] (wr := [(ca, .inl (gyI G, 16, .inl f))]) rfl rfl (by decide) (by decide) (va_runSN (As := [.int (nI i), .int (nI k)]) (rest := [.int (nI 0)]) ⟨hx, hb, hml, hown, hts⟩ (c_X10_areInLine l G i k (by omega) (by omega) H.size) ⟨(va_cnB 2 hts (gI q1088) rfl rfl rfl (hE.1.1 _ nq1086) (hts _ q52) (by decide +kernel) ⟨Nat.le_of_ble_eq_true rfl, Nat.le_of_ble_eq_true rfl⟩), hts _ q1087, trivial⟩ (preS hK hE hP hD hS hA [] rfl (by decide)) rfl rfl hl.1 rfl (lv_room (Nat.le_of_ble_eq_true rfl)) dX8_byOnly_16 ⟨Nat.le_of_ble_eq_true rfl, Nat.le_of_ble_eq_true rfl⟩) (fun r_21 u9 hw_20 H locs hP hD hS => ?_)
          have hP : va_P (gD G) vwCl [(ca, .inl (gyI G, 16, .inl f))] H := hP
          have hD : va_D A [(ca, .inl (gyI G, 16, .inl f))] := hD
          refine lv_if_eq (tgt := 38) hx hb dX8_byOnly_19 (by decide) (fun c_22 => ?_) (fun c_22 => ?_)
          · skip
            refine lv_iconst (v := nI 0) hx hb dX8_byOnly_38 (by decide) ?_
            refine lv_ior hx hb dX8_byOnly_39 ?_
            refine lv_toe (show _ = nI 0 by decide) ?_
            refine lv_istore_n (lv' := [(3, .int (nI 0)), (0, .int (nI k)), (1, .int (nI 4)), (2, .ref ca), (4, .int (nI i))]) hx hb dX8_byOnly_40 rfl hl (by decide) rfl (fun ls hl => ?_)
            refine lv_iinc (v := nI (i + 1)) (lv' := [(4, .int (nI (i + 1))), (3, .int (nI 0)), (0, .int (nI k)), (1, .int (nI 4)), (2, .ref ca)]) hx hb dX8_byOnly_41 hl (k := 4) rfl (nI_add i 1) (by decide) rfl (fun ls hl => ?_)
            refine lv_goto (tgt := 5) hx hb dX8_byOnly_44 (by decide) ?_
            exact ih_5_4 (i + 1) (by omega) (by omega) _ _ (hP.sub [0] rfl) (hD.sub [0] (by decide) rfl) hS ls (lv_sub hl [2, 3, 4, 1, 0] rfl)
          · skip
            refine lv_aload_n hx hb dX8_byOnly_22 rfl (lv_at hl 2 rfl) ?_
            refine lv_iload hx hb dX8_byOnly_23 (lv_at hl 4 rfl) ?_
            refine va_iald (D := gD G) (cA := gyI G) (n := 16) (f := f) hx hb hK hP 0 0 rfl rfl (vp_in_nI (n := i) (N := 16) (by omega) (by omega)) dX8_byOnly_25 ?_
            refine lv_toe (show f (nI i).toNatClampNeg = nI (Fx x i) by rw [nI_clamp (by omega)]; exact hX i (by omega)) ?_
            have hfx_23 := fx_or x i
            refine lv_iconst (v := nI 1) hx hb dX8_byOnly_26 (by decide) ?_
            refine lv_iload_n hx hb dX8_byOnly_27 rfl (lv_at hl 1 rfl) ?_
            refine lv_iconst (v := nI 1) hx hb dX8_byOnly_28 (by decide) ?_
            refine lv_isub hx hb dX8_byOnly_29 ?_
            refine lv_toe (show _ = nI 3 by decide) ?_
            refine lv_ishl hx hb dX8_byOnly_30 ?_
            refine lv_toe (show _ = nI 8 by decide) ?_
            refine lv_icmp_ne (tgt := 38) hx hb dX8_byOnly_31 (by decide) (fun c_24 => ?_) (fun c_24 => ?_)
            · skip
              have c_24 : ¬ (Fx x i) = 8 := fun z => c_24 ((nI_eq (a := Fx x i) (b := 8) (by omega) (by omega)).mpr z)
              refine lv_iconst (v := nI 0) hx hb dX8_byOnly_38 (by decide) ?_
              refine lv_ior hx hb dX8_byOnly_39 ?_
              refine lv_toe (show _ = nI 0 by decide) ?_
              refine lv_istore_n (lv' := [(3, .int (nI 0)), (0, .int (nI k)), (1, .int (nI 4)), (2, .ref ca), (4, .int (nI i))]) hx hb dX8_byOnly_40 rfl hl (by decide) rfl (fun ls hl => ?_)
              refine lv_iinc (v := nI (i + 1)) (lv' := [(4, .int (nI (i + 1))), (3, .int (nI 0)), (0, .int (nI k)), (1, .int (nI 4)), (2, .ref ca)]) hx hb dX8_byOnly_41 hl (k := 4) rfl (nI_add i 1) (by decide) rfl (fun ls hl => ?_)
              refine lv_goto (tgt := 5) hx hb dX8_byOnly_44 (by decide) ?_
              exact ih_5_4 (i + 1) (by omega) (by omega) _ _ (hP.sub [0] rfl) (hD.sub [0] (by decide) rfl) hS ls (lv_sub hl [2, 3, 4, 1, 0] rfl)
            · skip
              have c_24 : (Fx x i) = 8 := (nI_eq (a := Fx x i) (b := 8) (by omega) (by omega)).mp c_24
              exfalso; omega
    exact cut_5_4 (16 - 0 + 1) 0 (by omega) (Nat.lt_succ_self _) _ _ (hP.sub [0] rfl) (hD.sub [0] (by decide) rfl) hS ls (lv_sub hl [2, 3, 4, 1, 0] rfl)
set_option maxHeartbeats 4000000 in
set_option maxRecDepth 100000 in
theorem c_byPlace_X (l : Launch) (G : GG) (k : Nat) (ca : Nat) (f : Nat → Int32) (x : Nat) (v : Int32) (hX : inX x f) (hx3 : x = 15 ∨ x = 14 ∨ x = 12) (hk : k < 16) : Mi l G yX8_byPlace cX8_byPlace 6 (some .boolean) ({ frames := 0, cells := 0, slots := 0, locals := 0 } : Room) [.int (nI k), .int v, .ref ca] [(ca, .inl (gyI G, 16, .inl f))] (fun (r : Int32) (u : Unit) => r = nI 0) (fun (u : Unit) => [(ca, .inl (gyI G, 16, .inl f))]) := by
  intro sz
  refine Met.ofW (cc := cX8_byPlace) (maxL := 6) (ret := (some .boolean)) (by decide) rfl ?_
  intro p e s m args below meth c s₁ B9 hml hv
  obtain ⟨rfl, hsz, hP, hK, hD0, hE⟩ := hv
  have hx := B9.exec
  have hb := B9.bytes
  have hr := B9.returns
  have hts : ∀ w ∈ WW, w.before ([.int (nI k), .int v, .ref ca] : List Value).toArray s = true := fun w h => atoms_spec (ws := .code yX8_byPlace cX8_byPlace 6 (some .boolean) :: WW) B9.pre w (List.mem_cons_of_mem _ h)
  have hown : s.vm.findClass RX8 = some m.cls := findClass_of_methodNamed B9.named
  subst hsz
  have hD := hD0.self (sz := s.heap.size)
  generalize hAe : va_A [(ca, .inl (gyI G, 16, .inl f))] s.heap.size = A at hD hE ⊢
  have hA : ∀ q : Nat, s.heap.size ≤ q → A q := fun q h => by rw [← hAe]; exact Or.inr h
  have hl := lv_entry ([.int (nI k), .int v, .ref ca]) (n := 6) (Nat.le_of_ble_eq_true rfl)
  rw [lg_entry_eq]
  generalize (lg_sl ([.int (nI k), .int v, .ref ca]) ++ List.replicate (6 - (lg_sl ([.int (nI k), .int v, .ref ca])).length) Slot.unset).toArray = ls at hl ⊢
  have hl : lv_has ls 6 [(0, .int (nI k)), (1, .int v), (2, .ref ca)] := hl
  refine qgen (fun Q hQ => ?_)
  refine hgen (fun H locs hP hD hS => ?_) hP hD
  obtain ⟨jr, hj1, hj2, hj3, hj4⟩ := rowmate k hk
  obtain ⟨jc, hl1, hl2, hl3, hl4⟩ := colmate k hk
  refine lv_iconst (v := nI 0) hx hb dX8_byPlace_0 (by decide) ?_
  refine lv_istore_n (lv' := [(3, .int (nI 0)), (0, .int (nI k)), (1, .int v), (2, .ref ca)]) hx hb dX8_byPlace_1 rfl hl (by decide) rfl (fun ls hl => ?_)
  refine lv_iconst (v := nI 0) hx hb dX8_byPlace_2 (by decide) ?_
  refine lv_istore (lv' := [(4, .int (nI 0)), (3, .int (nI 0)), (0, .int (nI k)), (1, .int v), (2, .ref ca)]) hx hb dX8_byPlace_3 hl (by decide) rfl (fun ls hl => ?_)
  refine lv_iconst (v := nI 0) hx hb dX8_byPlace_5 (by decide) ?_
  refine lv_istore (lv' := [(5, .int (nI 0)), (4, .int (nI 0)), (3, .int (nI 0)), (0, .int (nI k)), (1, .int v), (2, .ref ca)]) hx hb dX8_byPlace_6 hl (by decide) rfl (fun ls hl => ?_)
  have cut_8_1 : ∀ (n9 : Nat) (r3 : Nat) (r4 : Nat) (i : Nat) (h3 : r3 < 16) (h4 : r4 < 16) (hi : i ≤ 16) (hq3 : jr < i → r3 = 15) (hq4 : jc < i → r4 = 15) (hm9 : 16 - i < n9) (H : Heap) (locs : List Loc), va_P (gD G) vwCl [(ca, .inl (gyI G, 16, .inl f))] H → va_D A [(ca, .inl (gyI G, 16, .inl f))] → va_S A s.heap H locs → ∀ (ls : Array Slot), lv_has ls 6 [(0, .int (nI k)), (1, .int v), (2, .ref ca), (3, .int (nI r3)), (4, .int (nI r4)), (5, .int (nI i))] → W p l e ({ frames := 0, cells := 0, slots := 0, locals := 0 } : Room) s m ([.int (nI k), .int v, .ref ca] : List Value).toArray below meth c H locs 0 0 Q (F0 m 8 ls []) := by
    intro n9
    induction n9 with
    | zero =>
      intro r3 r4 i h3 h4 hi hq3 hq4 hm9
      exact absurd hm9 (Nat.not_lt_zero _)
    | succ n9 ih_8_1 =>
      intro r3 r4 i h3 h4 hi hq3 hq4 hm9 H locs hP hD hS ls hl
      refine lv_iload hx hb dX8_byPlace_8 (lv_at hl 5 rfl) ?_
      refine lv_bipush (v := nI 16) hx hb dX8_byPlace_10 (by decide) ?_
      refine lv_icmp_ge (tgt := 69) hx hb dX8_byPlace_12 (by decide) (fun c_1 => ?_) (fun c_1 => ?_)
      · skip
        have c_1 : 16 ≤ i := (nI_leI (a := 16) (b := i) (by omega) (by omega)).mp c_1
        obtain rfl : r3 = 15 := by omega
        obtain rfl : r4 = 15 := by omega
        refine lv_aload_n hx hb dX8_byPlace_69 rfl (lv_at hl 2 rfl) ?_
        refine lv_iload_n hx hb dX8_byPlace_70 rfl (lv_at hl 0 rfl) ?_
        refine va_iald (D := gD G) (cA := gyI G) (n := 16) (f := f) hx hb hK hP 0 0 rfl rfl (vp_in_nI (n := k) (N := 16) (by omega) (by omega)) dX8_byPlace_71 ?_
        refine lv_toe (show f (nI k).toNatClampNeg = nI (Fx x k) by rw [nI_clamp (by omega)]; exact hX k (by omega)) ?_
        have hfx_2 := fx_or x k
        refine lv_iconst (v := nI 1) hx hb dX8_byPlace_72 (by decide) ?_
        refine lv_iload_n hx hb dX8_byPlace_73 rfl (lv_at hl 1 rfl) ?_
        refine lv_iconst (v := nI 1) hx hb dX8_byPlace_74 (by decide) ?_
        refine lv_isub hx hb dX8_byPlace_75 ?_
        refine lv_topi (fun w_3 ew_3 => ?_)
        refine lv_ishl hx hb dX8_byPlace_76 ?_
        refine lv_topi (fun w_4 ew_4 => ?_)
        refine lv_iconst (v := -1) hx hb dX8_byPlace_77 (by decide) ?_
        refine lv_ixor hx hb dX8_byPlace_78 ?_
        refine lv_topi (fun w_5 ew_5 => ?_)
        refine lv_iand hx hb dX8_byPlace_79 ?_
        refine lv_istore (lv' := [(5, .int ((nI (Fx x k)) &&& w_5)), (0, .int (nI k)), (1, .int v), (2, .ref ca), (3, .int (nI 15)), (4, .int (nI 15))]) hx hb dX8_byPlace_80 hl (by decide) rfl (fun ls hl => ?_)
        refine lv_iload hx hb dX8_byPlace_82 (lv_at hl 0 rfl) ?_
        refine lv_iload_n hx hb dX8_byPlace_84 rfl (lv_at hl 4 rfl) ?_
        refine lv_iconst (v := -1) hx hb dX8_byPlace_85 (by decide) ?_
        refine lv_ixor hx hb dX8_byPlace_86 ?_
        refine lv_toe (show _ = (-16 : Int32) by decide) ?_
        refine lv_iand hx hb dX8_byPlace_87 ?_
        refine lv_toe (and16 (by omega) _) ?_
        refine lv_if_ne (tgt := 101) hx hb dX8_byPlace_88 (by decide) (fun c_6 => ?_) (fun c_6 => ?_)
        · skip
          have c_6 : ¬ 0 = 0 := fun z => c_6 ((nI_eq (a := 0) (b := 0) (by omega) (by omega)).mpr z)
          exact absurd c_6 (by decide)
        · skip
          have c_6 : 0 = 0 := (nI_eq (a := 0) (b := 0) (by omega) (by omega)).mp c_6
          refine lv_iload hx hb dX8_byPlace_91 (lv_at hl 0 rfl) ?_
          refine lv_iload hx hb dX8_byPlace_93 (lv_at hl 5 rfl) ?_
          refine lv_iconst (v := -1) hx hb dX8_byPlace_95 (by decide) ?_
          refine lv_ixor hx hb dX8_byPlace_96 ?_
          refine lv_toe (show _ = (-16 : Int32) by decide) ?_
          refine lv_iand hx hb dX8_byPlace_97 ?_
          refine lv_toe (and16 (by omega) _) ?_
          refine lv_if_eq (tgt := 105) hx hb dX8_byPlace_98 (by decide) (fun c_7 => ?_) (fun c_7 => ?_)
          · skip
            have c_7 : 0 = 0 := (nI_eq (a := 0) (b := 0) (by omega) (by omega)).mp c_7
            refine lv_iconst (v := nI 0) hx hb dX8_byPlace_105 (by decide) ?_
            have hP9 := hP.sub (ws' := [(ca, .inl (gyI G, 16, .inl f))]) [0] rfl
            have hD9 := hD.sub (ws' := [(ca, .inl (gyI G, 16, .inl f))]) [0] (by decide) rfl
            subst hQ
            exact W.zret (v := nI 0) hx hb hr (by decide) (fun t ht hW => ⟨⟨nI 0, (), rfl, rfl, by rw [ht]; exact hP9, hD9⟩, hS.F ht⟩) hS.2.2 dX8_byPlace_106
          · skip
            have c_7 : ¬ 0 = 0 := fun z => c_7 ((nI_eq (a := 0) (b := 0) (by omega) (by omega)).mpr z)
            exact absurd c_7 (by decide)
      · skip
        have c_1 : ¬ 16 ≤ i := fun z => c_1 ((nI_leI (a := 16) (b := i) (by omega) (by omega)).mpr z)
        refine lv_iload hx hb dX8_byPlace_15 (lv_at hl 5 rfl) ?_
        refine lv_iload_n hx hb dX8_byPlace_17 rfl (lv_at hl 0 rfl) ?_
        refine lv_icmp_eq (tgt := 38) hx hb dX8_byPlace_18 (by decide) (fun c_8 => ?_) (fun c_8 => ?_)
        · skip
          have c_8 : i = k := (nI_eq (a := i) (b := k) (by omega) (by omega)).mp c_8
          refine lv_iload hx hb dX8_byPlace_38 (lv_at hl 5 rfl) ?_
          refine lv_iload_n hx hb dX8_byPlace_40 rfl (lv_at hl 0 rfl) ?_
          refine lv_icmp_eq (tgt := 63) hx hb dX8_byPlace_41 (by decide) (fun c_9 => ?_) (fun c_9 => ?_)
          · skip
            have c_9 : i = k := (nI_eq (a := i) (b := k) (by omega) (by omega)).mp c_9
            refine lv_iinc (v := nI (i + 1)) (lv' := [(5, .int (nI (i + 1))), (0, .int (nI k)), (1, .int v), (2, .ref ca), (3, .int (nI r3)), (4, .int (nI r4))]) hx hb dX8_byPlace_63 hl (k := 5) rfl (nI_add i 1) (by decide) rfl (fun ls hl => ?_)
            refine lv_goto (tgt := 8) hx hb dX8_byPlace_66 (by decide) ?_
            exact ih_8_1 r3 r4 (i + 1) (by omega) (by omega) (by omega) (by omega) (by omega) (by omega) _ _ (hP.sub [0] rfl) (hD.sub [0] (by decide) rfl) hS ls (lv_sub hl [1, 2, 3, 4, 5, 0] rfl)
          · skip
            have c_9 : ¬ i = k := fun z => c_9 ((nI_eq (a := i) (b := k) (by omega) (by omega)).mpr z)
            refine lv_iload hx hb dX8_byPlace_44 (lv_at hl 5 rfl) ?_
            refine lv_iconst (v := nI 4) hx hb dX8_byPlace_46 (by decide) ?_
            refine lv_irem hx hb dX8_byPlace_47 (nI_ne0 (by omega) (by omega)) ?_
            refine lv_toe (pk_rem (a := i) (d := 4) (by omega) (by omega) (by omega)) ?_
            refine lv_iload_n hx hb dX8_byPlace_48 rfl (lv_at hl 0 rfl) ?_
            refine lv_iconst (v := nI 4) hx hb dX8_byPlace_49 (by decide) ?_
            refine lv_irem hx hb dX8_byPlace_50 (nI_ne0 (by omega) (by omega)) ?_
            refine lv_toe (pk_rem (a := k) (d := 4) (by omega) (by omega) (by omega)) ?_
            refine lv_icmp_ne (tgt := 63) hx hb dX8_byPlace_51 (by decide) (fun c_10 => ?_) (fun c_10 => ?_)
            · skip
              have c_10 : ¬ (i % 4) = (k % 4) := fun z => c_10 ((nI_eq (a := i % 4) (b := k % 4) (by omega) (by omega)).mpr z)
              refine lv_iinc (v := nI (i + 1)) (lv' := [(5, .int (nI (i + 1))), (0, .int (nI k)), (1, .int v), (2, .ref ca), (3, .int (nI r3)), (4, .int (nI r4))]) hx hb dX8_byPlace_63 hl (k := 5) rfl (nI_add i 1) (by decide) rfl (fun ls hl => ?_)
              refine lv_goto (tgt := 8) hx hb dX8_byPlace_66 (by decide) ?_
              exact ih_8_1 r3 r4 (i + 1) (by omega) (by omega) (by omega) (by omega) (by omega) (by omega) _ _ (hP.sub [0] rfl) (hD.sub [0] (by decide) rfl) hS ls (lv_sub hl [1, 2, 3, 4, 5, 0] rfl)
            · skip
              have c_10 : (i % 4) = (k % 4) := (nI_eq (a := i % 4) (b := k % 4) (by omega) (by omega)).mp c_10
              refine lv_iload hx hb dX8_byPlace_54 (lv_at hl 4 rfl) ?_
              refine lv_aload_n hx hb dX8_byPlace_56 rfl (lv_at hl 2 rfl) ?_
              refine lv_iload hx hb dX8_byPlace_57 (lv_at hl 5 rfl) ?_
              refine va_iald (D := gD G) (cA := gyI G) (n := 16) (f := f) hx hb hK hP 0 0 rfl rfl (vp_in_nI (n := i) (N := 16) (by omega) (by omega)) dX8_byPlace_59 ?_
              refine lv_toe (show f (nI i).toNatClampNeg = nI (Fx x i) by rw [nI_clamp (by omega)]; exact hX i (by omega)) ?_
              have hfx_11 := fx_or x i
              refine lv_ior hx hb dX8_byPlace_60 ?_
              obtain ⟨r9_12, er9_12, har9_12, hbr9_12⟩ := or16' (a := r4) (b := Fx x i) (by omega) (by omega)
              refine lv_toe er9_12 ?_
              refine lv_istore (lv' := [(4, .int (nI r9_12)), (0, .int (nI k)), (1, .int v), (2, .ref ca), (3, .int (nI r3)), (5, .int (nI i))]) hx hb dX8_byPlace_61 hl (by decide) rfl (fun ls hl => ?_)
              refine lv_iinc (v := nI (i + 1)) (lv' := [(5, .int (nI (i + 1))), (4, .int (nI r9_12)), (0, .int (nI k)), (1, .int v), (2, .ref ca), (3, .int (nI r3))]) hx hb dX8_byPlace_63 hl (k := 5) rfl (nI_add i 1) (by decide) rfl (fun ls hl => ?_)
              refine lv_goto (tgt := 8) hx hb dX8_byPlace_66 (by decide) ?_
              exact ih_8_1 r3 r9_12 (i + 1) (by omega) (by omega) (by omega) (by omega) (by omega) (by omega) _ _ (hP.sub [0] rfl) (hD.sub [0] (by decide) rfl) hS ls (lv_sub hl [2, 3, 4, 5, 1, 0] rfl)
        · skip
          have c_8 : ¬ i = k := fun z => c_8 ((nI_eq (a := i) (b := k) (by omega) (by omega)).mpr z)
          refine lv_iload hx hb dX8_byPlace_21 (lv_at hl 5 rfl) ?_
          refine lv_iconst (v := nI 4) hx hb dX8_byPlace_23 (by decide) ?_
          refine lv_idiv hx hb dX8_byPlace_24 (nI_ne0 (by omega) (by omega)) ?_
          refine lv_toe (pk_div (a := i) (d := 4) (by omega) (by omega) (by omega)) ?_
          refine lv_iload_n hx hb dX8_byPlace_25 rfl (lv_at hl 0 rfl) ?_
          refine lv_iconst (v := nI 4) hx hb dX8_byPlace_26 (by decide) ?_
          refine lv_idiv hx hb dX8_byPlace_27 (nI_ne0 (by omega) (by omega)) ?_
          refine lv_toe (pk_div (a := k) (d := 4) (by omega) (by omega) (by omega)) ?_
          refine lv_icmp_ne (tgt := 38) hx hb dX8_byPlace_28 (by decide) (fun c_13 => ?_) (fun c_13 => ?_)
          · skip
            have c_13 : ¬ (i / 4) = (k / 4) := fun z => c_13 ((nI_eq (a := i / 4) (b := k / 4) (by omega) (by omega)).mpr z)
            refine lv_iload hx hb dX8_byPlace_38 (lv_at hl 5 rfl) ?_
            refine lv_iload_n hx hb dX8_byPlace_40 rfl (lv_at hl 0 rfl) ?_
            refine lv_icmp_eq (tgt := 63) hx hb dX8_byPlace_41 (by decide) (fun c_14 => ?_) (fun c_14 => ?_)
            · skip
              have c_14 : i = k := (nI_eq (a := i) (b := k) (by omega) (by omega)).mp c_14
              refine lv_iinc (v := nI (i + 1)) (lv' := [(5, .int (nI (i + 1))), (0, .int (nI k)), (1, .int v), (2, .ref ca), (3, .int (nI r3)), (4, .int (nI r4))]) hx hb dX8_byPlace_63 hl (k := 5) rfl (nI_add i 1) (by decide) rfl (fun ls hl => ?_)
              refine lv_goto (tgt := 8) hx hb dX8_byPlace_66 (by decide) ?_
              exact ih_8_1 r3 r4 (i + 1) (by omega) (by omega) (by omega) (by omega) (by omega) (by omega) _ _ (hP.sub [0] rfl) (hD.sub [0] (by decide) rfl) hS ls (lv_sub hl [1, 2, 3, 4, 5, 0] rfl)
            · skip
              have c_14 : ¬ i = k := fun z => c_14 ((nI_eq (a := i) (b := k) (by omega) (by omega)).mpr z)
              refine lv_iload hx hb dX8_byPlace_44 (lv_at hl 5 rfl) ?_
              refine lv_iconst (v := nI 4) hx hb dX8_byPlace_46 (by decide) ?_
              refine lv_irem hx hb dX8_byPlace_47 (nI_ne0 (by omega) (by omega)) ?_
              refine lv_toe (pk_rem (a := i) (d := 4) (by omega) (by omega) (by omega)) ?_
              refine lv_iload_n hx hb dX8_byPlace_48 rfl (lv_at hl 0 rfl) ?_
              refine lv_iconst (v := nI 4) hx hb dX8_byPlace_49 (by decide) ?_
              refine lv_irem hx hb dX8_byPlace_50 (nI_ne0 (by omega) (by omega)) ?_
              refine lv_toe (pk_rem (a := k) (d := 4) (by omega) (by omega) (by omega)) ?_
              refine lv_icmp_ne (tgt := 63) hx hb dX8_byPlace_51 (by decide) (fun c_15 => ?_) (fun c_15 => ?_)
              · skip
                have c_15 : ¬ (i % 4) = (k % 4) := fun z => c_15 ((nI_eq (a := i % 4) (b := k % 4) (by omega) (by omega)).mpr z)
                refine lv_iinc (v := nI (i + 1)) (lv' := [(5, .int (nI (i + 1))), (0, .int (nI k)), (1, .int v), (2, .ref ca), (3, .int (nI r3)), (4, .int (nI r4))]) hx hb dX8_byPlace_63 hl (k := 5) rfl (nI_add i 1) (by decide) rfl (fun ls hl => ?_)
                refine lv_goto (tgt := 8) hx hb dX8_byPlace_66 (by decide) ?_
                exact ih_8_1 r3 r4 (i + 1) (by omega) (by omega) (by omega) (by omega) (by omega) (by omega) _ _ (hP.sub [0] rfl) (hD.sub [0] (by decide) rfl) hS ls (lv_sub hl [1, 2, 3, 4, 5, 0] rfl)
              · skip
                have c_15 : (i % 4) = (k % 4) := (nI_eq (a := i % 4) (b := k % 4) (by omega) (by omega)).mp c_15
                refine lv_iload hx hb dX8_byPlace_54 (lv_at hl 4 rfl) ?_
                refine lv_aload_n hx hb dX8_byPlace_56 rfl (lv_at hl 2 rfl) ?_
                refine lv_iload hx hb dX8_byPlace_57 (lv_at hl 5 rfl) ?_
                refine va_iald (D := gD G) (cA := gyI G) (n := 16) (f := f) hx hb hK hP 0 0 rfl rfl (vp_in_nI (n := i) (N := 16) (by omega) (by omega)) dX8_byPlace_59 ?_
                refine lv_toe (show f (nI i).toNatClampNeg = nI (Fx x i) by rw [nI_clamp (by omega)]; exact hX i (by omega)) ?_
                have hfx_16 := fx_or x i
                refine lv_ior hx hb dX8_byPlace_60 ?_
                obtain ⟨r9_17, er9_17, har9_17, hbr9_17⟩ := or16' (a := r4) (b := Fx x i) (by omega) (by omega)
                refine lv_toe er9_17 ?_
                refine lv_istore (lv' := [(4, .int (nI r9_17)), (0, .int (nI k)), (1, .int v), (2, .ref ca), (3, .int (nI r3)), (5, .int (nI i))]) hx hb dX8_byPlace_61 hl (by decide) rfl (fun ls hl => ?_)
                refine lv_iinc (v := nI (i + 1)) (lv' := [(5, .int (nI (i + 1))), (4, .int (nI r9_17)), (0, .int (nI k)), (1, .int v), (2, .ref ca), (3, .int (nI r3))]) hx hb dX8_byPlace_63 hl (k := 5) rfl (nI_add i 1) (by decide) rfl (fun ls hl => ?_)
                refine lv_goto (tgt := 8) hx hb dX8_byPlace_66 (by decide) ?_
                exact ih_8_1 r3 r9_17 (i + 1) (by omega) (by omega) (by omega) (by omega) (by omega) (by omega) _ _ (hP.sub [0] rfl) (hD.sub [0] (by decide) rfl) hS ls (lv_sub hl [2, 3, 4, 5, 1, 0] rfl)
          · skip
            have c_13 : (i / 4) = (k / 4) := (nI_eq (a := i / 4) (b := k / 4) (by omega) (by omega)).mp c_13
            refine lv_iload_n hx hb dX8_byPlace_31 rfl (lv_at hl 3 rfl) ?_
            refine lv_aload_n hx hb dX8_byPlace_32 rfl (lv_at hl 2 rfl) ?_
            refine lv_iload hx hb dX8_byPlace_33 (lv_at hl 5 rfl) ?_
            refine va_iald (D := gD G) (cA := gyI G) (n := 16) (f := f) hx hb hK hP 0 0 rfl rfl (vp_in_nI (n := i) (N := 16) (by omega) (by omega)) dX8_byPlace_35 ?_
            refine lv_toe (show f (nI i).toNatClampNeg = nI (Fx x i) by rw [nI_clamp (by omega)]; exact hX i (by omega)) ?_
            have hfx_18 := fx_or x i
            refine lv_ior hx hb dX8_byPlace_36 ?_
            obtain ⟨r9_19, er9_19, har9_19, hbr9_19⟩ := or16' (a := r3) (b := Fx x i) (by omega) (by omega)
            refine lv_toe er9_19 ?_
            refine lv_istore_n (lv' := [(3, .int (nI r9_19)), (0, .int (nI k)), (1, .int v), (2, .ref ca), (4, .int (nI r4)), (5, .int (nI i))]) hx hb dX8_byPlace_37 rfl hl (by decide) rfl (fun ls hl => ?_)
            refine lv_iload hx hb dX8_byPlace_38 (lv_at hl 5 rfl) ?_
            refine lv_iload_n hx hb dX8_byPlace_40 rfl (lv_at hl 1 rfl) ?_
            refine lv_icmp_eq (tgt := 63) hx hb dX8_byPlace_41 (by decide) (fun c_20 => ?_) (fun c_20 => ?_)
            · skip
              have c_20 : i = k := (nI_eq (a := i) (b := k) (by omega) (by omega)).mp c_20
              refine lv_iinc (v := nI (i + 1)) (lv' := [(5, .int (nI (i + 1))), (3, .int (nI r9_19)), (0, .int (nI k)), (1, .int v), (2, .ref ca), (4, .int (nI r4))]) hx hb dX8_byPlace_63 hl (k := 5) rfl (nI_add i 1) (by decide) rfl (fun ls hl => ?_)
              refine lv_goto (tgt := 8) hx hb dX8_byPlace_66 (by decide) ?_
              exact ih_8_1 r9_19 r4 (i + 1) (by omega) (by omega) (by omega) (by omega) (by omega) (by omega) _ _ (hP.sub [0] rfl) (hD.sub [0] (by decide) rfl) hS ls (lv_sub hl [2, 3, 4, 1, 5, 0] rfl)
            · skip
              have c_20 : ¬ i = k := fun z => c_20 ((nI_eq (a := i) (b := k) (by omega) (by omega)).mpr z)
              refine lv_iload hx hb dX8_byPlace_44 (lv_at hl 5 rfl) ?_
              refine lv_iconst (v := nI 4) hx hb dX8_byPlace_46 (by decide) ?_
              refine lv_irem hx hb dX8_byPlace_47 (nI_ne0 (by omega) (by omega)) ?_
              refine lv_toe (pk_rem (a := i) (d := 4) (by omega) (by omega) (by omega)) ?_
              refine lv_iload_n hx hb dX8_byPlace_48 rfl (lv_at hl 1 rfl) ?_
              refine lv_iconst (v := nI 4) hx hb dX8_byPlace_49 (by decide) ?_
              refine lv_irem hx hb dX8_byPlace_50 (nI_ne0 (by omega) (by omega)) ?_
              refine lv_toe (pk_rem (a := k) (d := 4) (by omega) (by omega) (by omega)) ?_
              refine lv_icmp_ne (tgt := 63) hx hb dX8_byPlace_51 (by decide) (fun c_21 => ?_) (fun c_21 => ?_)
              · skip
                have c_21 : ¬ (i % 4) = (k % 4) := fun z => c_21 ((nI_eq (a := i % 4) (b := k % 4) (by omega) (by omega)).mpr z)
                refine lv_iinc (v := nI (i + 1)) (lv' := [(5, .int (nI (i + 1))), (3, .int (nI r9_19)), (0, .int (nI k)), (1, .int v), (2, .ref ca), (4, .int (nI r4))]) hx hb dX8_byPlace_63 hl (k := 5) rfl (nI_add i 1) (by decide) rfl (fun ls hl => ?_)
                refine lv_goto (tgt := 8) hx hb dX8_byPlace_66 (by decide) ?_
                exact ih_8_1 r9_19 r4 (i + 1) (by omega) (by omega) (by omega) (by omega) (by omega) (by omega) _ _ (hP.sub [0] rfl) (hD.sub [0] (by decide) rfl) hS ls (lv_sub hl [2, 3, 4, 1, 5, 0] rfl)
              · skip
                have c_21 : (i % 4) = (k % 4) := (nI_eq (a := i % 4) (b := k % 4) (by omega) (by omega)).mp c_21
                refine lv_iload hx hb dX8_byPlace_54 (lv_at hl 4 rfl) ?_
                refine lv_aload_n hx hb dX8_byPlace_56 rfl (lv_at hl 3 rfl) ?_
                refine lv_iload hx hb dX8_byPlace_57 (lv_at hl 5 rfl) ?_
                refine va_iald (D := gD G) (cA := gyI G) (n := 16) (f := f) hx hb hK hP 0 0 rfl rfl (vp_in_nI (n := i) (N := 16) (by omega) (by omega)) dX8_byPlace_59 ?_
                refine lv_toe (show f (nI i).toNatClampNeg = nI (Fx x i) by rw [nI_clamp (by omega)]; exact hX i (by omega)) ?_
                have hfx_22 := fx_or x i
                refine lv_ior hx hb dX8_byPlace_60 ?_
                obtain ⟨r9_23, er9_23, har9_23, hbr9_23⟩ := or16' (a := r4) (b := Fx x i) (by omega) (by omega)
                refine lv_toe er9_23 ?_
                refine lv_istore (lv' := [(4, .int (nI r9_23)), (3, .int (nI r9_19)), (0, .int (nI k)), (1, .int v), (2, .ref ca), (5, .int (nI i))]) hx hb dX8_byPlace_61 hl (by decide) rfl (fun ls hl => ?_)
                refine lv_iinc (v := nI (i + 1)) (lv' := [(5, .int (nI (i + 1))), (4, .int (nI r9_23)), (3, .int (nI r9_19)), (0, .int (nI k)), (1, .int v), (2, .ref ca)]) hx hb dX8_byPlace_63 hl (k := 5) rfl (nI_add i 1) (by decide) rfl (fun ls hl => ?_)
                refine lv_goto (tgt := 8) hx hb dX8_byPlace_66 (by decide) ?_
                exact ih_8_1 r9_19 r9_23 (i + 1) (by omega) (by omega) (by omega) (by omega) (by omega) (by omega) _ _ (hP.sub [0] rfl) (hD.sub [0] (by decide) rfl) hS ls (lv_sub hl [3, 4, 5, 2, 1, 0] rfl)
  exact cut_8_1 (16 - 0 + 1) 0 0 0 (by omega) (by omega) (by omega) (by omega) (by omega) (Nat.lt_succ_self _) _ _ (hP.sub [0] rfl) (hD.sub [0] (by decide) rfl) hS ls (lv_sub hl [3, 4, 5, 2, 1, 0] rfl)
set_option maxHeartbeats 4000000 in
set_option maxRecDepth 100000 in
theorem c_byPair_X (l : Launch) (G : GG) (k : Nat) (ca : Nat) (f : Nat → Int32) (x : Nat) (v : Int32) (hX : inX x f) (hx3 : x = 15 ∨ x = 14 ∨ x = 12) (hk : k < 16) : Mi l G yX8_byPair cX8_byPair 8 (some .boolean) ({ frames := 1, cells := 0, slots := 0, locals := 20 } : Room) [.int (nI k), .int v, .ref ca] [(ca, .inl (gyI G, 16, .inl f))] (fun (r : Int32) (u : Unit) => r = nI 0) (fun (u : Unit) => [(ca, .inl (gyI G, 16, .inl f))]) := by
  intro sz
  refine Met.ofW (cc := cX8_byPair) (maxL := 8) (ret := (some .boolean)) (by decide) rfl ?_
  intro p e s m args below meth c s₁ B9 hml hv
  obtain ⟨rfl, hsz, hP, hK, hD0, hE⟩ := hv
  have hx := B9.exec
  have hb := B9.bytes
  have hr := B9.returns
  have hts : ∀ w ∈ WW, w.before ([.int (nI k), .int v, .ref ca] : List Value).toArray s = true := fun w h => atoms_spec (ws := .code yX8_byPair cX8_byPair 8 (some .boolean) :: WW) B9.pre w (List.mem_cons_of_mem _ h)
  have hown : s.vm.findClass RX8 = some m.cls := findClass_of_methodNamed B9.named
  subst hsz
  have hD := hD0.self (sz := s.heap.size)
  generalize hAe : va_A [(ca, .inl (gyI G, 16, .inl f))] s.heap.size = A at hD hE ⊢
  have hA : ∀ q : Nat, s.heap.size ≤ q → A q := fun q h => by rw [← hAe]; exact Or.inr h
  have hl := lv_entry ([.int (nI k), .int v, .ref ca]) (n := 8) (Nat.le_of_ble_eq_true rfl)
  rw [lg_entry_eq]
  generalize (lg_sl ([.int (nI k), .int v, .ref ca]) ++ List.replicate (8 - (lg_sl ([.int (nI k), .int v, .ref ca])).length) Slot.unset).toArray = ls at hl ⊢
  have hl : lv_has ls 8 [(0, .int (nI k)), (1, .int v), (2, .ref ca)] := hl
  refine qgen (fun Q hQ => ?_)
  refine hgen (fun H locs hP hD hS => ?_) hP hD
  refine lv_iconst (v := nI 0) hx hb dX8_byPair_0 (by decide) ?_
  refine lv_istore_n (lv' := [(3, .int (nI 0)), (0, .int (nI k)), (1, .int v), (2, .ref ca)]) hx hb dX8_byPair_1 rfl hl (by decide) rfl (fun ls hl => ?_)
  have cut_2_1 : ∀ (n9 : Nat) (a : Nat) (ha : a ≤ 16) (hm9 : 16 - a < n9) (H : Heap) (locs : List Loc), va_P (gD G) vwCl [(ca, .inl (gyI G, 16, .inl f))] H → va_D A [(ca, .inl (gyI G, 16, .inl f))] → va_S A s.heap H locs → ∀ (ls : Array Slot), lv_has ls 8 [(0, .int (nI k)), (1, .int v), (2, .ref ca), (3, .int (nI a))] → W p l e ({ frames := 1, cells := 0, slots := 0, locals := 20 } : Room) s m ([.int (nI k), .int v, .ref ca] : List Value).toArray below meth c H locs 0 0 Q (F0 m 2 ls []) := by
    intro n9
    induction n9 with
    | zero =>
      intro a ha hm9
      exact absurd hm9 (Nat.not_lt_zero _)
    | succ n9 ih_2_1 =>
      intro a ha hm9 H locs hP hD hS ls hl
      refine lv_iload_n hx hb dX8_byPair_2 rfl (lv_at hl 3 rfl) ?_
      refine lv_bipush (v := nI 16) hx hb dX8_byPair_3 (by decide) ?_
      refine lv_icmp_ge (tgt := 149) hx hb dX8_byPair_5 (by decide) (fun c_1 => ?_) (fun c_1 => ?_)
      · skip
        have c_1 : 16 ≤ a := (nI_leI (a := 16) (b := a) (by omega) (by omega)).mp c_1
        refine lv_iconst (v := nI 0) hx hb dX8_byPair_149 (by decide) ?_
        have hP9 := hP.sub (ws' := [(ca, .inl (gyI G, 16, .inl f))]) [0] rfl
        have hD9 := hD.sub (ws' := [(ca, .inl (gyI G, 16, .inl f))]) [0] (by decide) rfl
        subst hQ
        exact W.zret (v := nI 0) hx hb hr (by decide) (fun t ht hW => ⟨⟨nI 0, (), rfl, rfl, by rw [ht]; exact hP9, hD9⟩, hS.F ht⟩) hS.2.2 dX8_byPair_150
      · skip
        have c_1 : ¬ 16 ≤ a := fun z => c_1 ((nI_leI (a := 16) (b := a) (by omega) (by omega)).mpr z)
        refine lv_iload_n hx hb dX8_byPair_8 rfl (lv_at hl 3 rfl) ?_
        refine lv_iconst (v := nI 1) hx hb dX8_byPair_9 (by decide) ?_
        refine lv_iadd hx hb dX8_byPair_10 ?_
        refine lv_toe (nI_add a 1) ?_
        refine lv_istore (lv' := [(4, .int (nI (a + 1))), (0, .int (nI k)), (1, .int v), (2, .ref ca), (3, .int (nI a))]) hx hb dX8_byPair_11 hl (by decide) rfl (fun ls hl => ?_)
        have cut_13_2 : ∀ (n9 : Nat) (b : Nat) (hab : a < b) (hb2 : b ≤ 16) (hm9 : 16 - b < n9) (H : Heap) (locs : List Loc), va_P (gD G) vwCl [(ca, .inl (gyI G, 16, .inl f))] H → va_D A [(ca, .inl (gyI G, 16, .inl f))] → va_S A s.heap H locs → ∀ (ls : Array Slot), lv_has ls 8 [(0, .int (nI k)), (1, .int v), (2, .ref ca), (3, .int (nI a)), (4, .int (nI b))] → W p l e ({ frames := 1, cells := 0, slots := 0, locals := 20 } : Room) s m ([.int (nI k), .int v, .ref ca] : List Value).toArray below meth c H locs 0 0 Q (F0 m 13 ls []) := by
          intro n9
          induction n9 with
          | zero =>
            intro b hab hb2 hm9
            exact absurd hm9 (Nat.not_lt_zero _)
          | succ n9 ih_13_2 =>
            intro b hab hb2 hm9 H locs hP hD hS ls hl
            refine lv_iload hx hb dX8_byPair_13 (lv_at hl 4 rfl) ?_
            refine lv_bipush (v := nI 16) hx hb dX8_byPair_15 (by decide) ?_
            refine lv_icmp_ge (tgt := 143) hx hb dX8_byPair_17 (by decide) (fun c_2 => ?_) (fun c_2 => ?_)
            · skip
              have c_2 : 16 ≤ b := (nI_leI (a := 16) (b := b) (by omega) (by omega)).mp c_2
              refine lv_iinc (v := nI (a + 1)) (lv' := [(3, .int (nI (a + 1))), (0, .int (nI k)), (1, .int v), (2, .ref ca), (4, .int (nI b))]) hx hb dX8_byPair_143 hl (k := 3) rfl (nI_add a 1) (by decide) rfl (fun ls hl => ?_)
              refine lv_goto (tgt := 2) hx hb dX8_byPair_146 (by decide) ?_
              exact ih_2_1 (a + 1) (by omega) (by omega) _ _ (hP.sub [0] rfl) (hD.sub [0] (by decide) rfl) hS ls (lv_sub hl [1, 2, 3, 0] rfl)
            · skip
              have c_2 : ¬ 16 ≤ b := fun z => c_2 ((nI_leI (a := 16) (b := b) (by omega) (by omega)).mpr z)
              have cut_44_3 : ∀ (b5 : Nat) (hb5 : b5 ≤ 1) (H : Heap) (locs : List Loc), va_P (gD G) vwCl [(ca, .inl (gyI G, 16, .inl f))] H → va_D A [(ca, .inl (gyI G, 16, .inl f))] → va_S A s.heap H locs → ∀ (ls : Array Slot), lv_has ls 8 [(0, .int (nI k)), (1, .int v), (2, .ref ca), (3, .int (nI a)), (4, .int (nI b))] → W p l e ({ frames := 1, cells := 0, slots := 0, locals := 20 } : Room) s m ([.int (nI k), .int v, .ref ca] : List Value).toArray below meth c H locs 0 0 Q (F0 m 44 ls [.int (nI b5)]) := by
                intro b5 hb5 H locs hP hD hS ls hl
                refine lv_istore (lv' := [(5, .int (nI b5)), (0, .int (nI k)), (1, .int v), (2, .ref ca), (3, .int (nI a)), (4, .int (nI b))]) hx hb dX8_byPair_44 hl (by decide) rfl (fun ls hl => ?_)
                have cut_70_4 : ∀ (b6 : Nat) (hb6 : b6 ≤ 1) (H : Heap) (locs : List Loc), va_P (gD G) vwCl [(ca, .inl (gyI G, 16, .inl f))] H → va_D A [(ca, .inl (gyI G, 16, .inl f))] → va_S A s.heap H locs → ∀ (ls : Array Slot), lv_has ls 8 [(0, .int (nI k)), (1, .int v), (2, .ref ca), (3, .int (nI a)), (4, .int (nI b)), (5, .int (nI b5))] → W p l e ({ frames := 1, cells := 0, slots := 0, locals := 20 } : Room) s m ([.int (nI k), .int v, .ref ca] : List Value).toArray below meth c H locs 0 0 Q (F0 m 70 ls [.int (nI b6)]) := by
                  intro b6 hb6 H locs hP hD hS ls hl
                  refine lv_istore (lv' := [(6, .int (nI b6)), (0, .int (nI k)), (1, .int v), (2, .ref ca), (3, .int (nI a)), (4, .int (nI b)), (5, .int (nI b5))]) hx hb dX8_byPair_70 hl (by decide) rfl (fun ls hl => ?_)
                  have cut_97_5 : ∀  (H : Heap) (locs : List Loc), va_P (gD G) vwCl [(ca, .inl (gyI G, 16, .inl f))] H → va_D A [(ca, .inl (gyI G, 16, .inl f))] → va_S A s.heap H locs → ∀ (ls : Array Slot), lv_has ls 8 [(0, .int (nI k)), (1, .int v), (2, .ref ca), (3, .int (nI a)), (4, .int (nI b)), (5, .int (nI b5)), (6, .int (nI b6))] → W p l e ({ frames := 1, cells := 0, slots := 0, locals := 20 } : Room) s m ([.int (nI k), .int v, .ref ca] : List Value).toArray below meth c H locs 0 0 Q (F0 m 97 ls [.int (nI 0)]) := by
                    intro H locs hP hD hS ls hl
                    refine lv_istore (lv' := [(7, .int (nI 0)), (0, .int (nI k)), (1, .int v), (2, .ref ca), (3, .int (nI a)), (4, .int (nI b)), (5, .int (nI b5)), (6, .int (nI b6))]) hx hb dX8_byPair_97 hl (by decide) rfl (fun ls hl => ?_)
                    refine lv_iload_n hx hb dX8_byPair_99 rfl (lv_at hl 4 rfl) ?_
                    refine lv_iload_n hx hb dX8_byPair_100 rfl (lv_at hl 1 rfl) ?_
                    refine lv_icmp_eq (tgt := 137) hx hb dX8_byPair_101 (by decide) (fun c_3 => ?_) (fun c_3 => ?_)
                    · skip
                      have c_3 : a = k := (nI_eq (a := a) (b := k) (by omega) (by omega)).mp c_3
                      refine lv_iinc (v := nI (b + 1)) (lv' := [(4, .int (nI (b + 1))), (7, .int (nI 0)), (0, .int (nI k)), (1, .int v), (2, .ref ca), (3, .int (nI a)), (5, .int (nI b5)), (6, .int (nI b6))]) hx hb dX8_byPair_137 hl (k := 5) rfl (nI_add b 1) (by decide) rfl (fun ls hl => ?_)
                      refine lv_goto (tgt := 13) hx hb dX8_byPair_140 (by decide) ?_
                      exact ih_13_2 (b + 1) (by omega) (by omega) (by omega) _ _ (hP.sub [0] rfl) (hD.sub [0] (by decide) rfl) hS ls (lv_sub hl [2, 3, 4, 5, 0] rfl)
                    · skip
                      have c_3 : ¬ a = k := fun z => c_3 ((nI_eq (a := a) (b := k) (by omega) (by omega)).mpr z)
                      refine lv_iload hx hb dX8_byPair_104 (lv_at hl 5 rfl) ?_
                      refine lv_iload_n hx hb dX8_byPair_106 rfl (lv_at hl 1 rfl) ?_
                      refine lv_icmp_eq (tgt := 137) hx hb dX8_byPair_107 (by decide) (fun c_4 => ?_) (fun c_4 => ?_)
                      · skip
                        have c_4 : b = k := (nI_eq (a := b) (b := k) (by omega) (by omega)).mp c_4
                        refine lv_iinc (v := nI (b + 1)) (lv' := [(4, .int (nI (b + 1))), (7, .int (nI 0)), (0, .int (nI k)), (1, .int v), (2, .ref ca), (3, .int (nI a)), (5, .int (nI b5)), (6, .int (nI b6))]) hx hb dX8_byPair_137 hl (k := 5) rfl (nI_add b 1) (by decide) rfl (fun ls hl => ?_)
                        refine lv_goto (tgt := 13) hx hb dX8_byPair_140 (by decide) ?_
                        exact ih_13_2 (b + 1) (by omega) (by omega) (by omega) _ _ (hP.sub [0] rfl) (hD.sub [0] (by decide) rfl) hS ls (lv_sub hl [2, 3, 4, 5, 0] rfl)
                      · skip
                        have c_4 : ¬ b = k := fun z => c_4 ((nI_eq (a := b) (b := k) (by omega) (by omega)).mpr z)
                        refine lv_iload hx hb dX8_byPair_110 (lv_at hl 6 rfl) ?_
                        refine lv_if_ne (tgt := 120) hx hb dX8_byPair_112 (by decide) (fun c_5 => ?_) (fun c_5 => ?_)
                        · skip
                          have c_5 : ¬ b5 = 0 := fun z => c_5 ((nI_eq (a := b5) (b := 0) (by omega) (by omega)).mpr z)
                          refine lv_iload hx hb dX8_byPair_120 (lv_at hl 0 rfl) ?_
                          refine lv_if_eq (tgt := 137) hx hb dX8_byPair_122 (by decide) (fun c_6 => ?_) (fun c_6 => ?_)
                          · skip
                            have c_6 : 0 = 0 := (nI_eq (a := 0) (b := 0) (by omega) (by omega)).mp c_6
                            refine lv_iinc (v := nI (b + 1)) (lv' := [(4, .int (nI (b + 1))), (7, .int (nI 0)), (0, .int (nI k)), (1, .int v), (2, .ref ca), (3, .int (nI a)), (5, .int (nI b5)), (6, .int (nI b6))]) hx hb dX8_byPair_137 hl (k := 5) rfl (nI_add b 1) (by decide) rfl (fun ls hl => ?_)
                            refine lv_goto (tgt := 13) hx hb dX8_byPair_140 (by decide) ?_
                            exact ih_13_2 (b + 1) (by omega) (by omega) (by omega) _ _ (hP.sub [0] rfl) (hD.sub [0] (by decide) rfl) hS ls (lv_sub hl [2, 3, 4, 5, 0] rfl)
                          · skip
                            have c_6 : ¬ 0 = 0 := fun z => c_6 ((nI_eq (a := 0) (b := 0) (by omega) (by omega)).mpr z)
                            exact absurd c_6 (by decide)
                        · skip
                          have c_5 : b5 = 0 := (nI_eq (a := b5) (b := 0) (by omega) (by omega)).mp c_5
                          refine lv_iload hx hb dX8_byPair_115 (lv_at hl 7 rfl) ?_
                          refine lv_if_eq (tgt := 137) hx hb dX8_byPair_117 (by decide) (fun c_7 => ?_) (fun c_7 => ?_)
                          · skip
                            have c_7 : b6 = 0 := (nI_eq (a := b6) (b := 0) (by omega) (by omega)).mp c_7
                            refine lv_iinc (v := nI (b + 1)) (lv' := [(4, .int (nI (b + 1))), (7, .int (nI 0)), (0, .int (nI k)), (1, .int v), (2, .ref ca), (3, .int (nI a)), (5, .int (nI b5)), (6, .int (nI b6))]) hx hb dX8_byPair_137 hl (k := 5) rfl (nI_add b 1) (by decide) rfl (fun ls hl => ?_)
                            refine lv_goto (tgt := 13) hx hb dX8_byPair_140 (by decide) ?_
                            exact ih_13_2 (b + 1) (by omega) (by omega) (by omega) _ _ (hP.sub [0] rfl) (hD.sub [0] (by decide) rfl) hS ls (lv_sub hl [2, 3, 4, 5, 0] rfl)
                          · skip
                            have c_7 : ¬ b6 = 0 := fun z => c_7 ((nI_eq (a := b6) (b := 0) (by omega) (by omega)).mpr z)
                            refine lv_iload hx hb dX8_byPair_120 (lv_at hl 0 rfl) ?_
                            refine lv_if_eq (tgt := 137) hx hb dX8_byPair_122 (by decide) (fun c_8 => ?_) (fun c_8 => ?_)
                            · skip
                              have c_8 : 0 = 0 := (nI_eq (a := 0) (b := 0) (by omega) (by omega)).mp c_8
                              refine lv_iinc (v := nI (b + 1)) (lv' := [(4, .int (nI (b + 1))), (7, .int (nI 0)), (0, .int (nI k)), (1, .int v), (2, .ref ca), (3, .int (nI a)), (5, .int (nI b5)), (6, .int (nI b6))]) hx hb dX8_byPair_137 hl (k := 5) rfl (nI_add b 1) (by decide) rfl (fun ls hl => ?_)
                              refine lv_goto (tgt := 13) hx hb dX8_byPair_140 (by decide) ?_
                              exact ih_13_2 (b + 1) (by omega) (by omega) (by omega) _ _ (hP.sub [0] rfl) (hD.sub [0] (by decide) rfl) hS ls (lv_sub hl [2, 3, 4, 5, 0] rfl)
                            · skip
                              have c_8 : ¬ 0 = 0 := fun z => c_8 ((nI_eq (a := 0) (b := 0) (by omega) (by omega)).mpr z)
                              exact absurd c_8 (by decide)
                  refine lv_aload_n hx hb dX8_byPair_72 rfl (lv_at hl 3 rfl) ?_
                  refine lv_iload_n hx hb dX8_byPair_73 rfl (lv_at hl 4 rfl) ?_
                  refine va_iald (D := gD G) (cA := gyI G) (n := 16) (f := f) hx hb hK hP 0 0 rfl rfl (vp_in_nI (n := a) (N := 16) (by omega) (by omega)) dX8_byPair_74 ?_
                  refine lv_toe (show f (nI a).toNatClampNeg = nI (Fx x a) by rw [nI_clamp (by omega)]; exact hX a (by omega)) ?_
                  have hfx_9 := fx_or x a
                  refine lv_aload_n hx hb dX8_byPair_75 rfl (lv_at hl 3 rfl) ?_
                  refine lv_iload hx hb dX8_byPair_76 (lv_at hl 5 rfl) ?_
                  refine va_iald (D := gD G) (cA := gyI G) (n := 16) (f := f) hx hb hK hP 0 0 rfl rfl (vp_in_nI (n := b) (N := 16) (by omega) (by omega)) dX8_byPair_78 ?_
                  refine lv_toe (show f (nI b).toNatClampNeg = nI (Fx x b) by rw [nI_clamp (by omega)]; exact hX b (by omega)) ?_
                  have hfx_10 := fx_or x b
                  refine lv_icmp_ne (tgt := 96) hx hb dX8_byPair_79 (by decide) (fun c_11 => ?_) (fun c_11 => ?_)
                  · skip
                    have c_11 : ¬ (Fx x a) = (Fx x b) := fun z => c_11 ((nI_eq (a := Fx x a) (b := Fx x b) (by omega) (by omega)).mpr z)
                    refine lv_iconst (v := nI 0) hx hb dX8_byPair_96 (by decide) ?_
                    exact cut_97_5   _ _ (hP.sub [0] rfl) (hD.sub [0] (by decide) rfl) hS ls (lv_sub hl [1, 2, 3, 4, 5, 6, 0] rfl)
                  · skip
                    have c_11 : (Fx x a) = (Fx x b) := (nI_eq (a := Fx x a) (b := Fx x b) (by omega) (by omega)).mp c_11
                    refine lv_aload_n hx hb dX8_byPair_82 rfl (lv_at hl 3 rfl) ?_
                    refine lv_iload_n hx hb dX8_byPair_83 rfl (lv_at hl 4 rfl) ?_
                    refine va_iald (D := gD G) (cA := gyI G) (n := 16) (f := f) hx hb hK hP 0 0 rfl rfl (vp_in_nI (n := a) (N := 16) (by omega) (by omega)) dX8_byPair_84 ?_
                    refine lv_toe (show f (nI a).toNatClampNeg = nI (Fx x a) by rw [nI_clamp (by omega)]; exact hX a (by omega)) ?_
                    have hfx_12 := fx_or x a
                    refine lv_toe (show nI (Fx x a) = nI (15) from congrArg nI (by omega)) ?_
                    refine fin_i hP hD hS hA [] [0] (wr := [(ca, .inl (gyI G, 16, .inl f))]) rfl rfl (by decide) (by decide) (va_runS (As := [.int (nI 15)]) (rest := []) ⟨hx, hb, hml, hown, hts⟩ (c_bits_15 l G H.size) (va_cwS 1 hts (gSt q1095 q277 q70 q278) rfl rfl rfl (by decide +kernel) ⟨Nat.le_of_ble_eq_true rfl, Nat.le_of_ble_eq_true rfl⟩) (preS hK hE hP hD hS hA [] rfl (by decide)) rfl rfl hl.1 rfl (lv_room (Nat.le_of_ble_eq_true rfl)) dX8_byPair_85 ⟨Nat.le_of_ble_eq_true rfl, Nat.le_of_ble_eq_true rfl⟩) (fun r_14 u9 hw_13 H locs hP hD hS => ?_)
                    subst hw_13
                    have hP : va_P (gD G) vwCl [(ca, .inl (gyI G, 16, .inl f))] H := hP
                    have hD : va_D A [(ca, .inl (gyI G, 16, .inl f))] := hD
                    refine lv_iconst (v := nI 2) hx hb dX8_byPair_88 (by decide) ?_
                    refine lv_icmp_ne (tgt := 96) hx hb dX8_byPair_89 (by decide) (fun c_15 => ?_) (fun c_15 => ?_)
                    · skip
                      have c_15 : ¬ 4 = 2 := fun z => c_15 ((nI_eq (a := 4) (b := 2) (by omega) (by omega)).mpr z)
                      refine lv_iconst (v := nI 0) hx hb dX8_byPair_96 (by decide) ?_
                      exact cut_97_5   _ _ (hP.sub [0] rfl) (hD.sub [0] (by decide) rfl) hS ls (lv_sub hl [1, 2, 3, 4, 5, 6, 0] rfl)
                    · skip
                      have c_15 : 4 = 2 := (nI_eq (a := 4) (b := 2) (by omega) (by omega)).mp c_15
                      exact absurd c_15 (by decide)
                refine lv_iload_n hx hb dX8_byPair_46 rfl (lv_at hl 4 rfl) ?_
                refine lv_iconst (v := nI 4) hx hb dX8_byPair_47 (by decide) ?_
                refine lv_irem hx hb dX8_byPair_48 (nI_ne0 (by omega) (by omega)) ?_
                refine lv_toe (pk_rem (a := a) (d := 4) (by omega) (by omega) (by omega)) ?_
                refine lv_iload_n hx hb dX8_byPair_49 rfl (lv_at hl 1 rfl) ?_
                refine lv_iconst (v := nI 4) hx hb dX8_byPair_50 (by decide) ?_
                refine lv_irem hx hb dX8_byPair_51 (nI_ne0 (by omega) (by omega)) ?_
                refine lv_toe (pk_rem (a := k) (d := 4) (by omega) (by omega) (by omega)) ?_
                refine lv_icmp_ne (tgt := 69) hx hb dX8_byPair_52 (by decide) (fun c_16 => ?_) (fun c_16 => ?_)
                · skip
                  have c_16 : ¬ (a % 4) = (k % 4) := fun z => c_16 ((nI_eq (a := a % 4) (b := k % 4) (by omega) (by omega)).mpr z)
                  refine lv_iconst (v := nI 0) hx hb dX8_byPair_69 (by decide) ?_
                  exact cut_70_4 0 (by omega)  _ _ (hP.sub [0] rfl) (hD.sub [0] (by decide) rfl) hS ls (lv_sub hl [1, 2, 3, 4, 5, 0] rfl)
                · skip
                  have c_16 : (a % 4) = (k % 4) := (nI_eq (a := a % 4) (b := k % 4) (by omega) (by omega)).mp c_16
                  refine lv_iload hx hb dX8_byPair_55 (lv_at hl 5 rfl) ?_
                  refine lv_iconst (v := nI 4) hx hb dX8_byPair_57 (by decide) ?_
                  refine lv_irem hx hb dX8_byPair_58 (nI_ne0 (by omega) (by omega)) ?_
                  refine lv_toe (pk_rem (a := b) (d := 4) (by omega) (by omega) (by omega)) ?_
                  refine lv_iload_n hx hb dX8_byPair_59 rfl (lv_at hl 1 rfl) ?_
                  refine lv_iconst (v := nI 4) hx hb dX8_byPair_60 (by decide) ?_
                  refine lv_irem hx hb dX8_byPair_61 (nI_ne0 (by omega) (by omega)) ?_
                  refine lv_toe (pk_rem (a := k) (d := 4) (by omega) (by omega) (by omega)) ?_
                  refine lv_icmp_ne (tgt := 69) hx hb dX8_byPair_62 (by decide) (fun c_17 => ?_) (fun c_17 => ?_)
                  · skip
                    have c_17 : ¬ (b % 4) = (k % 4) := fun z => c_17 ((nI_eq (a := b % 4) (b := k % 4) (by omega) (by omega)).mpr z)
                    refine lv_iconst (v := nI 0) hx hb dX8_byPair_69 (by decide) ?_
                    exact cut_70_4 0 (by omega)  _ _ (hP.sub [0] rfl) (hD.sub [0] (by decide) rfl) hS ls (lv_sub hl [1, 2, 3, 4, 5, 0] rfl)
                  · skip
                    have c_17 : (b % 4) = (k % 4) := (nI_eq (a := b % 4) (b := k % 4) (by omega) (by omega)).mp c_17
                    refine lv_iconst (v := nI 1) hx hb dX8_byPair_65 (by decide) ?_
                    refine lv_goto (tgt := 70) hx hb dX8_byPair_66 (by decide) ?_
                    exact cut_70_4 1 (by omega)  _ _ (hP.sub [0] rfl) (hD.sub [0] (by decide) rfl) hS ls (lv_sub hl [1, 2, 3, 4, 5, 0] rfl)
              refine lv_iload_n hx hb dX8_byPair_20 rfl (lv_at hl 3 rfl) ?_
              refine lv_iconst (v := nI 4) hx hb dX8_byPair_21 (by decide) ?_
              refine lv_idiv hx hb dX8_byPair_22 (nI_ne0 (by omega) (by omega)) ?_
              refine lv_toe (pk_div (a := a) (d := 4) (by omega) (by omega) (by omega)) ?_
              refine lv_iload_n hx hb dX8_byPair_23 rfl (lv_at hl 0 rfl) ?_
              refine lv_iconst (v := nI 4) hx hb dX8_byPair_24 (by decide) ?_
              refine lv_idiv hx hb dX8_byPair_25 (nI_ne0 (by omega) (by omega)) ?_
              refine lv_toe (pk_div (a := k) (d := 4) (by omega) (by omega) (by omega)) ?_
              refine lv_icmp_ne (tgt := 43) hx hb dX8_byPair_26 (by decide) (fun c_18 => ?_) (fun c_18 => ?_)
              · skip
                have c_18 : ¬ (a / 4) = (k / 4) := fun z => c_18 ((nI_eq (a := a / 4) (b := k / 4) (by omega) (by omega)).mpr z)
                refine lv_iconst (v := nI 0) hx hb dX8_byPair_43 (by decide) ?_
                exact cut_44_3 0 (by omega)  _ _ (hP.sub [0] rfl) (hD.sub [0] (by decide) rfl) hS ls (lv_sub hl [0, 1, 2, 3, 4] rfl)
              · skip
                have c_18 : (a / 4) = (k / 4) := (nI_eq (a := a / 4) (b := k / 4) (by omega) (by omega)).mp c_18
                refine lv_iload hx hb dX8_byPair_29 (lv_at hl 4 rfl) ?_
                refine lv_iconst (v := nI 4) hx hb dX8_byPair_31 (by decide) ?_
                refine lv_idiv hx hb dX8_byPair_32 (nI_ne0 (by omega) (by omega)) ?_
                refine lv_toe (pk_div (a := b) (d := 4) (by omega) (by omega) (by omega)) ?_
                refine lv_iload_n hx hb dX8_byPair_33 rfl (lv_at hl 0 rfl) ?_
                refine lv_iconst (v := nI 4) hx hb dX8_byPair_34 (by decide) ?_
                refine lv_idiv hx hb dX8_byPair_35 (nI_ne0 (by omega) (by omega)) ?_
                refine lv_toe (pk_div (a := k) (d := 4) (by omega) (by omega) (by omega)) ?_
                refine lv_icmp_ne (tgt := 43) hx hb dX8_byPair_36 (by decide) (fun c_19 => ?_) (fun c_19 => ?_)
                · skip
                  have c_19 : ¬ (b / 4) = (k / 4) := fun z => c_19 ((nI_eq (a := b / 4) (b := k / 4) (by omega) (by omega)).mpr z)
                  refine lv_iconst (v := nI 0) hx hb dX8_byPair_43 (by decide) ?_
                  exact cut_44_3 0 (by omega)  _ _ (hP.sub [0] rfl) (hD.sub [0] (by decide) rfl) hS ls (lv_sub hl [0, 1, 2, 3, 4] rfl)
                · skip
                  have c_19 : (b / 4) = (k / 4) := (nI_eq (a := b / 4) (b := k / 4) (by omega) (by omega)).mp c_19
                  refine lv_iconst (v := nI 1) hx hb dX8_byPair_39 (by decide) ?_
                  refine lv_goto (tgt := 44) hx hb dX8_byPair_40 (by decide) ?_
                  exact cut_44_3 1 (by omega)  _ _ (hP.sub [0] rfl) (hD.sub [0] (by decide) rfl) hS ls (lv_sub hl [0, 1, 2, 3, 4] rfl)
        exact cut_13_2 (16 - (a + 1) + 1) (a + 1) (by omega) (by omega) (Nat.lt_succ_self _) _ _ (hP.sub [0] rfl) (hD.sub [0] (by decide) rfl) hS ls (lv_sub hl [1, 2, 3, 4, 0] rfl)
  exact cut_2_1 (16 - 0 + 1) 0 (by omega) (Nat.lt_succ_self _) _ _ (hP.sub [0] rfl) (hD.sub [0] (by decide) rfl) hS ls (lv_sub hl [1, 2, 3, 0] rfl)
set_option maxHeartbeats 4000000 in
set_option maxRecDepth 100000 in
theorem c_taken_X (l : Launch) (G : GG) (pz : Nat) (gr : Nat) (mr : Nat) (cl : Nat) (gv : Nat → Int32) (k : Nat) (ca : Nat) (f : Nat → Int32) (x : Nat) (rl : Nat) (v : Nat) (hgv : inB 16 1 gv) (hX : inX x f) (hx3 : x = 15 ∨ x = 14 ∨ x = 12) (hrl : rl < 4) (hk : k < 16) (hv1 : 1 ≤ v) (hv4 : v ≤ 4) : Mi l G yX8_isTaken cX8_isTaken 5 (some .boolean) ({ frames := 2, cells := 0, slots := 0, locals := 47 } : Room) [.ref pz, .int (nI rl), .int (nI k), .int (nI v), .ref ca] [(pz, .inr (13, [.ref gr, .ref mr, .ref cl])), (gr, .inl (gyI G, 16, .inl gv)), (ca, .inl (gyI G, 16, .inl f))] (fun (r : Int32) (u : Unit) => r = nI 0) (fun (u : Unit) => [(pz, .inr (13, [.ref gr, .ref mr, .ref cl])), (gr, .inl (gyI G, 16, .inl gv)), (ca, .inl (gyI G, 16, .inl f))]) := by
  intro sz
  refine Met.ofW (cc := cX8_isTaken) (maxL := 5) (ret := (some .boolean)) (by decide) rfl ?_
  intro p e s m args below meth c s₁ B9 hml hv
  obtain ⟨rfl, hsz, hP, hK, hD0, hE⟩ := hv
  have hx := B9.exec
  have hb := B9.bytes
  have hr := B9.returns
  have hts : ∀ w ∈ WW, w.before ([.ref pz, .int (nI rl), .int (nI k), .int (nI v), .ref ca] : List Value).toArray s = true := fun w h => atoms_spec (ws := .code yX8_isTaken cX8_isTaken 5 (some .boolean) :: WW) B9.pre w (List.mem_cons_of_mem _ h)
  have hown : s.vm.findClass RX8 = some m.cls := findClass_of_methodNamed B9.named
  subst hsz
  have hD := hD0.self (sz := s.heap.size)
  generalize hAe : va_A [(pz, .inr (13, [.ref gr, .ref mr, .ref cl])), (gr, .inl (gyI G, 16, .inl gv)), (ca, .inl (gyI G, 16, .inl f))] s.heap.size = A at hD hE ⊢
  have hA : ∀ q : Nat, s.heap.size ≤ q → A q := fun q h => by rw [← hAe]; exact Or.inr h
  have hl := lv_entry ([.ref pz, .int (nI rl), .int (nI k), .int (nI v), .ref ca]) (n := 5) (Nat.le_of_ble_eq_true rfl)
  rw [lg_entry_eq]
  generalize (lg_sl ([.ref pz, .int (nI rl), .int (nI k), .int (nI v), .ref ca]) ++ List.replicate (5 - (lg_sl ([.ref pz, .int (nI rl), .int (nI k), .int (nI v), .ref ca])).length) Slot.unset).toArray = ls at hl ⊢
  have hl : lv_has ls 5 [(0, .ref pz), (1, .int (nI rl)), (2, .int (nI k)), (3, .int (nI v)), (4, .ref ca)] := hl
  refine qgen (fun Q hQ => ?_)
  refine hgen (fun H locs hP hD hS => ?_) hP hD
  refine lv_iload_n hx hb dX8_isTaken_0 rfl (lv_at hl 1 rfl) ?_
  rcases (show rl = 0 ∨ rl = 1 ∨ rl = 2 ∨ rl = 3 by omega) with rfl | rfl | rfl | rfl
  · skip
    refine lv_tableIn (off := 31) (tgt := 32) hx hb dX8_isTaken_1 (by decide) (by decide) (by decide) (by decide) ?_
    refine lv_aload_n hx hb dX8_isTaken_32 rfl (lv_at hl 0 rfl) ?_
    refine va_get (D := gD G) (ci := 13) (v := .ref gr) (C := RX8) (T := TX8) (N := 3) hx hb hts fwX8 hown hK hP 0 rfl rfl 0 (by decide) (hts _ q974) (fun _ h9 => h9) rfl dX8_isTaken_33 ?_
    refine lv_iload_n hx hb dX8_isTaken_36 rfl (lv_at hl 2 rfl) ?_
    refine va_iald (D := gD G) (cA := gyI G) (n := 16) (f := gv) hx hb hK hP 1 0 rfl rfl (vp_in_nI (n := k) (N := 16) (by omega) (by omega)) dX8_isTaken_37 ?_
    obtain ⟨n_1, hn_1, en_1⟩ := hgv k (by omega)
    refine lv_toe (show gv (nI k).toNatClampNeg = nI n_1 by rw [nI_clamp (by omega)]; exact en_1) ?_
    refine lv_if_le (tgt := 55) hx hb dX8_isTaken_38 (by decide) (fun c_2 => ?_) (fun c_2 => ?_)
    · skip
      have c_2 : n_1 ≤ 0 := (nI_leI (a := n_1) (b := 0) (by omega) (by omega)).mp c_2
      refine lv_iconst (v := nI 0) hx hb dX8_isTaken_55 (by decide) ?_
      have hP9 := hP.sub (ws' := [(pz, .inr (13, [.ref gr, .ref mr, .ref cl])), (gr, .inl (gyI G, 16, .inl gv)), (ca, .inl (gyI G, 16, .inl f))]) [0, 1, 2] rfl
      have hD9 := hD.sub (ws' := [(pz, .inr (13, [.ref gr, .ref mr, .ref cl])), (gr, .inl (gyI G, 16, .inl gv)), (ca, .inl (gyI G, 16, .inl f))]) [0, 1, 2] (by decide) rfl
      subst hQ
      exact W.zret (v := nI 0) hx hb hr (by decide) (fun t ht hW => ⟨⟨nI 0, (), rfl, rfl, by rw [ht]; exact hP9, hD9⟩, hS.F ht⟩) hS.2.2 dX8_isTaken_56
    · skip
      have c_2 : ¬ n_1 ≤ 0 := fun z => c_2 ((nI_leI (a := n_1) (b := 0) (by omega) (by omega)).mpr z)
      exfalso; omega
  · skip
    refine lv_tableIn (off := 56) (tgt := 57) hx hb dX8_isTaken_1 (by decide) (by decide) (by decide) (by decide) ?_
    refine lv_iload_n hx hb dX8_isTaken_57 rfl (lv_at hl 2 rfl) ?_
    refine lv_iload_n hx hb dX8_isTaken_58 rfl (lv_at hl 3 rfl) ?_
    refine lv_aload hx hb dX8_isTaken_59 (lv_at hl 4 rfl) ?_
    refine fin_i hP hD hS hA [2] [0, 1] (wr := [(pz, .inr (13, [.ref gr, .ref mr, .ref cl])), (gr, .inl (gyI G, 16, .inl gv))]) rfl rfl (by decide) (by decide) (va_runS (As := [.int (nI k), .int (nI v), .ref ca]) (rest := []) ⟨hx, hb, hml, hown, hts⟩ (c_byOnly_X l G k ca f x v (by omega) (by omega) (by omega) (by omega) (by omega) H.size) (va_cwS 3 hts (gSt q1083 q1084 q62 q1085) rfl rfl rfl (by decide +kernel) ⟨Nat.le_of_ble_eq_true rfl, Nat.le_of_ble_eq_true rfl⟩) (preS hK hE hP hD hS hA [2] rfl (by decide)) rfl rfl hl.1 rfl (lv_room (Nat.le_of_ble_eq_true rfl)) dX8_isTaken_61 ⟨Nat.le_of_ble_eq_true rfl, Nat.le_of_ble_eq_true rfl⟩) (fun r_4 u9 hw_3 H locs hP hD hS => ?_)
    subst hw_3
    have hP : va_P (gD G) vwCl [(pz, .inr (13, [.ref gr, .ref mr, .ref cl])), (gr, .inl (gyI G, 16, .inl gv)), (ca, .inl (gyI G, 16, .inl f))] H := hP
    have hD : va_D A [(pz, .inr (13, [.ref gr, .ref mr, .ref cl])), (gr, .inl (gyI G, 16, .inl gv)), (ca, .inl (gyI G, 16, .inl f))] := hD
    have hP9 := hP.sub (ws' := [(pz, .inr (13, [.ref gr, .ref mr, .ref cl])), (gr, .inl (gyI G, 16, .inl gv)), (ca, .inl (gyI G, 16, .inl f))]) [0, 1, 2] rfl
    have hD9 := hD.sub (ws' := [(pz, .inr (13, [.ref gr, .ref mr, .ref cl])), (gr, .inl (gyI G, 16, .inl gv)), (ca, .inl (gyI G, 16, .inl f))]) [0, 1, 2] (by decide) rfl
    subst hQ
    exact W.zret (v := nI 0) hx hb hr (by decide) (fun t ht hW => ⟨⟨nI 0, (), rfl, rfl, by rw [ht]; exact hP9, hD9⟩, hS.F ht⟩) hS.2.2 dX8_isTaken_64
  · skip
    refine lv_tableIn (off := 64) (tgt := 65) hx hb dX8_isTaken_1 (by decide) (by decide) (by decide) (by decide) ?_
    refine lv_iload_n hx hb dX8_isTaken_65 rfl (lv_at hl 2 rfl) ?_
    refine lv_iload_n hx hb dX8_isTaken_66 rfl (lv_at hl 3 rfl) ?_
    refine lv_aload hx hb dX8_isTaken_67 (lv_at hl 4 rfl) ?_
    refine fin_i hP hD hS hA [2] [0, 1] (wr := [(pz, .inr (13, [.ref gr, .ref mr, .ref cl])), (gr, .inl (gyI G, 16, .inl gv))]) rfl rfl (by decide) (by decide) (va_runS (As := [.int (nI k), .int (nI v), .ref ca]) (rest := []) ⟨hx, hb, hml, hown, hts⟩ (c_byPlace_X l G k ca f x (nI v) (by omega) (by omega) (by omega) H.size) (va_cwS 3 hts (gSt q1089 q1090 q62 q1091) rfl rfl rfl (by decide +kernel) ⟨Nat.le_of_ble_eq_true rfl, Nat.le_of_ble_eq_true rfl⟩) (preS hK hE hP hD hS hA [2] rfl (by decide)) rfl rfl hl.1 rfl (lv_room (Nat.le_of_ble_eq_true rfl)) dX8_isTaken_69 ⟨Nat.le_of_ble_eq_true rfl, Nat.le_of_ble_eq_true rfl⟩) (fun r_6 u9 hw_5 H locs hP hD hS => ?_)
    subst hw_5
    have hP : va_P (gD G) vwCl [(pz, .inr (13, [.ref gr, .ref mr, .ref cl])), (gr, .inl (gyI G, 16, .inl gv)), (ca, .inl (gyI G, 16, .inl f))] H := hP
    have hD : va_D A [(pz, .inr (13, [.ref gr, .ref mr, .ref cl])), (gr, .inl (gyI G, 16, .inl gv)), (ca, .inl (gyI G, 16, .inl f))] := hD
    have hP9 := hP.sub (ws' := [(pz, .inr (13, [.ref gr, .ref mr, .ref cl])), (gr, .inl (gyI G, 16, .inl gv)), (ca, .inl (gyI G, 16, .inl f))]) [0, 1, 2] rfl
    have hD9 := hD.sub (ws' := [(pz, .inr (13, [.ref gr, .ref mr, .ref cl])), (gr, .inl (gyI G, 16, .inl gv)), (ca, .inl (gyI G, 16, .inl f))]) [0, 1, 2] (by decide) rfl
    subst hQ
    exact W.zret (v := nI 0) hx hb hr (by decide) (fun t ht hW => ⟨⟨nI 0, (), rfl, rfl, by rw [ht]; exact hP9, hD9⟩, hS.F ht⟩) hS.2.2 dX8_isTaken_72
  · skip
    refine lv_tableIn (off := 72) (tgt := 73) hx hb dX8_isTaken_1 (by decide) (by decide) (by decide) (by decide) ?_
    refine lv_iload_n hx hb dX8_isTaken_73 rfl (lv_at hl 2 rfl) ?_
    refine lv_iload_n hx hb dX8_isTaken_74 rfl (lv_at hl 3 rfl) ?_
    refine lv_aload hx hb dX8_isTaken_75 (lv_at hl 4 rfl) ?_
    refine fin_i hP hD hS hA [2] [0, 1] (wr := [(pz, .inr (13, [.ref gr, .ref mr, .ref cl])), (gr, .inl (gyI G, 16, .inl gv))]) rfl rfl (by decide) (by decide) (va_runS (As := [.int (nI k), .int (nI v), .ref ca]) (rest := []) ⟨hx, hb, hml, hown, hts⟩ (c_byPair_X l G k ca f x (nI v) (by omega) (by omega) (by omega) H.size) (va_cwS 3 hts (gSt q1092 q1093 q62 q1094) rfl rfl rfl (by decide +kernel) ⟨Nat.le_of_ble_eq_true rfl, Nat.le_of_ble_eq_true rfl⟩) (preS hK hE hP hD hS hA [2] rfl (by decide)) rfl rfl hl.1 rfl (lv_room (Nat.le_of_ble_eq_true rfl)) dX8_isTaken_77 ⟨Nat.le_of_ble_eq_true rfl, Nat.le_of_ble_eq_true rfl⟩) (fun r_8 u9 hw_7 H locs hP hD hS => ?_)
    subst hw_7
    have hP : va_P (gD G) vwCl [(pz, .inr (13, [.ref gr, .ref mr, .ref cl])), (gr, .inl (gyI G, 16, .inl gv)), (ca, .inl (gyI G, 16, .inl f))] H := hP
    have hD : va_D A [(pz, .inr (13, [.ref gr, .ref mr, .ref cl])), (gr, .inl (gyI G, 16, .inl gv)), (ca, .inl (gyI G, 16, .inl f))] := hD
    have hP9 := hP.sub (ws' := [(pz, .inr (13, [.ref gr, .ref mr, .ref cl])), (gr, .inl (gyI G, 16, .inl gv)), (ca, .inl (gyI G, 16, .inl f))]) [0, 1, 2] rfl
    have hD9 := hD.sub (ws' := [(pz, .inr (13, [.ref gr, .ref mr, .ref cl])), (gr, .inl (gyI G, 16, .inl gv)), (ca, .inl (gyI G, 16, .inl f))]) [0, 1, 2] (by decide) rfl
    subst hQ
    exact W.zret (v := nI 0) hx hb hr (by decide) (fun t ht hW => ⟨⟨nI 0, (), rfl, rfl, by rw [ht]; exact hP9, hD9⟩, hS.F ht⟩) hS.2.2 dX8_isTaken_80
set_option maxHeartbeats 4000000 in
set_option maxRecDepth 100000 in
theorem c_byOnly (l : Launch) (G : GG) (k : Nat) (ca : Nat) (f : Nat → Int32) (v : Int32) (hk : k < 16) : Mi l G yX8_byOnly cX8_byOnly 5 (some .boolean) ({ frames := 1, cells := 0, slots := 0, locals := 21 } : Room) [.int (nI k), .int v, .ref ca] [(ca, .inl (gyI G, 16, .inl f))] (fun (r : Int32) (u : Nat) => r = nI u ∧ u ≤ 1) (fun (u : Nat) => [(ca, .inl (gyI G, 16, .inl f))]) := by
  intro sz
  refine Met.ofW (cc := cX8_byOnly) (maxL := 5) (ret := (some .boolean)) (by decide) rfl ?_
  intro p e s m args below meth c s₁ B9 hml hv
  obtain ⟨rfl, hsz, hP, hK, hD0, hE⟩ := hv
  have hx := B9.exec
  have hb := B9.bytes
  have hr := B9.returns
  have hts : ∀ w ∈ WW, w.before ([.int (nI k), .int v, .ref ca] : List Value).toArray s = true := fun w h => atoms_spec (ws := .code yX8_byOnly cX8_byOnly 5 (some .boolean) :: WW) B9.pre w (List.mem_cons_of_mem _ h)
  have hown : s.vm.findClass RX8 = some m.cls := findClass_of_methodNamed B9.named
  subst hsz
  have hD := hD0.self (sz := s.heap.size)
  generalize hAe : va_A [(ca, .inl (gyI G, 16, .inl f))] s.heap.size = A at hD hE ⊢
  have hA : ∀ q : Nat, s.heap.size ≤ q → A q := fun q h => by rw [← hAe]; exact Or.inr h
  have hl := lv_entry ([.int (nI k), .int v, .ref ca]) (n := 5) (Nat.le_of_ble_eq_true rfl)
  rw [lg_entry_eq]
  generalize (lg_sl ([.int (nI k), .int v, .ref ca]) ++ List.replicate (5 - (lg_sl ([.int (nI k), .int v, .ref ca])).length) Slot.unset).toArray = ls at hl ⊢
  have hl : lv_has ls 5 [(0, .int (nI k)), (1, .int v), (2, .ref ca)] := hl
  refine qgen (fun Q hQ => ?_)
  refine hgen (fun H locs hP hD hS => ?_) hP hD
  refine lv_iconst (v := nI 0) hx hb dX8_byOnly_0 (by decide) ?_
  refine lv_istore_n (lv' := [(3, .int (nI 0)), (0, .int (nI k)), (1, .int v), (2, .ref ca)]) hx hb dX8_byOnly_1 rfl hl (by decide) rfl (fun ls hl => ?_)
  refine lv_iconst (v := nI 0) hx hb dX8_byOnly_2 (by decide) ?_
  refine lv_istore (lv' := [(4, .int (nI 0)), (3, .int (nI 0)), (0, .int (nI k)), (1, .int v), (2, .ref ca)]) hx hb dX8_byOnly_3 hl (by decide) rfl (fun ls hl => ?_)
  have cut_5_1 : ∀ (n9 : Nat) (bs : Nat) (i : Nat) (hbs : bs ≤ 1) (hi : i ≤ 16) (hm9 : 16 - i < n9) (H : Heap) (locs : List Loc), va_P (gD G) vwCl [(ca, .inl (gyI G, 16, .inl f))] H → va_D A [(ca, .inl (gyI G, 16, .inl f))] → va_S A s.heap H locs → ∀ (ls : Array Slot), lv_has ls 5 [(0, .int (nI k)), (1, .int v), (2, .ref ca), (3, .int (nI bs)), (4, .int (nI i))] → W p l e ({ frames := 1, cells := 0, slots := 0, locals := 21 } : Room) s m ([.int (nI k), .int v, .ref ca] : List Value).toArray below meth c H locs 0 0 Q (F0 m 5 ls []) := by
    intro n9
    induction n9 with
    | zero =>
      intro bs i hbs hi hm9
      exact absurd hm9 (Nat.not_lt_zero _)
    | succ n9 ih_5_1 =>
      intro bs i hbs hi hm9 H locs hP hD hS ls hl
      refine lv_iload hx hb dX8_byOnly_5 (lv_at hl 4 rfl) ?_
      refine lv_bipush (v := nI 16) hx hb dX8_byOnly_7 (by decide) ?_
      refine lv_icmp_ge (tgt := 47) hx hb dX8_byOnly_9 (by decide) (fun c_1 => ?_) (fun c_1 => ?_)
      · skip
        have c_1 : 16 ≤ i := (nI_leI (a := 16) (b := i) (by omega) (by omega)).mp c_1
        refine lv_iload_n hx hb dX8_byOnly_47 rfl (lv_at hl 3 rfl) ?_
        have hP9 := hP.sub (ws' := [(ca, .inl (gyI G, 16, .inl f))]) [0] rfl
        have hD9 := hD.sub (ws' := [(ca, .inl (gyI G, 16, .inl f))]) [0] (by decide) rfl
        subst hQ
        exact W.zret (v := nI bs) hx hb hr (nar_b (by omega)) (fun t ht hW => ⟨⟨nI bs, bs, rfl, ⟨rfl, (show bs ≤ 1 by omega)⟩, by rw [ht]; exact hP9, hD9⟩, hS.F ht⟩) hS.2.2 dX8_byOnly_48
      · skip
        have c_1 : ¬ 16 ≤ i := fun z => c_1 ((nI_leI (a := 16) (b := i) (by omega) (by omega)).mpr z)
        refine lv_iload_n hx hb dX8_byOnly_12 rfl (lv_at hl 3 rfl) ?_
        refine lv_iload hx hb dX8_byOnly_13 (lv_at hl 4 rfl) ?_
        refine lv_iload_n hx hb dX8_byOnly_15 rfl (lv_at hl 0 rfl) ?_
        refine fin_i hP hD hS hA [] [0] (wr := [(ca, .inl (gyI G, 16, .inl f))]) rfl rfl (by decide) (by decide) (va_runSN (As := [.int (nI i), .int (nI k)]) (rest := [.int (nI bs)]) ⟨hx, hb, hml, hown, hts⟩ (c_X10_areInLine l G i k (by omega) (by omega) H.size) ⟨(va_cnB 2 hts (gI q1088) rfl rfl rfl (hE.1.1 _ nq1086) (hts _ q52) (by decide +kernel) ⟨Nat.le_of_ble_eq_true rfl, Nat.le_of_ble_eq_true rfl⟩), hts _ q1087, trivial⟩ (preS hK hE hP hD hS hA [] rfl (by decide)) rfl rfl hl.1 rfl (lv_room (Nat.le_of_ble_eq_true rfl)) dX8_byOnly_16 ⟨Nat.le_of_ble_eq_true rfl, Nat.le_of_ble_eq_true rfl⟩) (fun r_3 u9 hw_2 H locs hP hD hS => ?_)
        have hP : va_P (gD G) vwCl [(ca, .inl (gyI G, 16, .inl f))] H := hP
        have hD : va_D A [(ca, .inl (gyI G, 16, .inl f))] := hD
        refine lv_if_eq (tgt := 38) hx hb dX8_byOnly_19 (by decide) (fun c_4 => ?_) (fun c_4 => ?_)
        · skip
          refine lv_iconst (v := nI 0) hx hb dX8_byOnly_38 (by decide) ?_
          refine lv_ior hx hb dX8_byOnly_39 ?_
          refine lv_toe (bor0 (by omega)) ?_
          refine lv_istore_n (lv' := [(3, .int (nI bs)), (0, .int (nI k)), (1, .int v), (2, .ref ca), (4, .int (nI i))]) hx hb dX8_byOnly_40 rfl hl (by decide) rfl (fun ls hl => ?_)
          refine lv_iinc (v := nI (i + 1)) (lv' := [(4, .int (nI (i + 1))), (3, .int (nI bs)), (0, .int (nI k)), (1, .int v), (2, .ref ca)]) hx hb dX8_byOnly_41 hl (k := 4) rfl (nI_add i 1) (by decide) rfl (fun ls hl => ?_)
          refine lv_goto (tgt := 5) hx hb dX8_byOnly_44 (by decide) ?_
          exact ih_5_1 bs (i + 1) (by omega) (by omega) (by omega) _ _ (hP.sub [0] rfl) (hD.sub [0] (by decide) rfl) hS ls (lv_sub hl [2, 3, 4, 1, 0] rfl)
        · skip
          refine lv_aload_n hx hb dX8_byOnly_22 rfl (lv_at hl 2 rfl) ?_
          refine lv_iload hx hb dX8_byOnly_23 (lv_at hl 4 rfl) ?_
          refine va_iald (D := gD G) (cA := gyI G) (n := 16) (f := f) hx hb hK hP 0 0 rfl rfl (vp_in_nI (n := i) (N := 16) (by omega) (by omega)) dX8_byOnly_25 ?_
          refine lv_topi (fun w_5 ew_5 => ?_)
          refine lv_iconst (v := nI 1) hx hb dX8_byOnly_26 (by decide) ?_
          refine lv_iload_n hx hb dX8_byOnly_27 rfl (lv_at hl 1 rfl) ?_
          refine lv_iconst (v := nI 1) hx hb dX8_byOnly_28 (by decide) ?_
          refine lv_isub hx hb dX8_byOnly_29 ?_
          refine lv_topi (fun w_6 ew_6 => ?_)
          refine lv_ishl hx hb dX8_byOnly_30 ?_
          refine lv_topi (fun w_7 ew_7 => ?_)
          refine lv_icmp_ne (tgt := 38) hx hb dX8_byOnly_31 (by decide) (fun c_8 => ?_) (fun c_8 => ?_)
          · skip
            refine lv_iconst (v := nI 0) hx hb dX8_byOnly_38 (by decide) ?_
            refine lv_ior hx hb dX8_byOnly_39 ?_
            refine lv_toe (bor0 (by omega)) ?_
            refine lv_istore_n (lv' := [(3, .int (nI bs)), (0, .int (nI k)), (1, .int v), (2, .ref ca), (4, .int (nI i))]) hx hb dX8_byOnly_40 rfl hl (by decide) rfl (fun ls hl => ?_)
            refine lv_iinc (v := nI (i + 1)) (lv' := [(4, .int (nI (i + 1))), (3, .int (nI bs)), (0, .int (nI k)), (1, .int v), (2, .ref ca)]) hx hb dX8_byOnly_41 hl (k := 4) rfl (nI_add i 1) (by decide) rfl (fun ls hl => ?_)
            refine lv_goto (tgt := 5) hx hb dX8_byOnly_44 (by decide) ?_
            exact ih_5_1 bs (i + 1) (by omega) (by omega) (by omega) _ _ (hP.sub [0] rfl) (hD.sub [0] (by decide) rfl) hS ls (lv_sub hl [2, 3, 4, 1, 0] rfl)
          · skip
            refine lv_iconst (v := nI 1) hx hb dX8_byOnly_34 (by decide) ?_
            refine lv_goto (tgt := 39) hx hb dX8_byOnly_35 (by decide) ?_
            refine lv_ior hx hb dX8_byOnly_39 ?_
            refine lv_toe (bor1 (by omega)) ?_
            refine lv_istore_n (lv' := [(3, .int (nI 1)), (0, .int (nI k)), (1, .int v), (2, .ref ca), (4, .int (nI i))]) hx hb dX8_byOnly_40 rfl hl (by decide) rfl (fun ls hl => ?_)
            refine lv_iinc (v := nI (i + 1)) (lv' := [(4, .int (nI (i + 1))), (3, .int (nI 1)), (0, .int (nI k)), (1, .int v), (2, .ref ca)]) hx hb dX8_byOnly_41 hl (k := 4) rfl (nI_add i 1) (by decide) rfl (fun ls hl => ?_)
            refine lv_goto (tgt := 5) hx hb dX8_byOnly_44 (by decide) ?_
            exact ih_5_1 1 (i + 1) (by omega) (by omega) (by omega) _ _ (hP.sub [0] rfl) (hD.sub [0] (by decide) rfl) hS ls (lv_sub hl [2, 3, 4, 1, 0] rfl)
  exact cut_5_1 (16 - 0 + 1) 0 0 (by omega) (by omega) (Nat.lt_succ_self _) _ _ (hP.sub [0] rfl) (hD.sub [0] (by decide) rfl) hS ls (lv_sub hl [2, 3, 4, 1, 0] rfl)
set_option maxHeartbeats 4000000 in
set_option maxRecDepth 100000 in
theorem c_byPlace (l : Launch) (G : GG) (k : Nat) (ca : Nat) (f : Nat → Int32) (v : Int32) (hk : k < 16) : Mi l G yX8_byPlace cX8_byPlace 6 (some .boolean) ({ frames := 0, cells := 0, slots := 0, locals := 0 } : Room) [.int (nI k), .int v, .ref ca] [(ca, .inl (gyI G, 16, .inl f))] (fun (r : Int32) (u : Nat) => r = nI u ∧ u ≤ 1) (fun (u : Nat) => [(ca, .inl (gyI G, 16, .inl f))]) := by
  intro sz
  refine Met.ofW (cc := cX8_byPlace) (maxL := 6) (ret := (some .boolean)) (by decide) rfl ?_
  intro p e s m args below meth c s₁ B9 hml hv
  obtain ⟨rfl, hsz, hP, hK, hD0, hE⟩ := hv
  have hx := B9.exec
  have hb := B9.bytes
  have hr := B9.returns
  have hts : ∀ w ∈ WW, w.before ([.int (nI k), .int v, .ref ca] : List Value).toArray s = true := fun w h => atoms_spec (ws := .code yX8_byPlace cX8_byPlace 6 (some .boolean) :: WW) B9.pre w (List.mem_cons_of_mem _ h)
  have hown : s.vm.findClass RX8 = some m.cls := findClass_of_methodNamed B9.named
  subst hsz
  have hD := hD0.self (sz := s.heap.size)
  generalize hAe : va_A [(ca, .inl (gyI G, 16, .inl f))] s.heap.size = A at hD hE ⊢
  have hA : ∀ q : Nat, s.heap.size ≤ q → A q := fun q h => by rw [← hAe]; exact Or.inr h
  have hl := lv_entry ([.int (nI k), .int v, .ref ca]) (n := 6) (Nat.le_of_ble_eq_true rfl)
  rw [lg_entry_eq]
  generalize (lg_sl ([.int (nI k), .int v, .ref ca]) ++ List.replicate (6 - (lg_sl ([.int (nI k), .int v, .ref ca])).length) Slot.unset).toArray = ls at hl ⊢
  have hl : lv_has ls 6 [(0, .int (nI k)), (1, .int v), (2, .ref ca)] := hl
  refine qgen (fun Q hQ => ?_)
  refine hgen (fun H locs hP hD hS => ?_) hP hD
  refine lv_iconst (v := nI 0) hx hb dX8_byPlace_0 (by decide) ?_
  refine lv_istore_n (lv' := [(3, .int (nI 0)), (0, .int (nI k)), (1, .int v), (2, .ref ca)]) hx hb dX8_byPlace_1 rfl hl (by decide) rfl (fun ls hl => ?_)
  refine lv_iconst (v := nI 0) hx hb dX8_byPlace_2 (by decide) ?_
  refine lv_istore (lv' := [(4, .int (nI 0)), (3, .int (nI 0)), (0, .int (nI k)), (1, .int v), (2, .ref ca)]) hx hb dX8_byPlace_3 hl (by decide) rfl (fun ls hl => ?_)
  refine lv_iconst (v := nI 0) hx hb dX8_byPlace_5 (by decide) ?_
  refine lv_istore (lv' := [(5, .int (nI 0)), (4, .int (nI 0)), (3, .int (nI 0)), (0, .int (nI k)), (1, .int v), (2, .ref ca)]) hx hb dX8_byPlace_6 hl (by decide) rfl (fun ls hl => ?_)
  have cut_8_1 : ∀ (n9 : Nat) (x3 : Int32) (x4 : Int32) (i : Nat) (hi : i ≤ 16) (hm9 : 16 - i < n9) (H : Heap) (locs : List Loc), va_P (gD G) vwCl [(ca, .inl (gyI G, 16, .inl f))] H → va_D A [(ca, .inl (gyI G, 16, .inl f))] → va_S A s.heap H locs → ∀ (ls : Array Slot), lv_has ls 6 [(0, .int (nI k)), (1, .int v), (2, .ref ca), (3, .int x3), (4, .int x4), (5, .int (nI i))] → W p l e ({ frames := 0, cells := 0, slots := 0, locals := 0 } : Room) s m ([.int (nI k), .int v, .ref ca] : List Value).toArray below meth c H locs 0 0 Q (F0 m 8 ls []) := by
    intro n9
    induction n9 with
    | zero =>
      intro x3 x4 i hi hm9
      exact absurd hm9 (Nat.not_lt_zero _)
    | succ n9 ih_8_1 =>
      intro x3 x4 i hi hm9 H locs hP hD hS ls hl
      refine lv_iload hx hb dX8_byPlace_8 (lv_at hl 5 rfl) ?_
      refine lv_bipush (v := nI 16) hx hb dX8_byPlace_10 (by decide) ?_
      refine lv_icmp_ge (tgt := 69) hx hb dX8_byPlace_12 (by decide) (fun c_1 => ?_) (fun c_1 => ?_)
      · skip
        have c_1 : 16 ≤ i := (nI_leI (a := 16) (b := i) (by omega) (by omega)).mp c_1
        refine lv_aload_n hx hb dX8_byPlace_69 rfl (lv_at hl 2 rfl) ?_
        refine lv_iload_n hx hb dX8_byPlace_70 rfl (lv_at hl 0 rfl) ?_
        refine va_iald (D := gD G) (cA := gyI G) (n := 16) (f := f) hx hb hK hP 0 0 rfl rfl (vp_in_nI (n := k) (N := 16) (by omega) (by omega)) dX8_byPlace_71 ?_
        refine lv_topi (fun w_2 ew_2 => ?_)
        refine lv_iconst (v := nI 1) hx hb dX8_byPlace_72 (by decide) ?_
        refine lv_iload_n hx hb dX8_byPlace_73 rfl (lv_at hl 1 rfl) ?_
        refine lv_iconst (v := nI 1) hx hb dX8_byPlace_74 (by decide) ?_
        refine lv_isub hx hb dX8_byPlace_75 ?_
        refine lv_topi (fun w_3 ew_3 => ?_)
        refine lv_ishl hx hb dX8_byPlace_76 ?_
        refine lv_topi (fun w_4 ew_4 => ?_)
        refine lv_iconst (v := -1) hx hb dX8_byPlace_77 (by decide) ?_
        refine lv_ixor hx hb dX8_byPlace_78 ?_
        refine lv_topi (fun w_5 ew_5 => ?_)
        refine lv_iand hx hb dX8_byPlace_79 ?_
        refine lv_topi (fun w_6 ew_6 => ?_)
        refine lv_istore (lv' := [(5, .int w_6), (0, .int (nI k)), (1, .int v), (2, .ref ca), (3, .int x3), (4, .int x4)]) hx hb dX8_byPlace_80 hl (by decide) rfl (fun ls hl => ?_)
        refine lv_iload hx hb dX8_byPlace_82 (lv_at hl 0 rfl) ?_
        refine lv_iload_n hx hb dX8_byPlace_84 rfl (lv_at hl 4 rfl) ?_
        refine lv_iconst (v := -1) hx hb dX8_byPlace_85 (by decide) ?_
        refine lv_ixor hx hb dX8_byPlace_86 ?_
        refine lv_topi (fun w_7 ew_7 => ?_)
        refine lv_iand hx hb dX8_byPlace_87 ?_
        refine lv_topi (fun w_8 ew_8 => ?_)
        refine lv_if_ne (tgt := 101) hx hb dX8_byPlace_88 (by decide) (fun c_9 => ?_) (fun c_9 => ?_)
        · skip
          refine lv_iconst (v := nI 1) hx hb dX8_byPlace_101 (by decide) ?_
          refine lv_goto (tgt := 106) hx hb dX8_byPlace_102 (by decide) ?_
          have hP9 := hP.sub (ws' := [(ca, .inl (gyI G, 16, .inl f))]) [0] rfl
          have hD9 := hD.sub (ws' := [(ca, .inl (gyI G, 16, .inl f))]) [0] (by decide) rfl
          subst hQ
          exact W.zret (v := nI 1) hx hb hr (by decide) (fun t ht hW => ⟨⟨nI 1, 1, rfl, ⟨rfl, (show 1 ≤ 1 by omega)⟩, by rw [ht]; exact hP9, hD9⟩, hS.F ht⟩) hS.2.2 dX8_byPlace_106
        · skip
          refine lv_iload hx hb dX8_byPlace_91 (lv_at hl 0 rfl) ?_
          refine lv_iload hx hb dX8_byPlace_93 (lv_at hl 5 rfl) ?_
          refine lv_iconst (v := -1) hx hb dX8_byPlace_95 (by decide) ?_
          refine lv_ixor hx hb dX8_byPlace_96 ?_
          refine lv_topi (fun w_10 ew_10 => ?_)
          refine lv_iand hx hb dX8_byPlace_97 ?_
          refine lv_topi (fun w_11 ew_11 => ?_)
          refine lv_if_eq (tgt := 105) hx hb dX8_byPlace_98 (by decide) (fun c_12 => ?_) (fun c_12 => ?_)
          · skip
            refine lv_iconst (v := nI 0) hx hb dX8_byPlace_105 (by decide) ?_
            have hP9 := hP.sub (ws' := [(ca, .inl (gyI G, 16, .inl f))]) [0] rfl
            have hD9 := hD.sub (ws' := [(ca, .inl (gyI G, 16, .inl f))]) [0] (by decide) rfl
            subst hQ
            exact W.zret (v := nI 0) hx hb hr (by decide) (fun t ht hW => ⟨⟨nI 0, 0, rfl, ⟨rfl, (show 0 ≤ 1 by omega)⟩, by rw [ht]; exact hP9, hD9⟩, hS.F ht⟩) hS.2.2 dX8_byPlace_106
          · skip
            refine lv_iconst (v := nI 1) hx hb dX8_byPlace_101 (by decide) ?_
            refine lv_goto (tgt := 106) hx hb dX8_byPlace_102 (by decide) ?_
            have hP9 := hP.sub (ws' := [(ca, .inl (gyI G, 16, .inl f))]) [0] rfl
            have hD9 := hD.sub (ws' := [(ca, .inl (gyI G, 16, .inl f))]) [0] (by decide) rfl
            subst hQ
            exact W.zret (v := nI 1) hx hb hr (by decide) (fun t ht hW => ⟨⟨nI 1, 1, rfl, ⟨rfl, (show 1 ≤ 1 by omega)⟩, by rw [ht]; exact hP9, hD9⟩, hS.F ht⟩) hS.2.2 dX8_byPlace_106
      · skip
        have c_1 : ¬ 16 ≤ i := fun z => c_1 ((nI_leI (a := 16) (b := i) (by omega) (by omega)).mpr z)
        refine lv_iload hx hb dX8_byPlace_15 (lv_at hl 5 rfl) ?_
        refine lv_iload_n hx hb dX8_byPlace_17 rfl (lv_at hl 0 rfl) ?_
        refine lv_icmp_eq (tgt := 38) hx hb dX8_byPlace_18 (by decide) (fun c_13 => ?_) (fun c_13 => ?_)
        · skip
          have c_13 : i = k := (nI_eq (a := i) (b := k) (by omega) (by omega)).mp c_13
          refine lv_iload hx hb dX8_byPlace_38 (lv_at hl 5 rfl) ?_
          refine lv_iload_n hx hb dX8_byPlace_40 rfl (lv_at hl 0 rfl) ?_
          refine lv_icmp_eq (tgt := 63) hx hb dX8_byPlace_41 (by decide) (fun c_14 => ?_) (fun c_14 => ?_)
          · skip
            have c_14 : i = k := (nI_eq (a := i) (b := k) (by omega) (by omega)).mp c_14
            refine lv_iinc (v := nI (i + 1)) (lv' := [(5, .int (nI (i + 1))), (0, .int (nI k)), (1, .int v), (2, .ref ca), (3, .int x3), (4, .int x4)]) hx hb dX8_byPlace_63 hl (k := 5) rfl (nI_add i 1) (by decide) rfl (fun ls hl => ?_)
            refine lv_goto (tgt := 8) hx hb dX8_byPlace_66 (by decide) ?_
            exact ih_8_1 x3 x4 (i + 1) (by omega) (by omega) _ _ (hP.sub [0] rfl) (hD.sub [0] (by decide) rfl) hS ls (lv_sub hl [1, 2, 3, 4, 5, 0] rfl)
          · skip
            have c_14 : ¬ i = k := fun z => c_14 ((nI_eq (a := i) (b := k) (by omega) (by omega)).mpr z)
            refine lv_iload hx hb dX8_byPlace_44 (lv_at hl 5 rfl) ?_
            refine lv_iconst (v := nI 4) hx hb dX8_byPlace_46 (by decide) ?_
            refine lv_irem hx hb dX8_byPlace_47 (nI_ne0 (by omega) (by omega)) ?_
            refine lv_toe (pk_rem (a := i) (d := 4) (by omega) (by omega) (by omega)) ?_
            refine lv_iload_n hx hb dX8_byPlace_48 rfl (lv_at hl 0 rfl) ?_
            refine lv_iconst (v := nI 4) hx hb dX8_byPlace_49 (by decide) ?_
            refine lv_irem hx hb dX8_byPlace_50 (nI_ne0 (by omega) (by omega)) ?_
            refine lv_toe (pk_rem (a := k) (d := 4) (by omega) (by omega) (by omega)) ?_
            refine lv_icmp_ne (tgt := 63) hx hb dX8_byPlace_51 (by decide) (fun c_15 => ?_) (fun c_15 => ?_)
            · skip
              have c_15 : ¬ (i % 4) = (k % 4) := fun z => c_15 ((nI_eq (a := i % 4) (b := k % 4) (by omega) (by omega)).mpr z)
              refine lv_iinc (v := nI (i + 1)) (lv' := [(5, .int (nI (i + 1))), (0, .int (nI k)), (1, .int v), (2, .ref ca), (3, .int x3), (4, .int x4)]) hx hb dX8_byPlace_63 hl (k := 5) rfl (nI_add i 1) (by decide) rfl (fun ls hl => ?_)
              refine lv_goto (tgt := 8) hx hb dX8_byPlace_66 (by decide) ?_
              exact ih_8_1 x3 x4 (i + 1) (by omega) (by omega) _ _ (hP.sub [0] rfl) (hD.sub [0] (by decide) rfl) hS ls (lv_sub hl [1, 2, 3, 4, 5, 0] rfl)
            · skip
              have c_15 : (i % 4) = (k % 4) := (nI_eq (a := i % 4) (b := k % 4) (by omega) (by omega)).mp c_15
              refine lv_iload hx hb dX8_byPlace_54 (lv_at hl 4 rfl) ?_
              refine lv_aload_n hx hb dX8_byPlace_56 rfl (lv_at hl 2 rfl) ?_
              refine lv_iload hx hb dX8_byPlace_57 (lv_at hl 5 rfl) ?_
              refine va_iald (D := gD G) (cA := gyI G) (n := 16) (f := f) hx hb hK hP 0 0 rfl rfl (vp_in_nI (n := i) (N := 16) (by omega) (by omega)) dX8_byPlace_59 ?_
              refine lv_topi (fun w_16 ew_16 => ?_)
              refine lv_ior hx hb dX8_byPlace_60 ?_
              refine lv_topi (fun w_17 ew_17 => ?_)
              refine lv_istore (lv' := [(4, .int w_17), (0, .int (nI k)), (1, .int v), (2, .ref ca), (3, .int x3), (5, .int (nI i))]) hx hb dX8_byPlace_61 hl (by decide) rfl (fun ls hl => ?_)
              refine lv_iinc (v := nI (i + 1)) (lv' := [(5, .int (nI (i + 1))), (4, .int w_17), (0, .int (nI k)), (1, .int v), (2, .ref ca), (3, .int x3)]) hx hb dX8_byPlace_63 hl (k := 5) rfl (nI_add i 1) (by decide) rfl (fun ls hl => ?_)
              refine lv_goto (tgt := 8) hx hb dX8_byPlace_66 (by decide) ?_
              exact ih_8_1 x3 w_17 (i + 1) (by omega) (by omega) _ _ (hP.sub [0] rfl) (hD.sub [0] (by decide) rfl) hS ls (lv_sub hl [2, 3, 4, 5, 1, 0] rfl)
        · skip
          have c_13 : ¬ i = k := fun z => c_13 ((nI_eq (a := i) (b := k) (by omega) (by omega)).mpr z)
          refine lv_iload hx hb dX8_byPlace_21 (lv_at hl 5 rfl) ?_
          refine lv_iconst (v := nI 4) hx hb dX8_byPlace_23 (by decide) ?_
          refine lv_idiv hx hb dX8_byPlace_24 (nI_ne0 (by omega) (by omega)) ?_
          refine lv_toe (pk_div (a := i) (d := 4) (by omega) (by omega) (by omega)) ?_
          refine lv_iload_n hx hb dX8_byPlace_25 rfl (lv_at hl 0 rfl) ?_
          refine lv_iconst (v := nI 4) hx hb dX8_byPlace_26 (by decide) ?_
          refine lv_idiv hx hb dX8_byPlace_27 (nI_ne0 (by omega) (by omega)) ?_
          refine lv_toe (pk_div (a := k) (d := 4) (by omega) (by omega) (by omega)) ?_
          refine lv_icmp_ne (tgt := 38) hx hb dX8_byPlace_28 (by decide) (fun c_18 => ?_) (fun c_18 => ?_)
          · skip
            have c_18 : ¬ (i / 4) = (k / 4) := fun z => c_18 ((nI_eq (a := i / 4) (b := k / 4) (by omega) (by omega)).mpr z)
            refine lv_iload hx hb dX8_byPlace_38 (lv_at hl 5 rfl) ?_
            refine lv_iload_n hx hb dX8_byPlace_40 rfl (lv_at hl 0 rfl) ?_
            refine lv_icmp_eq (tgt := 63) hx hb dX8_byPlace_41 (by decide) (fun c_19 => ?_) (fun c_19 => ?_)
            · skip
              have c_19 : i = k := (nI_eq (a := i) (b := k) (by omega) (by omega)).mp c_19
              refine lv_iinc (v := nI (i + 1)) (lv' := [(5, .int (nI (i + 1))), (0, .int (nI k)), (1, .int v), (2, .ref ca), (3, .int x3), (4, .int x4)]) hx hb dX8_byPlace_63 hl (k := 5) rfl (nI_add i 1) (by decide) rfl (fun ls hl => ?_)
              refine lv_goto (tgt := 8) hx hb dX8_byPlace_66 (by decide) ?_
              exact ih_8_1 x3 x4 (i + 1) (by omega) (by omega) _ _ (hP.sub [0] rfl) (hD.sub [0] (by decide) rfl) hS ls (lv_sub hl [1, 2, 3, 4, 5, 0] rfl)
            · skip
              have c_19 : ¬ i = k := fun z => c_19 ((nI_eq (a := i) (b := k) (by omega) (by omega)).mpr z)
              refine lv_iload hx hb dX8_byPlace_44 (lv_at hl 5 rfl) ?_
              refine lv_iconst (v := nI 4) hx hb dX8_byPlace_46 (by decide) ?_
              refine lv_irem hx hb dX8_byPlace_47 (nI_ne0 (by omega) (by omega)) ?_
              refine lv_toe (pk_rem (a := i) (d := 4) (by omega) (by omega) (by omega)) ?_
              refine lv_iload_n hx hb dX8_byPlace_48 rfl (lv_at hl 0 rfl) ?_
              refine lv_iconst (v := nI 4) hx hb dX8_byPlace_49 (by decide) ?_
              refine lv_irem hx hb dX8_byPlace_50 (nI_ne0 (by omega) (by omega)) ?_
              refine lv_toe (pk_rem (a := k) (d := 4) (by omega) (by omega) (by omega)) ?_
              refine lv_icmp_ne (tgt := 63) hx hb dX8_byPlace_51 (by decide) (fun c_20 => ?_) (fun c_20 => ?_)
              · skip
                have c_20 : ¬ (i % 4) = (k % 4) := fun z => c_20 ((nI_eq (a := i % 4) (b := k % 4) (by omega) (by omega)).mpr z)
                refine lv_iinc (v := nI (i + 1)) (lv' := [(5, .int (nI (i + 1))), (0, .int (nI k)), (1, .int v), (2, .ref ca), (3, .int x3), (4, .int x4)]) hx hb dX8_byPlace_63 hl (k := 5) rfl (nI_add i 1) (by decide) rfl (fun ls hl => ?_)
                refine lv_goto (tgt := 8) hx hb dX8_byPlace_66 (by decide) ?_
                exact ih_8_1 x3 x4 (i + 1) (by omega) (by omega) _ _ (hP.sub [0] rfl) (hD.sub [0] (by decide) rfl) hS ls (lv_sub hl [1, 2, 3, 4, 5, 0] rfl)
              · skip
                have c_20 : (i % 4) = (k % 4) := (nI_eq (a := i % 4) (b := k % 4) (by omega) (by omega)).mp c_20
                refine lv_iload hx hb dX8_byPlace_54 (lv_at hl 4 rfl) ?_
                refine lv_aload_n hx hb dX8_byPlace_56 rfl (lv_at hl 2 rfl) ?_
                refine lv_iload hx hb dX8_byPlace_57 (lv_at hl 5 rfl) ?_
                refine va_iald (D := gD G) (cA := gyI G) (n := 16) (f := f) hx hb hK hP 0 0 rfl rfl (vp_in_nI (n := i) (N := 16) (by omega) (by omega)) dX8_byPlace_59 ?_
                refine lv_topi (fun w_21 ew_21 => ?_)
                refine lv_ior hx hb dX8_byPlace_60 ?_
                refine lv_topi (fun w_22 ew_22 => ?_)
                refine lv_istore (lv' := [(4, .int w_22), (0, .int (nI k)), (1, .int v), (2, .ref ca), (3, .int x3), (5, .int (nI i))]) hx hb dX8_byPlace_61 hl (by decide) rfl (fun ls hl => ?_)
                refine lv_iinc (v := nI (i + 1)) (lv' := [(5, .int (nI (i + 1))), (4, .int w_22), (0, .int (nI k)), (1, .int v), (2, .ref ca), (3, .int x3)]) hx hb dX8_byPlace_63 hl (k := 5) rfl (nI_add i 1) (by decide) rfl (fun ls hl => ?_)
                refine lv_goto (tgt := 8) hx hb dX8_byPlace_66 (by decide) ?_
                exact ih_8_1 x3 w_22 (i + 1) (by omega) (by omega) _ _ (hP.sub [0] rfl) (hD.sub [0] (by decide) rfl) hS ls (lv_sub hl [2, 3, 4, 5, 1, 0] rfl)
          · skip
            have c_18 : (i / 4) = (k / 4) := (nI_eq (a := i / 4) (b := k / 4) (by omega) (by omega)).mp c_18
            refine lv_iload_n hx hb dX8_byPlace_31 rfl (lv_at hl 3 rfl) ?_
            refine lv_aload_n hx hb dX8_byPlace_32 rfl (lv_at hl 2 rfl) ?_
            refine lv_iload hx hb dX8_byPlace_33 (lv_at hl 5 rfl) ?_
            refine va_iald (D := gD G) (cA := gyI G) (n := 16) (f := f) hx hb hK hP 0 0 rfl rfl (vp_in_nI (n := i) (N := 16) (by omega) (by omega)) dX8_byPlace_35 ?_
            refine lv_topi (fun w_23 ew_23 => ?_)
            refine lv_ior hx hb dX8_byPlace_36 ?_
            refine lv_topi (fun w_24 ew_24 => ?_)
            refine lv_istore_n (lv' := [(3, .int w_24), (0, .int (nI k)), (1, .int v), (2, .ref ca), (4, .int x4), (5, .int (nI i))]) hx hb dX8_byPlace_37 rfl hl (by decide) rfl (fun ls hl => ?_)
            refine lv_iload hx hb dX8_byPlace_38 (lv_at hl 5 rfl) ?_
            refine lv_iload_n hx hb dX8_byPlace_40 rfl (lv_at hl 1 rfl) ?_
            refine lv_icmp_eq (tgt := 63) hx hb dX8_byPlace_41 (by decide) (fun c_25 => ?_) (fun c_25 => ?_)
            · skip
              have c_25 : i = k := (nI_eq (a := i) (b := k) (by omega) (by omega)).mp c_25
              refine lv_iinc (v := nI (i + 1)) (lv' := [(5, .int (nI (i + 1))), (3, .int w_24), (0, .int (nI k)), (1, .int v), (2, .ref ca), (4, .int x4)]) hx hb dX8_byPlace_63 hl (k := 5) rfl (nI_add i 1) (by decide) rfl (fun ls hl => ?_)
              refine lv_goto (tgt := 8) hx hb dX8_byPlace_66 (by decide) ?_
              exact ih_8_1 w_24 x4 (i + 1) (by omega) (by omega) _ _ (hP.sub [0] rfl) (hD.sub [0] (by decide) rfl) hS ls (lv_sub hl [2, 3, 4, 1, 5, 0] rfl)
            · skip
              have c_25 : ¬ i = k := fun z => c_25 ((nI_eq (a := i) (b := k) (by omega) (by omega)).mpr z)
              refine lv_iload hx hb dX8_byPlace_44 (lv_at hl 5 rfl) ?_
              refine lv_iconst (v := nI 4) hx hb dX8_byPlace_46 (by decide) ?_
              refine lv_irem hx hb dX8_byPlace_47 (nI_ne0 (by omega) (by omega)) ?_
              refine lv_toe (pk_rem (a := i) (d := 4) (by omega) (by omega) (by omega)) ?_
              refine lv_iload_n hx hb dX8_byPlace_48 rfl (lv_at hl 1 rfl) ?_
              refine lv_iconst (v := nI 4) hx hb dX8_byPlace_49 (by decide) ?_
              refine lv_irem hx hb dX8_byPlace_50 (nI_ne0 (by omega) (by omega)) ?_
              refine lv_toe (pk_rem (a := k) (d := 4) (by omega) (by omega) (by omega)) ?_
              refine lv_icmp_ne (tgt := 63) hx hb dX8_byPlace_51 (by decide) (fun c_26 => ?_) (fun c_26 => ?_)
              · skip
                have c_26 : ¬ (i % 4) = (k % 4) := fun z => c_26 ((nI_eq (a := i % 4) (b := k % 4) (by omega) (by omega)).mpr z)
                refine lv_iinc (v := nI (i + 1)) (lv' := [(5, .int (nI (i + 1))), (3, .int w_24), (0, .int (nI k)), (1, .int v), (2, .ref ca), (4, .int x4)]) hx hb dX8_byPlace_63 hl (k := 5) rfl (nI_add i 1) (by decide) rfl (fun ls hl => ?_)
                refine lv_goto (tgt := 8) hx hb dX8_byPlace_66 (by decide) ?_
                exact ih_8_1 w_24 x4 (i + 1) (by omega) (by omega) _ _ (hP.sub [0] rfl) (hD.sub [0] (by decide) rfl) hS ls (lv_sub hl [2, 3, 4, 1, 5, 0] rfl)
              · skip
                have c_26 : (i % 4) = (k % 4) := (nI_eq (a := i % 4) (b := k % 4) (by omega) (by omega)).mp c_26
                refine lv_iload hx hb dX8_byPlace_54 (lv_at hl 4 rfl) ?_
                refine lv_aload_n hx hb dX8_byPlace_56 rfl (lv_at hl 3 rfl) ?_
                refine lv_iload hx hb dX8_byPlace_57 (lv_at hl 5 rfl) ?_
                refine va_iald (D := gD G) (cA := gyI G) (n := 16) (f := f) hx hb hK hP 0 0 rfl rfl (vp_in_nI (n := i) (N := 16) (by omega) (by omega)) dX8_byPlace_59 ?_
                refine lv_topi (fun w_27 ew_27 => ?_)
                refine lv_ior hx hb dX8_byPlace_60 ?_
                refine lv_topi (fun w_28 ew_28 => ?_)
                refine lv_istore (lv' := [(4, .int w_28), (3, .int w_24), (0, .int (nI k)), (1, .int v), (2, .ref ca), (5, .int (nI i))]) hx hb dX8_byPlace_61 hl (by decide) rfl (fun ls hl => ?_)
                refine lv_iinc (v := nI (i + 1)) (lv' := [(5, .int (nI (i + 1))), (4, .int w_28), (3, .int w_24), (0, .int (nI k)), (1, .int v), (2, .ref ca)]) hx hb dX8_byPlace_63 hl (k := 5) rfl (nI_add i 1) (by decide) rfl (fun ls hl => ?_)
                refine lv_goto (tgt := 8) hx hb dX8_byPlace_66 (by decide) ?_
                exact ih_8_1 w_24 w_28 (i + 1) (by omega) (by omega) _ _ (hP.sub [0] rfl) (hD.sub [0] (by decide) rfl) hS ls (lv_sub hl [3, 4, 5, 2, 1, 0] rfl)
  exact cut_8_1 (16 - 0 + 1) (nI 0) (nI 0) 0 (by omega) (Nat.lt_succ_self _) _ _ (hP.sub [0] rfl) (hD.sub [0] (by decide) rfl) hS ls (lv_sub hl [3, 4, 5, 2, 1, 0] rfl)
set_option maxHeartbeats 4000000 in
set_option maxRecDepth 100000 in
theorem c_byPair (l : Launch) (G : GG) (k : Nat) (ca : Nat) (f : Nat → Int32) (v : Int32) (hk : k < 16) : Mi l G yX8_byPair cX8_byPair 8 (some .boolean) ({ frames := 1, cells := 0, slots := 0, locals := 21 } : Room) [.int (nI k), .int v, .ref ca] [(ca, .inl (gyI G, 16, .inl f))] (fun (r : Int32) (u : Nat) => r = nI u ∧ u ≤ 1) (fun (u : Nat) => [(ca, .inl (gyI G, 16, .inl f))]) := by
  intro sz
  refine Met.ofW (cc := cX8_byPair) (maxL := 8) (ret := (some .boolean)) (by decide) rfl ?_
  intro p e s m args below meth c s₁ B9 hml hv
  obtain ⟨rfl, hsz, hP, hK, hD0, hE⟩ := hv
  have hx := B9.exec
  have hb := B9.bytes
  have hr := B9.returns
  have hts : ∀ w ∈ WW, w.before ([.int (nI k), .int v, .ref ca] : List Value).toArray s = true := fun w h => atoms_spec (ws := .code yX8_byPair cX8_byPair 8 (some .boolean) :: WW) B9.pre w (List.mem_cons_of_mem _ h)
  have hown : s.vm.findClass RX8 = some m.cls := findClass_of_methodNamed B9.named
  subst hsz
  have hD := hD0.self (sz := s.heap.size)
  generalize hAe : va_A [(ca, .inl (gyI G, 16, .inl f))] s.heap.size = A at hD hE ⊢
  have hA : ∀ q : Nat, s.heap.size ≤ q → A q := fun q h => by rw [← hAe]; exact Or.inr h
  have hl := lv_entry ([.int (nI k), .int v, .ref ca]) (n := 8) (Nat.le_of_ble_eq_true rfl)
  rw [lg_entry_eq]
  generalize (lg_sl ([.int (nI k), .int v, .ref ca]) ++ List.replicate (8 - (lg_sl ([.int (nI k), .int v, .ref ca])).length) Slot.unset).toArray = ls at hl ⊢
  have hl : lv_has ls 8 [(0, .int (nI k)), (1, .int v), (2, .ref ca)] := hl
  refine qgen (fun Q hQ => ?_)
  refine hgen (fun H locs hP hD hS => ?_) hP hD
  refine lv_iconst (v := nI 0) hx hb dX8_byPair_0 (by decide) ?_
  refine lv_istore_n (lv' := [(3, .int (nI 0)), (0, .int (nI k)), (1, .int v), (2, .ref ca)]) hx hb dX8_byPair_1 rfl hl (by decide) rfl (fun ls hl => ?_)
  have cut_2_1 : ∀ (n9 : Nat) (a : Nat) (ha : a ≤ 16) (hm9 : 16 - a < n9) (H : Heap) (locs : List Loc), va_P (gD G) vwCl [(ca, .inl (gyI G, 16, .inl f))] H → va_D A [(ca, .inl (gyI G, 16, .inl f))] → va_S A s.heap H locs → ∀ (ls : Array Slot), lv_has ls 8 [(0, .int (nI k)), (1, .int v), (2, .ref ca), (3, .int (nI a))] → W p l e ({ frames := 1, cells := 0, slots := 0, locals := 21 } : Room) s m ([.int (nI k), .int v, .ref ca] : List Value).toArray below meth c H locs 0 0 Q (F0 m 2 ls []) := by
    intro n9
    induction n9 with
    | zero =>
      intro a ha hm9
      exact absurd hm9 (Nat.not_lt_zero _)
    | succ n9 ih_2_1 =>
      intro a ha hm9 H locs hP hD hS ls hl
      refine lv_iload_n hx hb dX8_byPair_2 rfl (lv_at hl 3 rfl) ?_
      refine lv_bipush (v := nI 16) hx hb dX8_byPair_3 (by decide) ?_
      refine lv_icmp_ge (tgt := 149) hx hb dX8_byPair_5 (by decide) (fun c_1 => ?_) (fun c_1 => ?_)
      · skip
        have c_1 : 16 ≤ a := (nI_leI (a := 16) (b := a) (by omega) (by omega)).mp c_1
        refine lv_iconst (v := nI 0) hx hb dX8_byPair_149 (by decide) ?_
        have hP9 := hP.sub (ws' := [(ca, .inl (gyI G, 16, .inl f))]) [0] rfl
        have hD9 := hD.sub (ws' := [(ca, .inl (gyI G, 16, .inl f))]) [0] (by decide) rfl
        subst hQ
        exact W.zret (v := nI 0) hx hb hr (by decide) (fun t ht hW => ⟨⟨nI 0, 0, rfl, ⟨rfl, (show 0 ≤ 1 by omega)⟩, by rw [ht]; exact hP9, hD9⟩, hS.F ht⟩) hS.2.2 dX8_byPair_150
      · skip
        have c_1 : ¬ 16 ≤ a := fun z => c_1 ((nI_leI (a := 16) (b := a) (by omega) (by omega)).mpr z)
        refine lv_iload_n hx hb dX8_byPair_8 rfl (lv_at hl 3 rfl) ?_
        refine lv_iconst (v := nI 1) hx hb dX8_byPair_9 (by decide) ?_
        refine lv_iadd hx hb dX8_byPair_10 ?_
        refine lv_toe (nI_add a 1) ?_
        refine lv_istore (lv' := [(4, .int (nI (a + 1))), (0, .int (nI k)), (1, .int v), (2, .ref ca), (3, .int (nI a))]) hx hb dX8_byPair_11 hl (by decide) rfl (fun ls hl => ?_)
        have cut_13_2 : ∀ (n9 : Nat) (b : Nat) (hb2 : b ≤ 16) (hm9 : 16 - b < n9) (H : Heap) (locs : List Loc), va_P (gD G) vwCl [(ca, .inl (gyI G, 16, .inl f))] H → va_D A [(ca, .inl (gyI G, 16, .inl f))] → va_S A s.heap H locs → ∀ (ls : Array Slot), lv_has ls 8 [(0, .int (nI k)), (1, .int v), (2, .ref ca), (3, .int (nI a)), (4, .int (nI b))] → W p l e ({ frames := 1, cells := 0, slots := 0, locals := 21 } : Room) s m ([.int (nI k), .int v, .ref ca] : List Value).toArray below meth c H locs 0 0 Q (F0 m 13 ls []) := by
          intro n9
          induction n9 with
          | zero =>
            intro b hb2 hm9
            exact absurd hm9 (Nat.not_lt_zero _)
          | succ n9 ih_13_2 =>
            intro b hb2 hm9 H locs hP hD hS ls hl
            refine lv_iload hx hb dX8_byPair_13 (lv_at hl 4 rfl) ?_
            refine lv_bipush (v := nI 16) hx hb dX8_byPair_15 (by decide) ?_
            refine lv_icmp_ge (tgt := 143) hx hb dX8_byPair_17 (by decide) (fun c_2 => ?_) (fun c_2 => ?_)
            · skip
              have c_2 : 16 ≤ b := (nI_leI (a := 16) (b := b) (by omega) (by omega)).mp c_2
              refine lv_iinc (v := nI (a + 1)) (lv' := [(3, .int (nI (a + 1))), (0, .int (nI k)), (1, .int v), (2, .ref ca), (4, .int (nI b))]) hx hb dX8_byPair_143 hl (k := 3) rfl (nI_add a 1) (by decide) rfl (fun ls hl => ?_)
              refine lv_goto (tgt := 2) hx hb dX8_byPair_146 (by decide) ?_
              exact ih_2_1 (a + 1) (by omega) (by omega) _ _ (hP.sub [0] rfl) (hD.sub [0] (by decide) rfl) hS ls (lv_sub hl [1, 2, 3, 0] rfl)
            · skip
              have c_2 : ¬ 16 ≤ b := fun z => c_2 ((nI_leI (a := 16) (b := b) (by omega) (by omega)).mpr z)
              have cut_44_3 : ∀ (b5 : Nat) (hb5 : b5 ≤ 1) (H : Heap) (locs : List Loc), va_P (gD G) vwCl [(ca, .inl (gyI G, 16, .inl f))] H → va_D A [(ca, .inl (gyI G, 16, .inl f))] → va_S A s.heap H locs → ∀ (ls : Array Slot), lv_has ls 8 [(0, .int (nI k)), (1, .int v), (2, .ref ca), (3, .int (nI a)), (4, .int (nI b))] → W p l e ({ frames := 1, cells := 0, slots := 0, locals := 21 } : Room) s m ([.int (nI k), .int v, .ref ca] : List Value).toArray below meth c H locs 0 0 Q (F0 m 44 ls [.int (nI b5)]) := by
                intro b5 hb5 H locs hP hD hS ls hl
                refine lv_istore (lv' := [(5, .int (nI b5)), (0, .int (nI k)), (1, .int v), (2, .ref ca), (3, .int (nI a)), (4, .int (nI b))]) hx hb dX8_byPair_44 hl (by decide) rfl (fun ls hl => ?_)
                have cut_70_4 : ∀ (b6 : Nat) (hb6 : b6 ≤ 1) (H : Heap) (locs : List Loc), va_P (gD G) vwCl [(ca, .inl (gyI G, 16, .inl f))] H → va_D A [(ca, .inl (gyI G, 16, .inl f))] → va_S A s.heap H locs → ∀ (ls : Array Slot), lv_has ls 8 [(0, .int (nI k)), (1, .int v), (2, .ref ca), (3, .int (nI a)), (4, .int (nI b)), (5, .int (nI b5))] → W p l e ({ frames := 1, cells := 0, slots := 0, locals := 21 } : Room) s m ([.int (nI k), .int v, .ref ca] : List Value).toArray below meth c H locs 0 0 Q (F0 m 70 ls [.int (nI b6)]) := by
                  intro b6 hb6 H locs hP hD hS ls hl
                  refine lv_istore (lv' := [(6, .int (nI b6)), (0, .int (nI k)), (1, .int v), (2, .ref ca), (3, .int (nI a)), (4, .int (nI b)), (5, .int (nI b5))]) hx hb dX8_byPair_70 hl (by decide) rfl (fun ls hl => ?_)
                  have cut_97_5 : ∀ (b7 : Nat) (hb7 : b7 ≤ 1) (H : Heap) (locs : List Loc), va_P (gD G) vwCl [(ca, .inl (gyI G, 16, .inl f))] H → va_D A [(ca, .inl (gyI G, 16, .inl f))] → va_S A s.heap H locs → ∀ (ls : Array Slot), lv_has ls 8 [(0, .int (nI k)), (1, .int v), (2, .ref ca), (3, .int (nI a)), (4, .int (nI b)), (5, .int (nI b5)), (6, .int (nI b6))] → W p l e ({ frames := 1, cells := 0, slots := 0, locals := 21 } : Room) s m ([.int (nI k), .int v, .ref ca] : List Value).toArray below meth c H locs 0 0 Q (F0 m 97 ls [.int (nI b7)]) := by
                    intro b7 hb7 H locs hP hD hS ls hl
                    refine lv_istore (lv' := [(7, .int (nI b7)), (0, .int (nI k)), (1, .int v), (2, .ref ca), (3, .int (nI a)), (4, .int (nI b)), (5, .int (nI b5)), (6, .int (nI b6))]) hx hb dX8_byPair_97 hl (by decide) rfl (fun ls hl => ?_)
                    refine lv_iload_n hx hb dX8_byPair_99 rfl (lv_at hl 4 rfl) ?_
                    refine lv_iload_n hx hb dX8_byPair_100 rfl (lv_at hl 1 rfl) ?_
                    refine lv_icmp_eq (tgt := 137) hx hb dX8_byPair_101 (by decide) (fun c_3 => ?_) (fun c_3 => ?_)
                    · skip
                      have c_3 : a = k := (nI_eq (a := a) (b := k) (by omega) (by omega)).mp c_3
                      refine lv_iinc (v := nI (b + 1)) (lv' := [(4, .int (nI (b + 1))), (7, .int (nI b7)), (0, .int (nI k)), (1, .int v), (2, .ref ca), (3, .int (nI a)), (5, .int (nI b5)), (6, .int (nI b6))]) hx hb dX8_byPair_137 hl (k := 5) rfl (nI_add b 1) (by decide) rfl (fun ls hl => ?_)
                      refine lv_goto (tgt := 13) hx hb dX8_byPair_140 (by decide) ?_
                      exact ih_13_2 (b + 1) (by omega) (by omega) _ _ (hP.sub [0] rfl) (hD.sub [0] (by decide) rfl) hS ls (lv_sub hl [2, 3, 4, 5, 0] rfl)
                    · skip
                      have c_3 : ¬ a = k := fun z => c_3 ((nI_eq (a := a) (b := k) (by omega) (by omega)).mpr z)
                      refine lv_iload hx hb dX8_byPair_104 (lv_at hl 5 rfl) ?_
                      refine lv_iload_n hx hb dX8_byPair_106 rfl (lv_at hl 1 rfl) ?_
                      refine lv_icmp_eq (tgt := 137) hx hb dX8_byPair_107 (by decide) (fun c_4 => ?_) (fun c_4 => ?_)
                      · skip
                        have c_4 : b = k := (nI_eq (a := b) (b := k) (by omega) (by omega)).mp c_4
                        refine lv_iinc (v := nI (b + 1)) (lv' := [(4, .int (nI (b + 1))), (7, .int (nI b7)), (0, .int (nI k)), (1, .int v), (2, .ref ca), (3, .int (nI a)), (5, .int (nI b5)), (6, .int (nI b6))]) hx hb dX8_byPair_137 hl (k := 5) rfl (nI_add b 1) (by decide) rfl (fun ls hl => ?_)
                        refine lv_goto (tgt := 13) hx hb dX8_byPair_140 (by decide) ?_
                        exact ih_13_2 (b + 1) (by omega) (by omega) _ _ (hP.sub [0] rfl) (hD.sub [0] (by decide) rfl) hS ls (lv_sub hl [2, 3, 4, 5, 0] rfl)
                      · skip
                        have c_4 : ¬ b = k := fun z => c_4 ((nI_eq (a := b) (b := k) (by omega) (by omega)).mpr z)
                        refine lv_iload hx hb dX8_byPair_110 (lv_at hl 6 rfl) ?_
                        refine lv_if_ne (tgt := 120) hx hb dX8_byPair_112 (by decide) (fun c_5 => ?_) (fun c_5 => ?_)
                        · skip
                          have c_5 : ¬ b5 = 0 := fun z => c_5 ((nI_eq (a := b5) (b := 0) (by omega) (by omega)).mpr z)
                          refine lv_iload hx hb dX8_byPair_120 (lv_at hl 0 rfl) ?_
                          refine lv_if_eq (tgt := 137) hx hb dX8_byPair_122 (by decide) (fun c_6 => ?_) (fun c_6 => ?_)
                          · skip
                            have c_6 : b7 = 0 := (nI_eq (a := b7) (b := 0) (by omega) (by omega)).mp c_6
                            refine lv_iinc (v := nI (b + 1)) (lv' := [(4, .int (nI (b + 1))), (7, .int (nI b7)), (0, .int (nI k)), (1, .int v), (2, .ref ca), (3, .int (nI a)), (5, .int (nI b5)), (6, .int (nI b6))]) hx hb dX8_byPair_137 hl (k := 5) rfl (nI_add b 1) (by decide) rfl (fun ls hl => ?_)
                            refine lv_goto (tgt := 13) hx hb dX8_byPair_140 (by decide) ?_
                            exact ih_13_2 (b + 1) (by omega) (by omega) _ _ (hP.sub [0] rfl) (hD.sub [0] (by decide) rfl) hS ls (lv_sub hl [2, 3, 4, 5, 0] rfl)
                          · skip
                            have c_6 : ¬ b7 = 0 := fun z => c_6 ((nI_eq (a := b7) (b := 0) (by omega) (by omega)).mpr z)
                            refine lv_aload_n hx hb dX8_byPair_125 rfl (lv_at hl 3 rfl) ?_
                            refine lv_iload_n hx hb dX8_byPair_126 rfl (lv_at hl 4 rfl) ?_
                            refine va_iald (D := gD G) (cA := gyI G) (n := 16) (f := f) hx hb hK hP 0 0 rfl rfl (vp_in_nI (n := a) (N := 16) (by omega) (by omega)) dX8_byPair_127 ?_
                            refine lv_topi (fun w_7 ew_7 => ?_)
                            refine lv_iload_n hx hb dX8_byPair_128 rfl (lv_at hl 2 rfl) ?_
                            refine fin_i hP hD hS hA [] [0] (wr := [(ca, .inl (gyI G, 16, .inl f))]) rfl rfl (by decide) (by decide) (va_runSN (As := [.int w_7, .int v]) (rest := []) ⟨hx, hb, hml, hown, hts⟩ (c_isIn_any l G w_7 v H.size) ⟨(va_cnB 2 hts (gI q1078) rfl rfl rfl (hE.1.1 _ nq1096) (hts _ q52) (by decide +kernel) ⟨Nat.le_of_ble_eq_true rfl, Nat.le_of_ble_eq_true rfl⟩), hts _ q1077, trivial⟩ (preS hK hE hP hD hS hA [] rfl (by decide)) rfl rfl hl.1 rfl (lv_room (Nat.le_of_ble_eq_true rfl)) dX8_byPair_129 ⟨Nat.le_of_ble_eq_true rfl, Nat.le_of_ble_eq_true rfl⟩) (fun r_9 u9 hw_8 H locs hP hD hS => ?_)
                            have hP : va_P (gD G) vwCl [(ca, .inl (gyI G, 16, .inl f))] H := hP
                            have hD : va_D A [(ca, .inl (gyI G, 16, .inl f))] := hD
                            refine lv_if_eq (tgt := 137) hx hb dX8_byPair_132 (by decide) (fun c_10 => ?_) (fun c_10 => ?_)
                            · skip
                              refine lv_iinc (v := nI (b + 1)) (lv' := [(4, .int (nI (b + 1))), (7, .int (nI b7)), (0, .int (nI k)), (1, .int v), (2, .ref ca), (3, .int (nI a)), (5, .int (nI b5)), (6, .int (nI b6))]) hx hb dX8_byPair_137 hl (k := 5) rfl (nI_add b 1) (by decide) rfl (fun ls hl => ?_)
                              refine lv_goto (tgt := 13) hx hb dX8_byPair_140 (by decide) ?_
                              exact ih_13_2 (b + 1) (by omega) (by omega) _ _ (hP.sub [0] rfl) (hD.sub [0] (by decide) rfl) hS ls (lv_sub hl [2, 3, 4, 5, 0] rfl)
                            · skip
                              refine lv_iconst (v := nI 1) hx hb dX8_byPair_135 (by decide) ?_
                              have hP9 := hP.sub (ws' := [(ca, .inl (gyI G, 16, .inl f))]) [0] rfl
                              have hD9 := hD.sub (ws' := [(ca, .inl (gyI G, 16, .inl f))]) [0] (by decide) rfl
                              subst hQ
                              exact W.zret (v := nI 1) hx hb hr (by decide) (fun t ht hW => ⟨⟨nI 1, 1, rfl, ⟨rfl, (show 1 ≤ 1 by omega)⟩, by rw [ht]; exact hP9, hD9⟩, hS.F ht⟩) hS.2.2 dX8_byPair_136
                        · skip
                          have c_5 : b5 = 0 := (nI_eq (a := b5) (b := 0) (by omega) (by omega)).mp c_5
                          refine lv_iload hx hb dX8_byPair_115 (lv_at hl 7 rfl) ?_
                          refine lv_if_eq (tgt := 137) hx hb dX8_byPair_117 (by decide) (fun c_11 => ?_) (fun c_11 => ?_)
                          · skip
                            have c_11 : b6 = 0 := (nI_eq (a := b6) (b := 0) (by omega) (by omega)).mp c_11
                            refine lv_iinc (v := nI (b + 1)) (lv' := [(4, .int (nI (b + 1))), (7, .int (nI b7)), (0, .int (nI k)), (1, .int v), (2, .ref ca), (3, .int (nI a)), (5, .int (nI b5)), (6, .int (nI b6))]) hx hb dX8_byPair_137 hl (k := 5) rfl (nI_add b 1) (by decide) rfl (fun ls hl => ?_)
                            refine lv_goto (tgt := 13) hx hb dX8_byPair_140 (by decide) ?_
                            exact ih_13_2 (b + 1) (by omega) (by omega) _ _ (hP.sub [0] rfl) (hD.sub [0] (by decide) rfl) hS ls (lv_sub hl [2, 3, 4, 5, 0] rfl)
                          · skip
                            have c_11 : ¬ b6 = 0 := fun z => c_11 ((nI_eq (a := b6) (b := 0) (by omega) (by omega)).mpr z)
                            refine lv_iload hx hb dX8_byPair_120 (lv_at hl 0 rfl) ?_
                            refine lv_if_eq (tgt := 137) hx hb dX8_byPair_122 (by decide) (fun c_12 => ?_) (fun c_12 => ?_)
                            · skip
                              have c_12 : b7 = 0 := (nI_eq (a := b7) (b := 0) (by omega) (by omega)).mp c_12
                              refine lv_iinc (v := nI (b + 1)) (lv' := [(4, .int (nI (b + 1))), (7, .int (nI b7)), (0, .int (nI k)), (1, .int v), (2, .ref ca), (3, .int (nI a)), (5, .int (nI b5)), (6, .int (nI b6))]) hx hb dX8_byPair_137 hl (k := 5) rfl (nI_add b 1) (by decide) rfl (fun ls hl => ?_)
                              refine lv_goto (tgt := 13) hx hb dX8_byPair_140 (by decide) ?_
                              exact ih_13_2 (b + 1) (by omega) (by omega) _ _ (hP.sub [0] rfl) (hD.sub [0] (by decide) rfl) hS ls (lv_sub hl [2, 3, 4, 5, 0] rfl)
                            · skip
                              have c_12 : ¬ b7 = 0 := fun z => c_12 ((nI_eq (a := b7) (b := 0) (by omega) (by omega)).mpr z)
                              refine lv_aload_n hx hb dX8_byPair_125 rfl (lv_at hl 3 rfl) ?_
                              refine lv_iload_n hx hb dX8_byPair_126 rfl (lv_at hl 4 rfl) ?_
                              refine va_iald (D := gD G) (cA := gyI G) (n := 16) (f := f) hx hb hK hP 0 0 rfl rfl (vp_in_nI (n := a) (N := 16) (by omega) (by omega)) dX8_byPair_127 ?_
                              refine lv_topi (fun w_13 ew_13 => ?_)
                              refine lv_iload_n hx hb dX8_byPair_128 rfl (lv_at hl 2 rfl) ?_
                              refine fin_i hP hD hS hA [] [0] (wr := [(ca, .inl (gyI G, 16, .inl f))]) rfl rfl (by decide) (by decide) (va_runSN (As := [.int w_13, .int v]) (rest := []) ⟨hx, hb, hml, hown, hts⟩ (c_isIn_any l G w_13 v H.size) ⟨(va_cnB 2 hts (gI q1078) rfl rfl rfl (hE.1.1 _ nq1096) (hts _ q52) (by decide +kernel) ⟨Nat.le_of_ble_eq_true rfl, Nat.le_of_ble_eq_true rfl⟩), hts _ q1077, trivial⟩ (preS hK hE hP hD hS hA [] rfl (by decide)) rfl rfl hl.1 rfl (lv_room (Nat.le_of_ble_eq_true rfl)) dX8_byPair_129 ⟨Nat.le_of_ble_eq_true rfl, Nat.le_of_ble_eq_true rfl⟩) (fun r_15 u9 hw_14 H locs hP hD hS => ?_)
                              have hP : va_P (gD G) vwCl [(ca, .inl (gyI G, 16, .inl f))] H := hP
                              have hD : va_D A [(ca, .inl (gyI G, 16, .inl f))] := hD
                              refine lv_if_eq (tgt := 137) hx hb dX8_byPair_132 (by decide) (fun c_16 => ?_) (fun c_16 => ?_)
                              · skip
                                refine lv_iinc (v := nI (b + 1)) (lv' := [(4, .int (nI (b + 1))), (7, .int (nI b7)), (0, .int (nI k)), (1, .int v), (2, .ref ca), (3, .int (nI a)), (5, .int (nI b5)), (6, .int (nI b6))]) hx hb dX8_byPair_137 hl (k := 5) rfl (nI_add b 1) (by decide) rfl (fun ls hl => ?_)
                                refine lv_goto (tgt := 13) hx hb dX8_byPair_140 (by decide) ?_
                                exact ih_13_2 (b + 1) (by omega) (by omega) _ _ (hP.sub [0] rfl) (hD.sub [0] (by decide) rfl) hS ls (lv_sub hl [2, 3, 4, 5, 0] rfl)
                              · skip
                                refine lv_iconst (v := nI 1) hx hb dX8_byPair_135 (by decide) ?_
                                have hP9 := hP.sub (ws' := [(ca, .inl (gyI G, 16, .inl f))]) [0] rfl
                                have hD9 := hD.sub (ws' := [(ca, .inl (gyI G, 16, .inl f))]) [0] (by decide) rfl
                                subst hQ
                                exact W.zret (v := nI 1) hx hb hr (by decide) (fun t ht hW => ⟨⟨nI 1, 1, rfl, ⟨rfl, (show 1 ≤ 1 by omega)⟩, by rw [ht]; exact hP9, hD9⟩, hS.F ht⟩) hS.2.2 dX8_byPair_136
                  refine lv_aload_n hx hb dX8_byPair_72 rfl (lv_at hl 3 rfl) ?_
                  refine lv_iload_n hx hb dX8_byPair_73 rfl (lv_at hl 4 rfl) ?_
                  refine va_iald (D := gD G) (cA := gyI G) (n := 16) (f := f) hx hb hK hP 0 0 rfl rfl (vp_in_nI (n := a) (N := 16) (by omega) (by omega)) dX8_byPair_74 ?_
                  refine lv_topi (fun w_17 ew_17 => ?_)
                  refine lv_aload_n hx hb dX8_byPair_75 rfl (lv_at hl 3 rfl) ?_
                  refine lv_iload hx hb dX8_byPair_76 (lv_at hl 5 rfl) ?_
                  refine va_iald (D := gD G) (cA := gyI G) (n := 16) (f := f) hx hb hK hP 0 0 rfl rfl (vp_in_nI (n := b) (N := 16) (by omega) (by omega)) dX8_byPair_78 ?_
                  refine lv_topi (fun w_18 ew_18 => ?_)
                  refine lv_icmp_ne (tgt := 96) hx hb dX8_byPair_79 (by decide) (fun c_19 => ?_) (fun c_19 => ?_)
                  · skip
                    refine lv_iconst (v := nI 0) hx hb dX8_byPair_96 (by decide) ?_
                    exact cut_97_5 0 (by omega)  _ _ (hP.sub [0] rfl) (hD.sub [0] (by decide) rfl) hS ls (lv_sub hl [1, 2, 3, 4, 5, 6, 0] rfl)
                  · skip
                    refine lv_aload_n hx hb dX8_byPair_82 rfl (lv_at hl 3 rfl) ?_
                    refine lv_iload_n hx hb dX8_byPair_83 rfl (lv_at hl 4 rfl) ?_
                    refine va_iald (D := gD G) (cA := gyI G) (n := 16) (f := f) hx hb hK hP 0 0 rfl rfl (vp_in_nI (n := a) (N := 16) (by omega) (by omega)) dX8_byPair_84 ?_
                    refine lv_topi (fun w_20 ew_20 => ?_)
                    refine fin_i hP hD hS hA [] [0] (wr := [(ca, .inl (gyI G, 16, .inl f))]) rfl rfl (by decide) (by decide) (va_runS (As := [.int w_20]) (rest := []) ⟨hx, hb, hml, hown, hts⟩ (c_J6_bitCount_0f7a4 l G w_20 H.size) (va_cwS 1 hts (gSt q1095 q277 q70 q278) rfl rfl rfl (by decide +kernel) ⟨Nat.le_of_ble_eq_true rfl, Nat.le_of_ble_eq_true rfl⟩) (preS hK hE hP hD hS hA [] rfl (by decide)) rfl rfl hl.1 rfl (lv_room (Nat.le_of_ble_eq_true rfl)) dX8_byPair_85 ⟨Nat.le_of_ble_eq_true rfl, Nat.le_of_ble_eq_true rfl⟩) (fun r_22 u9 hw_21 H locs hP hD hS => ?_)
                    have hP : va_P (gD G) vwCl [(ca, .inl (gyI G, 16, .inl f))] H := hP
                    have hD : va_D A [(ca, .inl (gyI G, 16, .inl f))] := hD
                    refine lv_iconst (v := nI 2) hx hb dX8_byPair_88 (by decide) ?_
                    refine lv_icmp_ne (tgt := 96) hx hb dX8_byPair_89 (by decide) (fun c_23 => ?_) (fun c_23 => ?_)
                    · skip
                      refine lv_iconst (v := nI 0) hx hb dX8_byPair_96 (by decide) ?_
                      exact cut_97_5 0 (by omega)  _ _ (hP.sub [0] rfl) (hD.sub [0] (by decide) rfl) hS ls (lv_sub hl [1, 2, 3, 4, 5, 6, 0] rfl)
                    · skip
                      refine lv_iconst (v := nI 1) hx hb dX8_byPair_92 (by decide) ?_
                      refine lv_goto (tgt := 97) hx hb dX8_byPair_93 (by decide) ?_
                      exact cut_97_5 1 (by omega)  _ _ (hP.sub [0] rfl) (hD.sub [0] (by decide) rfl) hS ls (lv_sub hl [1, 2, 3, 4, 5, 6, 0] rfl)
                refine lv_iload_n hx hb dX8_byPair_46 rfl (lv_at hl 4 rfl) ?_
                refine lv_iconst (v := nI 4) hx hb dX8_byPair_47 (by decide) ?_
                refine lv_irem hx hb dX8_byPair_48 (nI_ne0 (by omega) (by omega)) ?_
                refine lv_toe (pk_rem (a := a) (d := 4) (by omega) (by omega) (by omega)) ?_
                refine lv_iload_n hx hb dX8_byPair_49 rfl (lv_at hl 1 rfl) ?_
                refine lv_iconst (v := nI 4) hx hb dX8_byPair_50 (by decide) ?_
                refine lv_irem hx hb dX8_byPair_51 (nI_ne0 (by omega) (by omega)) ?_
                refine lv_toe (pk_rem (a := k) (d := 4) (by omega) (by omega) (by omega)) ?_
                refine lv_icmp_ne (tgt := 69) hx hb dX8_byPair_52 (by decide) (fun c_24 => ?_) (fun c_24 => ?_)
                · skip
                  have c_24 : ¬ (a % 4) = (k % 4) := fun z => c_24 ((nI_eq (a := a % 4) (b := k % 4) (by omega) (by omega)).mpr z)
                  refine lv_iconst (v := nI 0) hx hb dX8_byPair_69 (by decide) ?_
                  exact cut_70_4 0 (by omega)  _ _ (hP.sub [0] rfl) (hD.sub [0] (by decide) rfl) hS ls (lv_sub hl [1, 2, 3, 4, 5, 0] rfl)
                · skip
                  have c_24 : (a % 4) = (k % 4) := (nI_eq (a := a % 4) (b := k % 4) (by omega) (by omega)).mp c_24
                  refine lv_iload hx hb dX8_byPair_55 (lv_at hl 5 rfl) ?_
                  refine lv_iconst (v := nI 4) hx hb dX8_byPair_57 (by decide) ?_
                  refine lv_irem hx hb dX8_byPair_58 (nI_ne0 (by omega) (by omega)) ?_
                  refine lv_toe (pk_rem (a := b) (d := 4) (by omega) (by omega) (by omega)) ?_
                  refine lv_iload_n hx hb dX8_byPair_59 rfl (lv_at hl 1 rfl) ?_
                  refine lv_iconst (v := nI 4) hx hb dX8_byPair_60 (by decide) ?_
                  refine lv_irem hx hb dX8_byPair_61 (nI_ne0 (by omega) (by omega)) ?_
                  refine lv_toe (pk_rem (a := k) (d := 4) (by omega) (by omega) (by omega)) ?_
                  refine lv_icmp_ne (tgt := 69) hx hb dX8_byPair_62 (by decide) (fun c_25 => ?_) (fun c_25 => ?_)
                  · skip
                    have c_25 : ¬ (b % 4) = (k % 4) := fun z => c_25 ((nI_eq (a := b % 4) (b := k % 4) (by omega) (by omega)).mpr z)
                    refine lv_iconst (v := nI 0) hx hb dX8_byPair_69 (by decide) ?_
                    exact cut_70_4 0 (by omega)  _ _ (hP.sub [0] rfl) (hD.sub [0] (by decide) rfl) hS ls (lv_sub hl [1, 2, 3, 4, 5, 0] rfl)
                  · skip
                    have c_25 : (b % 4) = (k % 4) := (nI_eq (a := b % 4) (b := k % 4) (by omega) (by omega)).mp c_25
                    refine lv_iconst (v := nI 1) hx hb dX8_byPair_65 (by decide) ?_
                    refine lv_goto (tgt := 70) hx hb dX8_byPair_66 (by decide) ?_
                    exact cut_70_4 1 (by omega)  _ _ (hP.sub [0] rfl) (hD.sub [0] (by decide) rfl) hS ls (lv_sub hl [1, 2, 3, 4, 5, 0] rfl)
              refine lv_iload_n hx hb dX8_byPair_20 rfl (lv_at hl 3 rfl) ?_
              refine lv_iconst (v := nI 4) hx hb dX8_byPair_21 (by decide) ?_
              refine lv_idiv hx hb dX8_byPair_22 (nI_ne0 (by omega) (by omega)) ?_
              refine lv_toe (pk_div (a := a) (d := 4) (by omega) (by omega) (by omega)) ?_
              refine lv_iload_n hx hb dX8_byPair_23 rfl (lv_at hl 0 rfl) ?_
              refine lv_iconst (v := nI 4) hx hb dX8_byPair_24 (by decide) ?_
              refine lv_idiv hx hb dX8_byPair_25 (nI_ne0 (by omega) (by omega)) ?_
              refine lv_toe (pk_div (a := k) (d := 4) (by omega) (by omega) (by omega)) ?_
              refine lv_icmp_ne (tgt := 43) hx hb dX8_byPair_26 (by decide) (fun c_26 => ?_) (fun c_26 => ?_)
              · skip
                have c_26 : ¬ (a / 4) = (k / 4) := fun z => c_26 ((nI_eq (a := a / 4) (b := k / 4) (by omega) (by omega)).mpr z)
                refine lv_iconst (v := nI 0) hx hb dX8_byPair_43 (by decide) ?_
                exact cut_44_3 0 (by omega)  _ _ (hP.sub [0] rfl) (hD.sub [0] (by decide) rfl) hS ls (lv_sub hl [0, 1, 2, 3, 4] rfl)
              · skip
                have c_26 : (a / 4) = (k / 4) := (nI_eq (a := a / 4) (b := k / 4) (by omega) (by omega)).mp c_26
                refine lv_iload hx hb dX8_byPair_29 (lv_at hl 4 rfl) ?_
                refine lv_iconst (v := nI 4) hx hb dX8_byPair_31 (by decide) ?_
                refine lv_idiv hx hb dX8_byPair_32 (nI_ne0 (by omega) (by omega)) ?_
                refine lv_toe (pk_div (a := b) (d := 4) (by omega) (by omega) (by omega)) ?_
                refine lv_iload_n hx hb dX8_byPair_33 rfl (lv_at hl 0 rfl) ?_
                refine lv_iconst (v := nI 4) hx hb dX8_byPair_34 (by decide) ?_
                refine lv_idiv hx hb dX8_byPair_35 (nI_ne0 (by omega) (by omega)) ?_
                refine lv_toe (pk_div (a := k) (d := 4) (by omega) (by omega) (by omega)) ?_
                refine lv_icmp_ne (tgt := 43) hx hb dX8_byPair_36 (by decide) (fun c_27 => ?_) (fun c_27 => ?_)
                · skip
                  have c_27 : ¬ (b / 4) = (k / 4) := fun z => c_27 ((nI_eq (a := b / 4) (b := k / 4) (by omega) (by omega)).mpr z)
                  refine lv_iconst (v := nI 0) hx hb dX8_byPair_43 (by decide) ?_
                  exact cut_44_3 0 (by omega)  _ _ (hP.sub [0] rfl) (hD.sub [0] (by decide) rfl) hS ls (lv_sub hl [0, 1, 2, 3, 4] rfl)
                · skip
                  have c_27 : (b / 4) = (k / 4) := (nI_eq (a := b / 4) (b := k / 4) (by omega) (by omega)).mp c_27
                  refine lv_iconst (v := nI 1) hx hb dX8_byPair_39 (by decide) ?_
                  refine lv_goto (tgt := 44) hx hb dX8_byPair_40 (by decide) ?_
                  exact cut_44_3 1 (by omega)  _ _ (hP.sub [0] rfl) (hD.sub [0] (by decide) rfl) hS ls (lv_sub hl [0, 1, 2, 3, 4] rfl)
        exact cut_13_2 (16 - (a + 1) + 1) (a + 1) (by omega) (Nat.lt_succ_self _) _ _ (hP.sub [0] rfl) (hD.sub [0] (by decide) rfl) hS ls (lv_sub hl [1, 2, 3, 4, 0] rfl)
  exact cut_2_1 (16 - 0 + 1) 0 (by omega) (Nat.lt_succ_self _) _ _ (hP.sub [0] rfl) (hD.sub [0] (by decide) rfl) hS ls (lv_sub hl [1, 2, 3, 0] rfl)
set_option maxHeartbeats 4000000 in
set_option maxRecDepth 100000 in
theorem c_taken_any (l : Launch) (G : GG) (pz : Nat) (gr : Nat) (mr : Nat) (cl : Nat) (gv : Nat → Int32) (k : Nat) (ca : Nat) (f : Nat → Int32) (v : Int32) (rl : Nat) (hgv : inB 16 1 gv) (hrl : rl < 4) (hk : k < 16) : Mi l G yX8_isTaken cX8_isTaken 5 (some .boolean) ({ frames := 2, cells := 0, slots := 0, locals := 48 } : Room) [.ref pz, .int (nI rl), .int (nI k), .int v, .ref ca] [(pz, .inr (13, [.ref gr, .ref mr, .ref cl])), (gr, .inl (gyI G, 16, .inl gv)), (ca, .inl (gyI G, 16, .inl f))] (fun (r : Int32) (u : Nat) => r = nI u ∧ u ≤ 1) (fun (u : Nat) => [(pz, .inr (13, [.ref gr, .ref mr, .ref cl])), (gr, .inl (gyI G, 16, .inl gv)), (ca, .inl (gyI G, 16, .inl f))]) := by
  intro sz
  refine Met.ofW (cc := cX8_isTaken) (maxL := 5) (ret := (some .boolean)) (by decide) rfl ?_
  intro p e s m args below meth c s₁ B9 hml hv
  obtain ⟨rfl, hsz, hP, hK, hD0, hE⟩ := hv
  have hx := B9.exec
  have hb := B9.bytes
  have hr := B9.returns
  have hts : ∀ w ∈ WW, w.before ([.ref pz, .int (nI rl), .int (nI k), .int v, .ref ca] : List Value).toArray s = true := fun w h => atoms_spec (ws := .code yX8_isTaken cX8_isTaken 5 (some .boolean) :: WW) B9.pre w (List.mem_cons_of_mem _ h)
  have hown : s.vm.findClass RX8 = some m.cls := findClass_of_methodNamed B9.named
  subst hsz
  have hD := hD0.self (sz := s.heap.size)
  generalize hAe : va_A [(pz, .inr (13, [.ref gr, .ref mr, .ref cl])), (gr, .inl (gyI G, 16, .inl gv)), (ca, .inl (gyI G, 16, .inl f))] s.heap.size = A at hD hE ⊢
  have hA : ∀ q : Nat, s.heap.size ≤ q → A q := fun q h => by rw [← hAe]; exact Or.inr h
  have hl := lv_entry ([.ref pz, .int (nI rl), .int (nI k), .int v, .ref ca]) (n := 5) (Nat.le_of_ble_eq_true rfl)
  rw [lg_entry_eq]
  generalize (lg_sl ([.ref pz, .int (nI rl), .int (nI k), .int v, .ref ca]) ++ List.replicate (5 - (lg_sl ([.ref pz, .int (nI rl), .int (nI k), .int v, .ref ca])).length) Slot.unset).toArray = ls at hl ⊢
  have hl : lv_has ls 5 [(0, .ref pz), (1, .int (nI rl)), (2, .int (nI k)), (3, .int v), (4, .ref ca)] := hl
  refine qgen (fun Q hQ => ?_)
  refine hgen (fun H locs hP hD hS => ?_) hP hD
  refine lv_iload_n hx hb dX8_isTaken_0 rfl (lv_at hl 1 rfl) ?_
  rcases (show rl = 0 ∨ rl = 1 ∨ rl = 2 ∨ rl = 3 by omega) with rfl | rfl | rfl | rfl
  · skip
    refine lv_tableIn (off := 31) (tgt := 32) hx hb dX8_isTaken_1 (by decide) (by decide) (by decide) (by decide) ?_
    refine lv_aload_n hx hb dX8_isTaken_32 rfl (lv_at hl 0 rfl) ?_
    refine va_get (D := gD G) (ci := 13) (v := .ref gr) (C := RX8) (T := TX8) (N := 3) hx hb hts fwX8 hown hK hP 0 rfl rfl 0 (by decide) (hts _ q974) (fun _ h9 => h9) rfl dX8_isTaken_33 ?_
    refine lv_iload_n hx hb dX8_isTaken_36 rfl (lv_at hl 2 rfl) ?_
    refine va_iald (D := gD G) (cA := gyI G) (n := 16) (f := gv) hx hb hK hP 1 0 rfl rfl (vp_in_nI (n := k) (N := 16) (by omega) (by omega)) dX8_isTaken_37 ?_
    obtain ⟨n_1, hn_1, en_1⟩ := hgv k (by omega)
    refine lv_toe (show gv (nI k).toNatClampNeg = nI n_1 by rw [nI_clamp (by omega)]; exact en_1) ?_
    refine lv_if_le (tgt := 55) hx hb dX8_isTaken_38 (by decide) (fun c_2 => ?_) (fun c_2 => ?_)
    · skip
      have c_2 : n_1 ≤ 0 := (nI_leI (a := n_1) (b := 0) (by omega) (by omega)).mp c_2
      refine lv_iconst (v := nI 0) hx hb dX8_isTaken_55 (by decide) ?_
      have hP9 := hP.sub (ws' := [(pz, .inr (13, [.ref gr, .ref mr, .ref cl])), (gr, .inl (gyI G, 16, .inl gv)), (ca, .inl (gyI G, 16, .inl f))]) [0, 1, 2] rfl
      have hD9 := hD.sub (ws' := [(pz, .inr (13, [.ref gr, .ref mr, .ref cl])), (gr, .inl (gyI G, 16, .inl gv)), (ca, .inl (gyI G, 16, .inl f))]) [0, 1, 2] (by decide) rfl
      subst hQ
      exact W.zret (v := nI 0) hx hb hr (by decide) (fun t ht hW => ⟨⟨nI 0, 0, rfl, ⟨rfl, (show 0 ≤ 1 by omega)⟩, by rw [ht]; exact hP9, hD9⟩, hS.F ht⟩) hS.2.2 dX8_isTaken_56
    · skip
      have c_2 : ¬ n_1 ≤ 0 := fun z => c_2 ((nI_leI (a := n_1) (b := 0) (by omega) (by omega)).mpr z)
      refine lv_aload_n hx hb dX8_isTaken_41 rfl (lv_at hl 0 rfl) ?_
      refine va_get (D := gD G) (ci := 13) (v := .ref gr) (C := RX8) (T := TX8) (N := 3) hx hb hts fwX8 hown hK hP 0 rfl rfl 0 (by decide) (hts _ q974) (fun _ h9 => h9) rfl dX8_isTaken_42 ?_
      refine lv_iload_n hx hb dX8_isTaken_45 rfl (lv_at hl 2 rfl) ?_
      refine va_iald (D := gD G) (cA := gyI G) (n := 16) (f := gv) hx hb hK hP 1 0 rfl rfl (vp_in_nI (n := k) (N := 16) (by omega) (by omega)) dX8_isTaken_46 ?_
      obtain ⟨n_3, hn_3, en_3⟩ := hgv k (by omega)
      refine lv_toe (show gv (nI k).toNatClampNeg = nI n_3 by rw [nI_clamp (by omega)]; exact en_3) ?_
      refine lv_iload_n hx hb dX8_isTaken_47 rfl (lv_at hl 3 rfl) ?_
      refine lv_icmp_eq (tgt := 55) hx hb dX8_isTaken_48 (by decide) (fun c_4 => ?_) (fun c_4 => ?_)
      · skip
        refine lv_iconst (v := nI 0) hx hb dX8_isTaken_55 (by decide) ?_
        have hP9 := hP.sub (ws' := [(pz, .inr (13, [.ref gr, .ref mr, .ref cl])), (gr, .inl (gyI G, 16, .inl gv)), (ca, .inl (gyI G, 16, .inl f))]) [0, 1, 2] rfl
        have hD9 := hD.sub (ws' := [(pz, .inr (13, [.ref gr, .ref mr, .ref cl])), (gr, .inl (gyI G, 16, .inl gv)), (ca, .inl (gyI G, 16, .inl f))]) [0, 1, 2] (by decide) rfl
        subst hQ
        exact W.zret (v := nI 0) hx hb hr (by decide) (fun t ht hW => ⟨⟨nI 0, 0, rfl, ⟨rfl, (show 0 ≤ 1 by omega)⟩, by rw [ht]; exact hP9, hD9⟩, hS.F ht⟩) hS.2.2 dX8_isTaken_56
      · skip
        refine lv_iconst (v := nI 1) hx hb dX8_isTaken_51 (by decide) ?_
        refine lv_goto (tgt := 56) hx hb dX8_isTaken_52 (by decide) ?_
        have hP9 := hP.sub (ws' := [(pz, .inr (13, [.ref gr, .ref mr, .ref cl])), (gr, .inl (gyI G, 16, .inl gv)), (ca, .inl (gyI G, 16, .inl f))]) [0, 1, 2] rfl
        have hD9 := hD.sub (ws' := [(pz, .inr (13, [.ref gr, .ref mr, .ref cl])), (gr, .inl (gyI G, 16, .inl gv)), (ca, .inl (gyI G, 16, .inl f))]) [0, 1, 2] (by decide) rfl
        subst hQ
        exact W.zret (v := nI 1) hx hb hr (by decide) (fun t ht hW => ⟨⟨nI 1, 1, rfl, ⟨rfl, (show 1 ≤ 1 by omega)⟩, by rw [ht]; exact hP9, hD9⟩, hS.F ht⟩) hS.2.2 dX8_isTaken_56
  · skip
    refine lv_tableIn (off := 56) (tgt := 57) hx hb dX8_isTaken_1 (by decide) (by decide) (by decide) (by decide) ?_
    refine lv_iload_n hx hb dX8_isTaken_57 rfl (lv_at hl 2 rfl) ?_
    refine lv_iload_n hx hb dX8_isTaken_58 rfl (lv_at hl 3 rfl) ?_
    refine lv_aload hx hb dX8_isTaken_59 (lv_at hl 4 rfl) ?_
    refine fin_i hP hD hS hA [2] [0, 1] (wr := [(pz, .inr (13, [.ref gr, .ref mr, .ref cl])), (gr, .inl (gyI G, 16, .inl gv))]) rfl rfl (by decide) (by decide) (va_runS (As := [.int (nI k), .int v, .ref ca]) (rest := []) ⟨hx, hb, hml, hown, hts⟩ (c_byOnly l G k ca f v (by omega) H.size) (va_cwS 3 hts (gSt q1083 q1084 q62 q1085) rfl rfl rfl (by decide +kernel) ⟨Nat.le_of_ble_eq_true rfl, Nat.le_of_ble_eq_true rfl⟩) (preS hK hE hP hD hS hA [2] rfl (by decide)) rfl rfl hl.1 rfl (lv_room (Nat.le_of_ble_eq_true rfl)) dX8_isTaken_61 ⟨Nat.le_of_ble_eq_true rfl, Nat.le_of_ble_eq_true rfl⟩) (fun r_7 u9 hw_6 H locs hP hD hS => ?_)
    obtain ⟨bn_5, rfl⟩ : ∃ z, z = u9 := ⟨_, rfl⟩
    obtain ⟨rfl, hbn_8⟩ := hw_6
    have hbn_8 : bn_5 ≤ 1 := hbn_8
    have hP : va_P (gD G) vwCl [(pz, .inr (13, [.ref gr, .ref mr, .ref cl])), (gr, .inl (gyI G, 16, .inl gv)), (ca, .inl (gyI G, 16, .inl f))] H := hP
    have hD : va_D A [(pz, .inr (13, [.ref gr, .ref mr, .ref cl])), (gr, .inl (gyI G, 16, .inl gv)), (ca, .inl (gyI G, 16, .inl f))] := hD
    have hP9 := hP.sub (ws' := [(pz, .inr (13, [.ref gr, .ref mr, .ref cl])), (gr, .inl (gyI G, 16, .inl gv)), (ca, .inl (gyI G, 16, .inl f))]) [0, 1, 2] rfl
    have hD9 := hD.sub (ws' := [(pz, .inr (13, [.ref gr, .ref mr, .ref cl])), (gr, .inl (gyI G, 16, .inl gv)), (ca, .inl (gyI G, 16, .inl f))]) [0, 1, 2] (by decide) rfl
    subst hQ
    exact W.zret (v := nI bn_5) hx hb hr (nar_b (by omega)) (fun t ht hW => ⟨⟨nI bn_5, bn_5, rfl, ⟨rfl, (show bn_5 ≤ 1 by omega)⟩, by rw [ht]; exact hP9, hD9⟩, hS.F ht⟩) hS.2.2 dX8_isTaken_64
  · skip
    refine lv_tableIn (off := 64) (tgt := 65) hx hb dX8_isTaken_1 (by decide) (by decide) (by decide) (by decide) ?_
    refine lv_iload_n hx hb dX8_isTaken_65 rfl (lv_at hl 2 rfl) ?_
    refine lv_iload_n hx hb dX8_isTaken_66 rfl (lv_at hl 3 rfl) ?_
    refine lv_aload hx hb dX8_isTaken_67 (lv_at hl 4 rfl) ?_
    refine fin_i hP hD hS hA [2] [0, 1] (wr := [(pz, .inr (13, [.ref gr, .ref mr, .ref cl])), (gr, .inl (gyI G, 16, .inl gv))]) rfl rfl (by decide) (by decide) (va_runS (As := [.int (nI k), .int v, .ref ca]) (rest := []) ⟨hx, hb, hml, hown, hts⟩ (c_byPlace l G k ca f v (by omega) H.size) (va_cwS 3 hts (gSt q1089 q1090 q62 q1091) rfl rfl rfl (by decide +kernel) ⟨Nat.le_of_ble_eq_true rfl, Nat.le_of_ble_eq_true rfl⟩) (preS hK hE hP hD hS hA [2] rfl (by decide)) rfl rfl hl.1 rfl (lv_room (Nat.le_of_ble_eq_true rfl)) dX8_isTaken_69 ⟨Nat.le_of_ble_eq_true rfl, Nat.le_of_ble_eq_true rfl⟩) (fun r_11 u9 hw_10 H locs hP hD hS => ?_)
    obtain ⟨bn_9, rfl⟩ : ∃ z, z = u9 := ⟨_, rfl⟩
    obtain ⟨rfl, hbn_12⟩ := hw_10
    have hbn_12 : bn_9 ≤ 1 := hbn_12
    have hP : va_P (gD G) vwCl [(pz, .inr (13, [.ref gr, .ref mr, .ref cl])), (gr, .inl (gyI G, 16, .inl gv)), (ca, .inl (gyI G, 16, .inl f))] H := hP
    have hD : va_D A [(pz, .inr (13, [.ref gr, .ref mr, .ref cl])), (gr, .inl (gyI G, 16, .inl gv)), (ca, .inl (gyI G, 16, .inl f))] := hD
    have hP9 := hP.sub (ws' := [(pz, .inr (13, [.ref gr, .ref mr, .ref cl])), (gr, .inl (gyI G, 16, .inl gv)), (ca, .inl (gyI G, 16, .inl f))]) [0, 1, 2] rfl
    have hD9 := hD.sub (ws' := [(pz, .inr (13, [.ref gr, .ref mr, .ref cl])), (gr, .inl (gyI G, 16, .inl gv)), (ca, .inl (gyI G, 16, .inl f))]) [0, 1, 2] (by decide) rfl
    subst hQ
    exact W.zret (v := nI bn_9) hx hb hr (nar_b (by omega)) (fun t ht hW => ⟨⟨nI bn_9, bn_9, rfl, ⟨rfl, (show bn_9 ≤ 1 by omega)⟩, by rw [ht]; exact hP9, hD9⟩, hS.F ht⟩) hS.2.2 dX8_isTaken_72
  · skip
    refine lv_tableIn (off := 72) (tgt := 73) hx hb dX8_isTaken_1 (by decide) (by decide) (by decide) (by decide) ?_
    refine lv_iload_n hx hb dX8_isTaken_73 rfl (lv_at hl 2 rfl) ?_
    refine lv_iload_n hx hb dX8_isTaken_74 rfl (lv_at hl 3 rfl) ?_
    refine lv_aload hx hb dX8_isTaken_75 (lv_at hl 4 rfl) ?_
    refine fin_i hP hD hS hA [2] [0, 1] (wr := [(pz, .inr (13, [.ref gr, .ref mr, .ref cl])), (gr, .inl (gyI G, 16, .inl gv))]) rfl rfl (by decide) (by decide) (va_runS (As := [.int (nI k), .int v, .ref ca]) (rest := []) ⟨hx, hb, hml, hown, hts⟩ (c_byPair l G k ca f v (by omega) H.size) (va_cwS 3 hts (gSt q1092 q1093 q62 q1094) rfl rfl rfl (by decide +kernel) ⟨Nat.le_of_ble_eq_true rfl, Nat.le_of_ble_eq_true rfl⟩) (preS hK hE hP hD hS hA [2] rfl (by decide)) rfl rfl hl.1 rfl (lv_room (Nat.le_of_ble_eq_true rfl)) dX8_isTaken_77 ⟨Nat.le_of_ble_eq_true rfl, Nat.le_of_ble_eq_true rfl⟩) (fun r_15 u9 hw_14 H locs hP hD hS => ?_)
    obtain ⟨bn_13, rfl⟩ : ∃ z, z = u9 := ⟨_, rfl⟩
    obtain ⟨rfl, hbn_16⟩ := hw_14
    have hbn_16 : bn_13 ≤ 1 := hbn_16
    have hP : va_P (gD G) vwCl [(pz, .inr (13, [.ref gr, .ref mr, .ref cl])), (gr, .inl (gyI G, 16, .inl gv)), (ca, .inl (gyI G, 16, .inl f))] H := hP
    have hD : va_D A [(pz, .inr (13, [.ref gr, .ref mr, .ref cl])), (gr, .inl (gyI G, 16, .inl gv)), (ca, .inl (gyI G, 16, .inl f))] := hD
    have hP9 := hP.sub (ws' := [(pz, .inr (13, [.ref gr, .ref mr, .ref cl])), (gr, .inl (gyI G, 16, .inl gv)), (ca, .inl (gyI G, 16, .inl f))]) [0, 1, 2] rfl
    have hD9 := hD.sub (ws' := [(pz, .inr (13, [.ref gr, .ref mr, .ref cl])), (gr, .inl (gyI G, 16, .inl gv)), (ca, .inl (gyI G, 16, .inl f))]) [0, 1, 2] (by decide) rfl
    subst hQ
    exact W.zret (v := nI bn_13) hx hb hr (nar_b (by omega)) (fun t ht hW => ⟨⟨nI bn_13, bn_13, rfl, ⟨rfl, (show bn_13 ≤ 1 by omega)⟩, by rw [ht]; exact hP9, hD9⟩, hS.F ht⟩) hS.2.2 dX8_isTaken_80
