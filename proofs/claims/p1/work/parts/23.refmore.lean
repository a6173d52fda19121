theorem q69 : (Jvm.Cond.initialized "java/lang/Number") ∈ WW := inW 69 (by decide +kernel) rfl
theorem q929 : (Jvm.Cond.fieldLink "PegboardryModel" (82 : Nat) "PegboardryModel" "z" "J") ∈ WW := inW 929 (by decide +kernel) rfl
theorem q971 : (Jvm.Cond.methodLink "PegboardryModel$Puzzle" (3 : Nat) ({ cls := "java/lang/Object", name := "<init>", desc := "()V" } : Jvm.MethodName)) ∈ WW := inW 971 (by decide +kernel) rfl
theorem q972 : (Jvm.Cond.classLink "PegboardryModel$Puzzle" (18 : Nat) "java/util/ArrayList") ∈ WW := inW 972 (by decide +kernel) rfl
theorem q973 : (Jvm.Cond.methodLink "PegboardryModel$Puzzle" (20 : Nat) ({ cls := "java/util/ArrayList", name := "<init>", desc := "()V" } : Jvm.MethodName)) ∈ WW := inW 973 (by decide +kernel) rfl
theorem nq975 : (Jvm.Cond.fieldLinkNest "PegboardryModel" (64 : Nat) "PegboardryModel$Puzzle" "givens" "[I" "PegboardryModel") ∈ NWs := inN 975 (by decide +kernel) rfl
theorem q976 : (Jvm.Cond.fieldLink "PegboardryModel$Puzzle" (15 : Nat) "PegboardryModel$Puzzle" "marks" "[I") ∈ WW := inW 976 (by decide +kernel) rfl
theorem q978 : (Jvm.Cond.fieldLink "PegboardryModel$Puzzle" (21 : Nat) "PegboardryModel$Puzzle" "cages" "Ljava/util/List;") ∈ WW := inW 978 (by decide +kernel) rfl
theorem q1047 : (Jvm.Cond.constantLong "PegboardryModel" (86 : Nat) (1103515245 : Int64)) ∈ WW := inW 1047 (by decide +kernel) rfl
theorem q1048 : (Jvm.Cond.constantLong "PegboardryModel" (88 : Nat) (12345 : Int64)) ∈ WW := inW 1048 (by decide +kernel) rfl
theorem q1049 : (Jvm.Cond.constantLong "PegboardryModel" (90 : Nat) (2147483648 : Int64)) ∈ WW := inW 1049 (by decide +kernel) rfl
theorem q1050 : (Jvm.Cond.constantLong "PegboardryModel" (92 : Nat) (65536 : Int64)) ∈ WW := inW 1050 (by decide +kernel) rfl
theorem q1054 : (Jvm.Cond.methodLink "PegboardryModel" (105 : Nat) ({ cls := "[I", name := "clone", desc := "()Ljava/lang/Object;" } : Jvm.MethodName)) ∈ WW := inW 1054 (by decide +kernel) rfl
theorem q1055 : (Jvm.Cond.sameMethod "[I" "java/lang/Object" "clone" "()Ljava/lang/Object;") ∈ WW := inW 1055 (by decide +kernel) rfl
theorem q1056 : (Jvm.Cond.native ({ cls := "java/lang/Object", name := "clone", desc := "()Ljava/lang/Object;" } : Jvm.MethodName)) ∈ WW := inW 1056 (by decide +kernel) rfl
theorem q1057 : (Jvm.Cond.instanceMethod ({ cls := "java/lang/Object", name := "clone", desc := "()Ljava/lang/Object;" } : Jvm.MethodName)) ∈ WW := inW 1057 (by decide +kernel) rfl
theorem q1058 : (Jvm.Cond.selects "[I" ({ cls := "[I", name := "clone", desc := "()Ljava/lang/Object;" } : Jvm.MethodName) ({ cls := "java/lang/Object", name := "clone", desc := "()Ljava/lang/Object;" } : Jvm.MethodName)) ∈ WW := inW 1058 (by decide +kernel) rfl
theorem nq1059 : (Jvm.Cond.castable "[I" "java/lang/Cloneable") ∈ NWs := inN 1059 (by decide +kernel) rfl
theorem q1060 : (Jvm.Cond.classLink "PegboardryModel" (106 : Nat) "[I") ∈ WW := inW 1060 (by decide +kernel) rfl
theorem q1179 : (Jvm.Cond.fieldLink "java/lang/Integer" (191 : Nat) "java/lang/Integer$IntegerCache" "high" "I") ∈ WW := inW 1179 (by decide +kernel) rfl
theorem q1181 : (Jvm.Cond.fieldLink "java/lang/Integer" (195 : Nat) "java/lang/Integer$IntegerCache" "cache" "[Ljava/lang/Integer;") ∈ WW := inW 1181 (by decide +kernel) rfl
theorem q1183 : (Jvm.Cond.classLink "java/lang/Integer" (1 : Nat) "java/lang/Integer") ∈ WW := inW 1183 (by decide +kernel) rfl
theorem q1184 : (Jvm.Cond.instantiable "java/lang/Integer" (1 : Nat)) ∈ WW := inW 1184 (by decide +kernel) rfl
theorem q1185 : (Jvm.Cond.methodLink "java/lang/Integer" (199 : Nat) ({ cls := "java/lang/Integer", name := "<init>", desc := "(I)V" } : Jvm.MethodName)) ∈ WW := inW 1185 (by decide +kernel) rfl
theorem q1186 : (Jvm.Cond.instanceMethod ({ cls := "java/lang/Integer", name := "<init>", desc := "(I)V" } : Jvm.MethodName)) ∈ WW := inW 1186 (by decide +kernel) rfl
theorem q1187 : (Jvm.Cond.code ({ cls := "java/lang/Integer", name := "<init>", desc := "(I)V" } : Jvm.MethodName) prog_22_method_23_code (2 : Nat) (Option.none : Option Jvm.ClassFile.FieldType)) ∈ WW := inW 1187 (by decide +kernel) rfl
theorem q1188 : (Jvm.Cond.methodLink "java/lang/Integer" (202 : Nat) ({ cls := "java/lang/Number", name := "<init>", desc := "()V" } : Jvm.MethodName)) ∈ WW := inW 1188 (by decide +kernel) rfl
theorem q1189 : (Jvm.Cond.instanceMethod ({ cls := "java/lang/Number", name := "<init>", desc := "()V" } : Jvm.MethodName)) ∈ WW := inW 1189 (by decide +kernel) rfl
theorem q1190 : (Jvm.Cond.code ({ cls := "java/lang/Number", name := "<init>", desc := "()V" } : Jvm.MethodName) prog_26_method_1_code (1 : Nat) (Option.none : Option Jvm.ClassFile.FieldType)) ∈ WW := inW 1190 (by decide +kernel) rfl
theorem q1191 : (Jvm.Cond.methodLink "java/lang/Number" (1 : Nat) ({ cls := "java/lang/Object", name := "<init>", desc := "()V" } : Jvm.MethodName)) ∈ WW := inW 1191 (by decide +kernel) rfl
theorem q1192 : (Jvm.Cond.fieldLink "java/lang/Integer" (205 : Nat) "java/lang/Integer" "value" "I") ∈ WW := inW 1192 (by decide +kernel) rfl
theorem dX10_draw_0 : decode cX10_draw 0 = .ok (.aload_n 0, 1) := by decide +kernel
theorem dX10_draw_1 : decode cX10_draw 1 = .ok (.aload_n 0, 1) := by decide +kernel
theorem dX10_draw_2 : decode cX10_draw 2 = .ok (.getfield 82, 3) := by decide +kernel
theorem dX10_draw_5 : decode cX10_draw 5 = .ok (.ldc2_w 86, 3) := by decide +kernel
theorem dX10_draw_8 : decode cX10_draw 8 = .ok (.lmul, 1) := by decide +kernel
theorem dX10_draw_9 : decode cX10_draw 9 = .ok (.ldc2_w 88, 3) := by decide +kernel
theorem dX10_draw_12 : decode cX10_draw 12 = .ok (.ladd, 1) := by decide +kernel
theorem dX10_draw_13 : decode cX10_draw 13 = .ok (.ldc2_w 90, 3) := by decide +kernel
theorem dX10_draw_16 : decode cX10_draw 16 = .ok (.lrem, 1) := by decide +kernel
theorem dX10_draw_17 : decode cX10_draw 17 = .ok (.putfield 82, 3) := by decide +kernel
theorem dX10_draw_20 : decode cX10_draw 20 = .ok (.aload_n 0, 1) := by decide +kernel
theorem dX10_draw_21 : decode cX10_draw 21 = .ok (.getfield 82, 3) := by decide +kernel
theorem dX10_draw_24 : decode cX10_draw 24 = .ok (.ldc2_w 92, 3) := by decide +kernel
theorem dX10_draw_27 : decode cX10_draw 27 = .ok (.ldiv, 1) := by decide +kernel
theorem dX10_draw_28 : decode cX10_draw 28 = .ok (.iload_n 1, 1) := by decide +kernel
theorem dX10_draw_29 : decode cX10_draw 29 = .ok (.i2l, 1) := by decide +kernel
theorem dX10_draw_30 : decode cX10_draw 30 = .ok (.lrem, 1) := by decide +kernel
theorem dX10_draw_31 : decode cX10_draw 31 = .ok (.l2i, 1) := by decide +kernel
theorem dX10_draw_32 : decode cX10_draw 32 = .ok (.ireturn, 1) := by decide +kernel
theorem dX10_changes_0 : decode cX10_changes 0 = .ok (.aload_n 0, 1) := by decide +kernel
theorem dX10_changes_1 : decode cX10_changes 1 = .ok (.getfield 64, 3) := by decide +kernel
theorem dX10_changes_4 : decode cX10_changes 4 = .ok (.invokevirtual 105, 3) := by decide +kernel
theorem dX10_changes_7 : decode cX10_changes 7 = .ok (.checkcast 106, 3) := by decide +kernel
theorem dX10_changes_10 : decode cX10_changes 10 = .ok (.astore 4, 2) := by decide +kernel
theorem dX10_changes_12 : decode cX10_changes 12 = .ok (.iconst 0, 1) := by decide +kernel
theorem dX10_changes_13 : decode cX10_changes 13 = .ok (.istore 5, 2) := by decide +kernel
theorem dX10_changes_15 : decode cX10_changes 15 = .ok (.iload 5, 2) := by decide +kernel
theorem dX10_changes_17 : decode cX10_changes 17 = .ok (.bipush 16, 2) := by decide +kernel
theorem dX10_changes_19 : decode cX10_changes 19 = .ok (.if_icmp .ge 104, 3) := by decide +kernel
theorem dX10_changes_123 : decode cX10_changes 123 = .ok (.return_, 1) := by decide +kernel
theorem dX10_changes_22 : decode cX10_changes 22 = .ok (.iload 5, 2) := by decide +kernel
theorem dX10_changes_24 : decode cX10_changes 24 = .ok (.iconst 4, 1) := by decide +kernel
theorem dX10_changes_25 : decode cX10_changes 25 = .ok (.idiv, 1) := by decide +kernel
theorem dX10_changes_26 : decode cX10_changes 26 = .ok (.istore 6, 2) := by decide +kernel
theorem dX10_changes_28 : decode cX10_changes 28 = .ok (.iload 5, 2) := by decide +kernel
theorem dX10_changes_30 : decode cX10_changes 30 = .ok (.iconst 4, 1) := by decide +kernel
theorem dX10_changes_31 : decode cX10_changes 31 = .ok (.irem, 1) := by decide +kernel
theorem dX10_changes_32 : decode cX10_changes 32 = .ok (.istore 7, 2) := by decide +kernel
theorem dX10_changes_34 : decode cX10_changes 34 = .ok (.iload_n 1, 1) := by decide +kernel
theorem dX10_changes_35 : decode cX10_changes 35 = .ok (.ifCond .ne 8, 3) := by decide +kernel
theorem dX10_changes_43 : decode cX10_changes 43 = .ok (.iload 6, 2) := by decide +kernel
theorem dX10_changes_45 : decode cX10_changes 45 = .ok (.iload_n 2, 1) := by decide +kernel
theorem dX10_changes_46 : decode cX10_changes 46 = .ok (.if_icmp .ne 7, 3) := by decide +kernel
theorem dX10_changes_53 : decode cX10_changes 53 = .ok (.iload 6, 2) := by decide +kernel
theorem dX10_changes_55 : decode cX10_changes 55 = .ok (.iload_n 3, 1) := by decide +kernel
theorem dX10_changes_56 : decode cX10_changes 56 = .ok (.if_icmp .ne 7, 3) := by decide +kernel
theorem dX10_changes_63 : decode cX10_changes 63 = .ok (.iload 6, 2) := by decide +kernel
theorem dX10_changes_65 : decode cX10_changes 65 = .ok (.istore 8, 2) := by decide +kernel
theorem dX10_changes_67 : decode cX10_changes 67 = .ok (.iload_n 1, 1) := by decide +kernel
theorem dX10_changes_68 : decode cX10_changes 68 = .ok (.ifCond .eq 8, 3) := by decide +kernel
theorem dX10_changes_76 : decode cX10_changes 76 = .ok (.iload 7, 2) := by decide +kernel
theorem dX10_changes_78 : decode cX10_changes 78 = .ok (.iload_n 2, 1) := by decide +kernel
theorem dX10_changes_79 : decode cX10_changes 79 = .ok (.if_icmp .ne 7, 3) := by decide +kernel
theorem dX10_changes_86 : decode cX10_changes 86 = .ok (.iload 7, 2) := by decide +kernel
theorem dX10_changes_88 : decode cX10_changes 88 = .ok (.iload_n 3, 1) := by decide +kernel
theorem dX10_changes_89 : decode cX10_changes 89 = .ok (.if_icmp .ne 7, 3) := by decide +kernel
theorem dX10_changes_96 : decode cX10_changes 96 = .ok (.iload 7, 2) := by decide +kernel
theorem dX10_changes_98 : decode cX10_changes 98 = .ok (.istore 9, 2) := by decide +kernel
theorem dX10_changes_100 : decode cX10_changes 100 = .ok (.aload_n 0, 1) := by decide +kernel
theorem dX10_changes_101 : decode cX10_changes 101 = .ok (.getfield 64, 3) := by decide +kernel
theorem dX10_changes_104 : decode cX10_changes 104 = .ok (.iload 5, 2) := by decide +kernel
theorem dX10_changes_106 : decode cX10_changes 106 = .ok (.aload 4, 2) := by decide +kernel
theorem dX10_changes_108 : decode cX10_changes 108 = .ok (.iload 8, 2) := by decide +kernel
theorem dX10_changes_110 : decode cX10_changes 110 = .ok (.iconst 4, 1) := by decide +kernel
theorem dX10_changes_111 : decode cX10_changes 111 = .ok (.imul, 1) := by decide +kernel
theorem dX10_changes_112 : decode cX10_changes 112 = .ok (.iload 9, 2) := by decide +kernel
theorem dX10_changes_114 : decode cX10_changes 114 = .ok (.iadd, 1) := by decide +kernel
theorem dX10_changes_115 : decode cX10_changes 115 = .ok (.iaload, 1) := by decide +kernel
theorem dX10_changes_116 : decode cX10_changes 116 = .ok (.iastore, 1) := by decide +kernel
theorem dX10_changes_117 : decode cX10_changes 117 = .ok (.iinc 5 1, 3) := by decide +kernel
theorem dX10_changes_120 : decode cX10_changes 120 = .ok (.goto (-105), 3) := by decide +kernel
theorem dX10_changes_92 : decode cX10_changes 92 = .ok (.iload_n 2, 1) := by decide +kernel
theorem dX10_changes_93 : decode cX10_changes 93 = .ok (.goto 5, 3) := by decide +kernel
theorem dX10_changes_82 : decode cX10_changes 82 = .ok (.iload_n 3, 1) := by decide +kernel
theorem dX10_changes_83 : decode cX10_changes 83 = .ok (.goto 15, 3) := by decide +kernel
theorem dX10_changes_71 : decode cX10_changes 71 = .ok (.iload 7, 2) := by decide +kernel
theorem dX10_changes_73 : decode cX10_changes 73 = .ok (.goto 25, 3) := by decide +kernel
theorem dX10_changes_59 : decode cX10_changes 59 = .ok (.iload_n 2, 1) := by decide +kernel
theorem dX10_changes_60 : decode cX10_changes 60 = .ok (.goto 5, 3) := by decide +kernel
theorem dX10_changes_49 : decode cX10_changes 49 = .ok (.iload_n 3, 1) := by decide +kernel
theorem dX10_changes_50 : decode cX10_changes 50 = .ok (.goto 15, 3) := by decide +kernel
theorem dX10_changes_38 : decode cX10_changes 38 = .ok (.iload 6, 2) := by decide +kernel
theorem dX10_changes_40 : decode cX10_changes 40 = .ok (.goto 25, 3) := by decide +kernel
theorem dX8_init_0 : decode cX8_init 0 = .ok (.aload_n 0, 1) := by decide +kernel
theorem dX8_init_1 : decode cX8_init 1 = .ok (.invokespecial 3, 3) := by decide +kernel
theorem dX8_init_4 : decode cX8_init 4 = .ok (.aload_n 0, 1) := by decide +kernel
theorem dX8_init_5 : decode cX8_init 5 = .ok (.bipush 16, 2) := by decide +kernel
theorem dX8_init_7 : decode cX8_init 7 = .ok (.newarray .int, 2) := by decide +kernel
theorem dX8_init_9 : decode cX8_init 9 = .ok (.putfield 9, 3) := by decide +kernel
theorem dX8_init_12 : decode cX8_init 12 = .ok (.aload_n 0, 1) := by decide +kernel
theorem dX8_init_13 : decode cX8_init 13 = .ok (.bipush 16, 2) := by decide +kernel
theorem dX8_init_15 : decode cX8_init 15 = .ok (.newarray .int, 2) := by decide +kernel
theorem dX8_init_17 : decode cX8_init 17 = .ok (.putfield 15, 3) := by decide +kernel
theorem dX8_init_20 : decode cX8_init 20 = .ok (.aload_n 0, 1) := by decide +kernel
theorem dX8_init_21 : decode cX8_init 21 = .ok (.new 18, 3) := by decide +kernel
theorem dX8_init_24 : decode cX8_init 24 = .ok (.dup, 1) := by decide +kernel
theorem dX8_init_25 : decode cX8_init 25 = .ok (.invokespecial 20, 3) := by decide +kernel
theorem dX8_init_28 : decode cX8_init 28 = .ok (.putfield 21, 3) := by decide +kernel
theorem dX8_init_31 : decode cX8_init 31 = .ok (.return_, 1) := by decide +kernel
theorem dJ7_fill_53178_0 : decode cJ7_fill_53178 0 = .ok (.iconst 0, 1) := by decide +kernel
theorem dJ7_fill_53178_1 : decode cJ7_fill_53178 1 = .ok (.istore_n 2, 1) := by decide +kernel
theorem dJ7_fill_53178_2 : decode cJ7_fill_53178 2 = .ok (.aload_n 0, 1) := by decide +kernel
theorem dJ7_fill_53178_3 : decode cJ7_fill_53178 3 = .ok (.arraylength, 1) := by decide +kernel
theorem dJ7_fill_53178_4 : decode cJ7_fill_53178 4 = .ok (.istore_n 3, 1) := by decide +kernel
theorem dJ7_fill_53178_5 : decode cJ7_fill_53178 5 = .ok (.iload_n 2, 1) := by decide +kernel
theorem dJ7_fill_53178_6 : decode cJ7_fill_53178 6 = .ok (.iload_n 3, 1) := by decide +kernel
theorem dJ7_fill_53178_7 : decode cJ7_fill_53178 7 = .ok (.if_icmp .ge 13, 3) := by decide +kernel
theorem dJ7_fill_53178_20 : decode cJ7_fill_53178 20 = .ok (.return_, 1) := by decide +kernel
theorem dJ7_fill_53178_10 : decode cJ7_fill_53178 10 = .ok (.aload_n 0, 1) := by decide +kernel
theorem dJ7_fill_53178_11 : decode cJ7_fill_53178 11 = .ok (.iload_n 2, 1) := by decide +kernel
theorem dJ7_fill_53178_12 : decode cJ7_fill_53178 12 = .ok (.iload_n 1, 1) := by decide +kernel
theorem dJ7_fill_53178_13 : decode cJ7_fill_53178 13 = .ok (.iastore, 1) := by decide +kernel
theorem dJ7_fill_53178_14 : decode cJ7_fill_53178 14 = .ok (.iinc 2 1, 3) := by decide +kernel
theorem dJ7_fill_53178_17 : decode cJ7_fill_53178 17 = .ok (.goto (-12), 3) := by decide +kernel
theorem dJxd2413_init_da8c8_0 : decode cJxd2413_init_da8c8 0 = .ok (.aload_n 0, 1) := by decide +kernel
theorem dJxd2413_init_da8c8_1 : decode cJxd2413_init_da8c8 1 = .ok (.invokespecial 1, 3) := by decide +kernel
theorem dJxd2413_init_da8c8_4 : decode cJxd2413_init_da8c8 4 = .ok (.return_, 1) := by decide +kernel
theorem dJ6_init_d00df_0 : decode cJ6_init_d00df 0 = .ok (.aload_n 0, 1) := by decide +kernel
theorem dJ6_init_d00df_1 : decode cJ6_init_d00df 1 = .ok (.invokespecial 202, 3) := by decide +kernel
theorem dJ6_init_d00df_4 : decode cJ6_init_d00df 4 = .ok (.aload_n 0, 1) := by decide +kernel
theorem dJ6_init_d00df_5 : decode cJ6_init_d00df 5 = .ok (.iload_n 1, 1) := by decide +kernel
theorem dJ6_init_d00df_6 : decode cJ6_init_d00df 6 = .ok (.putfield 205, 3) := by decide +kernel
theorem dJ6_init_d00df_9 : decode cJ6_init_d00df 9 = .ok (.return_, 1) := by decide +kernel
theorem dJ6_valueOf_2dffe_0 : decode cJ6_valueOf_2dffe 0 = .ok (.iload_n 0, 1) := by decide +kernel
theorem dJ6_valueOf_2dffe_1 : decode cJ6_valueOf_2dffe 1 = .ok (.bipush (-128), 2) := by decide +kernel
theorem dJ6_valueOf_2dffe_3 : decode cJ6_valueOf_2dffe 3 = .ok (.if_icmp .lt 20, 3) := by decide +kernel
theorem dJ6_valueOf_2dffe_23 : decode cJ6_valueOf_2dffe 23 = .ok (.new 1, 3) := by decide +kernel
theorem dJ6_valueOf_2dffe_26 : decode cJ6_valueOf_2dffe 26 = .ok (.dup, 1) := by decide +kernel
theorem dJ6_valueOf_2dffe_27 : decode cJ6_valueOf_2dffe 27 = .ok (.iload_n 0, 1) := by decide +kernel
theorem dJ6_valueOf_2dffe_28 : decode cJ6_valueOf_2dffe 28 = .ok (.invokespecial 199, 3) := by decide +kernel
theorem dJ6_valueOf_2dffe_31 : decode cJ6_valueOf_2dffe 31 = .ok (.areturn, 1) := by decide +kernel
theorem dJ6_valueOf_2dffe_6 : decode cJ6_valueOf_2dffe 6 = .ok (.iload_n 0, 1) := by decide +kernel
theorem dJ6_valueOf_2dffe_7 : decode cJ6_valueOf_2dffe 7 = .ok (.getstatic 191, 3) := by decide +kernel
theorem dJ6_valueOf_2dffe_10 : decode cJ6_valueOf_2dffe 10 = .ok (.if_icmp .gt 13, 3) := by decide +kernel
theorem dJ6_valueOf_2dffe_13 : decode cJ6_valueOf_2dffe 13 = .ok (.getstatic 195, 3) := by decide +kernel
theorem dJ6_valueOf_2dffe_16 : decode cJ6_valueOf_2dffe 16 = .ok (.iload_n 0, 1) := by decide +kernel
theorem dJ6_valueOf_2dffe_17 : decode cJ6_valueOf_2dffe 17 = .ok (.sipush 128, 3) := by decide +kernel
theorem dJ6_valueOf_2dffe_20 : decode cJ6_valueOf_2dffe 20 = .ok (.iadd, 1) := by decide +kernel
theorem dJ6_valueOf_2dffe_21 : decode cJ6_valueOf_2dffe 21 = .ok (.aaload, 1) := by decide +kernel
theorem dJ6_valueOf_2dffe_22 : decode cJ6_valueOf_2dffe 22 = .ok (.areturn, 1) := by decide +kernel
set_option maxHeartbeats 4000000 in
set_option maxRecDepth 100000 in
theorem c_X10_draw (l : Launch) (G : GG) (mo : Nat) (th : Int32) (al : Nat) (zn : Nat) (pf : Nat) (rs : Int32) (bn : Nat) (hz : zn < 2147483648) (hb1 : 1 ≤ bn) (hb2 : bn ≤ 16) : Mi l G yX10_draw cX10_draw 2 (some .int) ({ frames := 0, cells := 0, slots := 0, locals := 0 } : Room) [.ref mo, .int (nI bn)] [(mo, .inr (15, [.int th, .ref al, .long (lN zn), .null, .ref pf, .int rs]))] (fun (r : Int32) (u : Nat × Nat) => r = nI u.2 ∧ u.1 < 2147483648 ∧ u.2 < bn) (fun (u : Nat × Nat) => [(mo, .inr (15, [.int th, .ref al, .long (lN u.1), .null, .ref pf, .int rs]))]) := by
  intro sz
  refine Met.ofW (cc := cX10_draw) (maxL := 2) (ret := (some .int)) (by decide) rfl ?_
  intro p e s m args below meth c s₁ B9 hml hv
  obtain ⟨rfl, hsz, hP, hK, hD0, hE⟩ := hv
  have hx := B9.exec
  have hb := B9.bytes
  have hr := B9.returns
  have hts : ∀ w ∈ WW, w.before ([.ref mo, .int (nI bn)] : List Value).toArray s = true := fun w h => atoms_spec (ws := .code yX10_draw cX10_draw 2 (some .int) :: WW) B9.pre w (List.mem_cons_of_mem _ h)
  have hown : s.vm.findClass RX10 = some m.cls := findClass_of_methodNamed B9.named
  subst hsz
  have hD := hD0.self (sz := s.heap.size)
  generalize hAe : va_A [(mo, .inr (15, [.int th, .ref al, .long (lN zn), .null, .ref pf, .int rs]))] s.heap.size = A at hD hE ⊢
  have hA : ∀ q : Nat, s.heap.size ≤ q → A q := fun q h => by rw [← hAe]; exact Or.inr h
  have hl := lv_entry ([.ref mo, .int (nI bn)]) (n := 2) (Nat.le_of_ble_eq_true rfl)
  rw [lg_entry_eq]
  generalize (lg_sl ([.ref mo, .int (nI bn)]) ++ List.replicate (2 - (lg_sl ([.ref mo, .int (nI bn)])).length) Slot.unset).toArray = ls at hl ⊢
  have hl : lv_has ls 2 [(0, .ref mo), (1, .int (nI bn))] := hl
  refine qgen (fun Q hQ => ?_)
  refine hgen (fun H locs hP hD hS => ?_) hP hD
  refine lv_aload_n hx hb dX10_draw_0 rfl (lv_at hl 0 rfl) ?_
  refine lv_aload_n hx hb dX10_draw_1 rfl (lv_at hl 0 rfl) ?_
  refine va_get (D := gD G) (ci := 15) (v := .long (lN zn)) (C := RX10) (T := TX10) (N := 6) hx hb hts fwX10 hown hK hP 0 rfl rfl 2 (by decide) (hts _ q929) (fun _ h9 => h9) rfl dX10_draw_2 ?_
  refine lv_ldc2 (v := lN 1103515245) hx hb hown (hts _ q1047) dX10_draw_5 ?_
  refine lv_lmul hx hb dX10_draw_8 ?_
  refine lv_tol (lN_mul zn 1103515245) ?_
  refine lv_ldc2 (v := lN 12345) hx hb hown (hts _ q1048) dX10_draw_9 ?_
  refine lv_ladd hx hb dX10_draw_12 ?_
  refine lv_tol (lN_add (zn * 1103515245) 12345) ?_
  refine lv_ldc2 (v := lN 2147483648) hx hb hown (hts _ q1049) dX10_draw_13 ?_
  refine lv_lrem hx hb dX10_draw_16 (lN_ne0 (n := 2147483648) (by omega) (by omega)) ?_
  refine lv_tol (pk_lRem (a := zn * 1103515245 + 12345) (b := 2147483648) (by omega) (by omega) (by omega)) ?_
  refine va_put (D := gD G) (ci := 15) (v := .long (lN ((zn * 1103515245 + 12345) % 2147483648))) (ty := .long) (C := RX10) (T := TX10) (N := 6) hx hb hts fwX10 tyX10 tyX10_ok nmX10 hown hK hP hD hS 0 rfl rfl 2 (by decide) (hts _ q929) (fun _ h9 => h9) rfl (by decide +kernel) rfl rfl (Nat.le_of_ble_eq_true rfl) dX10_draw_17 (fun H locs hP hD hS => ?_)
  have hP : va_P (gD G) vwCl [(mo, .inr (15, [.int th, .ref al, .long (lN ((zn * 1103515245 + 12345) % 2147483648)), .null, .ref pf, .int rs]))] H := hP
  have hD : va_D A [(mo, .inr (15, [.int th, .ref al, .long (lN ((zn * 1103515245 + 12345) % 2147483648)), .null, .ref pf, .int rs]))] := hD
  refine lv_aload_n hx hb dX10_draw_20 rfl (lv_at hl 0 rfl) ?_
  refine va_get (D := gD G) (ci := 15) (v := .long (lN ((zn * 1103515245 + 12345) % 2147483648))) (C := RX10) (T := TX10) (N := 6) hx hb hts fwX10 hown hK hP 0 rfl rfl 2 (by decide) (hts _ q929) (fun _ h9 => h9) rfl dX10_draw_21 ?_
  refine lv_ldc2 (v := lN 65536) hx hb hown (hts _ q1050) dX10_draw_24 ?_
  refine lv_ldiv hx hb dX10_draw_27 (lN_ne0 (n := 65536) (by omega) (by omega)) ?_
  refine lv_tol (pk_lDiv (a := (zn * 1103515245 + 12345) % 2147483648) (b := 65536) (by omega) (by omega) (by omega)) ?_
  refine lv_iload_n hx hb dX10_draw_28 rfl (lv_at hl 1 rfl) ?_
  refine lv_i2l (v := lN bn) hx hb dX10_draw_29 (nI_l (by omega)) ?_
  refine lv_lrem hx hb dX10_draw_30 (lN_ne0 (n := bn) (by omega) (by omega)) ?_
  refine lv_tol (pk_lRem (a := ((zn * 1103515245 + 12345) % 2147483648) / 65536) (b := bn) (by omega) (by omega) (by omega)) ?_
  refine lv_l2i (v := nI ((((zn * 1103515245 + 12345) % 2147483648) / 65536) % bn)) hx hb dX10_draw_31 (lN_i ((((zn * 1103515245 + 12345) % 2147483648) / 65536) % bn)) ?_
  have hP9 := hP.sub (ws' := [(mo, .inr (15, [.int th, .ref al, .long (lN ((zn * 1103515245 + 12345) % 2147483648)), .null, .ref pf, .int rs]))]) [0] rfl
  have hD9 := hD.sub (ws' := [(mo, .inr (15, [.int th, .ref al, .long (lN ((zn * 1103515245 + 12345) % 2147483648)), .null, .ref pf, .int rs]))]) [0] (by decide) rfl
  subst hQ
  exact W.iret (v := nI ((((zn * 1103515245 + 12345) % 2147483648) / 65536) % bn)) hx hb hr (fun t ht hW => ⟨⟨nI ((((zn * 1103515245 + 12345) % 2147483648) / 65536) % bn), (((zn * 1103515245 + 12345) % 2147483648), ((((zn * 1103515245 + 12345) % 2147483648) / 65536) % bn)), rfl, ⟨rfl, (Nat.mod_lt _ (by decide)), (Nat.mod_lt _ (by omega))⟩, by rw [ht]; exact hP9, hD9⟩, hS.F ht⟩) hS.2.2 dX10_draw_32
set_option maxHeartbeats 4000000 in
set_option maxRecDepth 100000 in
theorem c_X10_changes (l : Launch) (G : GG) (pz : Nat) (gr : Nat) (mr : Nat) (cg : Nat) (gv : Nat → Int32) (ar : Nat) (a : Nat) (b : Nat) (hgv : inC 16 1 5 gv) (har : ar ≤ 1) (ha : a < 4) (hb4 : b < 4) : Mv l G yX10_changes cX10_changes 10 ({ frames := 1, cells := 1, slots := 16, locals := 14 } : Room) [.ref pz, .int (nI ar), .int (nI a), .int (nI b)] [(pz, .inr (13, [.ref gr, .ref mr, .ref cg])), (gr, .inl (gyI G, 16, .inl gv))] (fun (u : (Nat → Int32)) => inC 16 1 5 u) (fun (u : (Nat → Int32)) => [(pz, .inr (13, [.ref gr, .ref mr, .ref cg])), (gr, .inl (gyI G, 16, .inl u))]) := by
  intro sz
  refine Met.ofW (cc := cX10_changes) (maxL := 10) (ret := none) (by decide) rfl ?_
  intro p e s m args below meth c s₁ B9 hml hv
  obtain ⟨rfl, hsz, hP, hK, hD0, hE⟩ := hv
  have hx := B9.exec
  have hb := B9.bytes
  have hr := B9.returns
  have hts : ∀ w ∈ WW, w.before ([.ref pz, .int (nI ar), .int (nI a), .int (nI b)] : List Value).toArray s = true := fun w h => atoms_spec (ws := .code yX10_changes cX10_changes 10 none :: WW) B9.pre w (List.mem_cons_of_mem _ h)
  have hown : s.vm.findClass RX10 = some m.cls := findClass_of_methodNamed B9.named
  subst hsz
  have hD := hD0.self (sz := s.heap.size)
  generalize hAe : va_A [(pz, .inr (13, [.ref gr, .ref mr, .ref cg])), (gr, .inl (gyI G, 16, .inl gv))] s.heap.size = A at hD hE ⊢
  have hA : ∀ q : Nat, s.heap.size ≤ q → A q := fun q h => by rw [← hAe]; exact Or.inr h
  have hl := lv_entry ([.ref pz, .int (nI ar), .int (nI a), .int (nI b)]) (n := 10) (Nat.le_of_ble_eq_true rfl)
  rw [lg_entry_eq]
  generalize (lg_sl ([.ref pz, .int (nI ar), .int (nI a), .int (nI b)]) ++ List.replicate (10 - (lg_sl ([.ref pz, .int (nI ar), .int (nI a), .int (nI b)])).length) Slot.unset).toArray = ls at hl ⊢
  have hl : lv_has ls 10 [(0, .ref pz), (1, .int (nI ar)), (2, .int (nI a)), (3, .int (nI b))] := hl
  refine qgen (fun Q hQ => ?_)
  refine hgen (fun H locs hP hD hS => ?_) hP hD
  refine lv_aload_n hx hb dX10_changes_0 rfl (lv_at hl 0 rfl) ?_
  refine va_getN (D := gD G) (ci := 13) (v := .ref gr) (C := RX8) (T := TX8) (N := 3) hx hb hts fwX8 hown hK hP 0 rfl rfl 0 (by decide) (va_Nw.use rfl (hE.1.1 _ nq975)) (fun _ h9 => h9) rfl dX10_changes_1 ?_
  refine va_clone (D := gD G) (x := (16, .inl gv)) hx hb (hml.trans hl.1.symm) hown (hts _ q1054) (hts _ q1055) (hts _ q1056) (hts _ q1057) (hts _ q1058) (hE.1.1 _ nq1059) hK hP hD hS hA 1 0 rfl rfl (va_nm_int (hK.2 0 _ rfl).2) (fun i9 v9 h9 => va_fit (fun _ _ => rfl) i9 v9 h9) (Nat.le_of_ble_eq_true rfl) (Nat.le_of_ble_eq_true rfl) (Nat.le_of_ble_eq_true rfl) (Nat.le_of_ble_eq_true rfl) dX10_changes_4 (fun q_1 H _ hP hD hS => ?_)
  have hP : va_P (gD G) vwCl [(pz, .inr (13, [.ref gr, .ref mr, .ref cg])), (gr, .inl (gyI G, 16, .inl gv)), (q_1, .inl (gyI G, 16, .inl gv))] H := hP
  have hD : va_D A [(pz, .inr (13, [.ref gr, .ref mr, .ref cg])), (gr, .inl (gyI G, 16, .inl gv)), (q_1, .inl (gyI G, 16, .inl gv))] := hD
  refine va_castA (D := gD G) hx hb hown (hts _ q1060) hP 2 rfl (va_nm_int (hK.2 0 _ rfl).2) dX10_changes_7 ?_
  refine lv_astore (lv' := [(4, .ref q_1), (0, .ref pz), (1, .int (nI ar)), (2, .int (nI a)), (3, .int (nI b))]) hx hb dX10_changes_10 hl (by decide) rfl (fun ls hl => ?_)
  refine lv_iconst (v := nI 0) hx hb dX10_changes_12 (by decide) ?_
  refine lv_istore (lv' := [(5, .int (nI 0)), (4, .ref q_1), (0, .ref pz), (1, .int (nI ar)), (2, .int (nI a)), (3, .int (nI b))]) hx hb dX10_changes_13 hl (by decide) rfl (fun ls hl => ?_)
  have cut_15_1 : ∀ (n9 : Nat) (i : Nat) (g : Nat → Int32) (hi : i ≤ 16) (hg : inC 16 1 5 g) (hm9 : 16 - i < n9) (H : Heap) (locs : List Loc), va_P (gD G) vwCl [(pz, .inr (13, [.ref gr, .ref mr, .ref cg])), (gr, .inl (gyI G, 16, .inl g)), (q_1, .inl (gyI G, 16, .inl gv))] H → va_D A [(pz, .inr (13, [.ref gr, .ref mr, .ref cg])), (gr, .inl (gyI G, 16, .inl g)), (q_1, .inl (gyI G, 16, .inl gv))] → va_S A s.heap H locs → ∀ (ls : Array Slot), lv_has ls 10 [(4, .ref q_1), (0, .ref pz), (1, .int (nI ar)), (2, .int (nI a)), (3, .int (nI b)), (5, .int (nI i))] → W p l e ({ frames := 1, cells := 1, slots := 16, locals := 14 } : Room) s m ([.ref pz, .int (nI ar), .int (nI a), .int (nI b)] : List Value).toArray below meth c H locs 1 16 Q (F0 m 15 ls []) := by
    intro n9
    induction n9 with
    | zero =>
      intro i g hi hg hm9
      exact absurd hm9 (Nat.not_lt_zero _)
    | succ n9 ih_15_1 =>
      intro i g hi hg hm9 H locs hP hD hS ls hl
      refine lv_iload hx hb dX10_changes_15 (lv_at hl 5 rfl) ?_
      refine lv_bipush (v := nI 16) hx hb dX10_changes_17 (by decide) ?_
      refine lv_icmp_ge (tgt := 123) hx hb dX10_changes_19 (by decide) (fun c_2 => ?_) (fun c_2 => ?_)
      · skip
        have c_2 : 16 ≤ i := (nI_leI (a := 16) (b := i) (by omega) (by omega)).mp c_2
        have hP9 := hP.sub (ws' := [(pz, .inr (13, [.ref gr, .ref mr, .ref cg])), (gr, .inl (gyI G, 16, .inl g))]) [0, 1] rfl
        have hD9 := hD.sub (ws' := [(pz, .inr (13, [.ref gr, .ref mr, .ref cg])), (gr, .inl (gyI G, 16, .inl g))]) [0, 1] (by decide) rfl
        subst hQ
        exact W.vret hx hb hr (fun t ht hW => ⟨⟨g, rfl, hg, by rw [ht]; exact hP9, hD9⟩, hS.F ht⟩) hS.2.2 dX10_changes_123
      · skip
        have c_2 : ¬ 16 ≤ i := fun z => c_2 ((nI_leI (a := 16) (b := i) (by omega) (by omega)).mpr z)
        refine lv_iload hx hb dX10_changes_22 (lv_at hl 5 rfl) ?_
        refine lv_iconst (v := nI 4) hx hb dX10_changes_24 (by decide) ?_
        refine lv_idiv hx hb dX10_changes_25 (nI_ne0 (by omega) (by omega)) ?_
        refine lv_toe (pk_div (a := i) (d := 4) (by omega) (by omega) (by omega)) ?_
        refine lv_istore (lv' := [(6, .int (nI (i / 4))), (4, .ref q_1), (0, .ref pz), (1, .int (nI ar)), (2, .int (nI a)), (3, .int (nI b)), (5, .int (nI i))]) hx hb dX10_changes_26 hl (by decide) rfl (fun ls hl => ?_)
        refine lv_iload hx hb dX10_changes_28 (lv_at hl 6 rfl) ?_
        refine lv_iconst (v := nI 4) hx hb dX10_changes_30 (by decide) ?_
        refine lv_irem hx hb dX10_changes_31 (nI_ne0 (by omega) (by omega)) ?_
        refine lv_toe (pk_rem (a := i) (d := 4) (by omega) (by omega) (by omega)) ?_
        refine lv_istore (lv' := [(7, .int (nI (i % 4))), (6, .int (nI (i / 4))), (4, .ref q_1), (0, .ref pz), (1, .int (nI ar)), (2, .int (nI a)), (3, .int (nI b)), (5, .int (nI i))]) hx hb dX10_changes_32 hl (by decide) rfl (fun ls hl => ?_)
        refine lv_iload_n hx hb dX10_changes_34 rfl (lv_at hl 4 rfl) ?_
        refine lv_if_ne (tgt := 43) hx hb dX10_changes_35 (by decide) (fun c_3 => ?_) (fun c_3 => ?_)
        · skip
          have c_3 : ¬ ar = 0 := fun z => c_3 ((nI_eq (a := ar) (b := 0) (by omega) (by omega)).mpr z)
          refine lv_iload hx hb dX10_changes_43 (lv_at hl 1 rfl) ?_
          refine lv_iload_n hx hb dX10_changes_45 rfl (lv_at hl 5 rfl) ?_
          refine lv_icmp_ne (tgt := 53) hx hb dX10_changes_46 (by decide) (fun c_4 => ?_) (fun c_4 => ?_)
          · skip
            have c_4 : ¬ (i / 4) = a := fun z => c_4 ((nI_eq (a := i / 4) (b := a) (by omega) (by omega)).mpr z)
            refine lv_iload hx hb dX10_changes_53 (lv_at hl 1 rfl) ?_
            refine lv_iload_n hx hb dX10_changes_55 rfl (lv_at hl 6 rfl) ?_
            refine lv_icmp_ne (tgt := 63) hx hb dX10_changes_56 (by decide) (fun c_5 => ?_) (fun c_5 => ?_)
            · skip
              have c_5 : ¬ (i / 4) = b := fun z => c_5 ((nI_eq (a := i / 4) (b := b) (by omega) (by omega)).mpr z)
              refine lv_iload hx hb dX10_changes_63 (lv_at hl 1 rfl) ?_
              refine lv_istore (lv' := [(8, .int (nI (i / 4))), (7, .int (nI (i % 4))), (6, .int (nI (i / 4))), (4, .ref q_1), (0, .ref pz), (1, .int (nI ar)), (2, .int (nI a)), (3, .int (nI b)), (5, .int (nI i))]) hx hb dX10_changes_65 hl (by decide) rfl (fun ls hl => ?_)
              refine lv_iload_n hx hb dX10_changes_67 rfl (lv_at hl 5 rfl) ?_
              refine lv_if_eq (tgt := 76) hx hb dX10_changes_68 (by decide) (fun c_6 => ?_) (fun c_6 => ?_)
              · skip
                have c_6 : ar = 0 := (nI_eq (a := ar) (b := 0) (by omega) (by omega)).mp c_6
                refine lv_iload hx hb dX10_changes_76 (lv_at hl 1 rfl) ?_
                refine lv_iload_n hx hb dX10_changes_78 rfl (lv_at hl 6 rfl) ?_
                refine lv_icmp_ne (tgt := 86) hx hb dX10_changes_79 (by decide) (fun c_7 => ?_) (fun c_7 => ?_)
                · skip
                  have c_7 : ¬ (i % 4) = a := fun z => c_7 ((nI_eq (a := i % 4) (b := a) (by omega) (by omega)).mpr z)
                  refine lv_iload hx hb dX10_changes_86 (lv_at hl 1 rfl) ?_
                  refine lv_iload_n hx hb dX10_changes_88 rfl (lv_at hl 7 rfl) ?_
                  refine lv_icmp_ne (tgt := 96) hx hb dX10_changes_89 (by decide) (fun c_8 => ?_) (fun c_8 => ?_)
                  · skip
                    have c_8 : ¬ (i % 4) = b := fun z => c_8 ((nI_eq (a := i % 4) (b := b) (by omega) (by omega)).mpr z)
                    refine lv_iload hx hb dX10_changes_96 (lv_at hl 1 rfl) ?_
                    refine lv_istore (lv' := [(9, .int (nI (i % 4))), (8, .int (nI (i / 4))), (7, .int (nI (i % 4))), (6, .int (nI (i / 4))), (4, .ref q_1), (0, .ref pz), (1, .int (nI ar)), (2, .int (nI a)), (3, .int (nI b)), (5, .int (nI i))]) hx hb dX10_changes_98 hl (by decide) rfl (fun ls hl => ?_)
                    refine lv_aload_n hx hb dX10_changes_100 rfl (lv_at hl 5 rfl) ?_
                    refine va_getN (D := gD G) (ci := 13) (v := .ref gr) (C := RX8) (T := TX8) (N := 3) hx hb hts fwX8 hown hK hP 0 rfl rfl 0 (by decide) (va_Nw.use rfl (hE.1.1 _ nq975)) (fun _ h9 => h9) rfl dX10_changes_101 ?_
                    refine lv_iload hx hb dX10_changes_104 (lv_at hl 9 rfl) ?_
                    refine lv_aload hx hb dX10_changes_106 (lv_at hl 4 rfl) ?_
                    refine lv_iload hx hb dX10_changes_108 (lv_at hl 1 rfl) ?_
                    refine lv_iconst (v := nI 4) hx hb dX10_changes_110 (by decide) ?_
                    refine lv_imul hx hb dX10_changes_111 ?_
                    refine lv_toe (pk_mul (i / 4) 4) ?_
                    refine lv_iload hx hb dX10_changes_112 (lv_at hl 0 rfl) ?_
                    refine lv_iadd hx hb dX10_changes_114 ?_
                    refine lv_toe (nI_add ((i / 4) * 4) (i % 4)) ?_
                    refine va_iald (D := gD G) (cA := gyI G) (n := 16) (f := gv) hx hb hK hP 2 0 rfl rfl (vp_in_nI (n := (i / 4) * 4 + (i % 4)) (N := 16) (by omega) (by omega)) dX10_changes_115 ?_
                    obtain ⟨n_9, ⟨hln_9, hn_9⟩, en_9⟩ := hgv ((i / 4) * 4 + (i % 4)) (by omega)
                    refine lv_toe (show gv (nI ((i / 4) * 4 + (i % 4))).toNatClampNeg = nI n_9 by rw [nI_clamp (by omega)]; exact en_9) ?_
                    refine va_iast (D := gD G) (cA := gyI G) (n := 16) (f := g) hx hb hK hP hD hS 1 0 rfl rfl (vp_in_nI (n := i) (N := 16) (by omega) (by omega)) dX10_changes_116 (fun H locs hP hD hS => ?_)
                    have hb_11 : inC 16 1 5 (upd g (nI i).toNatClampNeg (nI n_9)) := hg.upd (n := n_9) (by omega) (by omega) rfl
                    generalize upd g (nI i).toNatClampNeg (nI n_9) = f_10 at hP hD hb_11
                    have hP : va_P (gD G) vwCl [(pz, .inr (13, [.ref gr, .ref mr, .ref cg])), (gr, .inl (gyI G, 16, .inl f_10)), (q_1, .inl (gyI G, 16, .inl gv))] H := hP
                    have hD : va_D A [(pz, .inr (13, [.ref gr, .ref mr, .ref cg])), (gr, .inl (gyI G, 16, .inl f_10)), (q_1, .inl (gyI G, 16, .inl gv))] := hD
                    refine lv_iinc (v := nI (i + 1)) (lv' := [(5, .int (nI (i + 1))), (9, .int (nI (i % 4))), (8, .int (nI (i / 4))), (7, .int (nI (i % 4))), (6, .int (nI (i / 4))), (4, .ref q_1), (0, .ref pz), (1, .int (nI ar)), (2, .int (nI a)), (3, .int (nI b))]) hx hb dX10_changes_117 hl (k := 9) rfl (nI_add i 1) (by decide) rfl (fun ls hl => ?_)
                    refine lv_goto (tgt := 15) hx hb dX10_changes_120 (by decide) ?_
                    exact ih_15_1 (i + 1) f_10 (by omega) hb_11 (by omega) _ _ (hP.sub [0, 1, 2] rfl) (hD.sub [0, 1, 2] (by decide) rfl) hS ls (lv_sub hl [5, 6, 7, 8, 9, 0] rfl)
                  · skip
                    have c_8 : (i % 4) = b := (nI_eq (a := i % 4) (b := b) (by omega) (by omega)).mp c_8
                    refine lv_iload_n hx hb dX10_changes_92 rfl (lv_at hl 6 rfl) ?_
                    refine lv_goto (tgt := 98) hx hb dX10_changes_93 (by decide) ?_
                    refine lv_istore (lv' := [(9, .int (nI a)), (8, .int (nI (i / 4))), (7, .int (nI (i % 4))), (6, .int (nI (i / 4))), (4, .ref q_1), (0, .ref pz), (1, .int (nI ar)), (2, .int (nI a)), (3, .int (nI b)), (5, .int (nI i))]) hx hb dX10_changes_98 hl (by decide) rfl (fun ls hl => ?_)
                    refine lv_aload_n hx hb dX10_changes_100 rfl (lv_at hl 5 rfl) ?_
                    refine va_getN (D := gD G) (ci := 13) (v := .ref gr) (C := RX8) (T := TX8) (N := 3) hx hb hts fwX8 hown hK hP 0 rfl rfl 0 (by decide) (va_Nw.use rfl (hE.1.1 _ nq975)) (fun _ h9 => h9) rfl dX10_changes_101 ?_
                    refine lv_iload hx hb dX10_changes_104 (lv_at hl 9 rfl) ?_
                    refine lv_aload hx hb dX10_changes_106 (lv_at hl 4 rfl) ?_
                    refine lv_iload hx hb dX10_changes_108 (lv_at hl 1 rfl) ?_
                    refine lv_iconst (v := nI 4) hx hb dX10_changes_110 (by decide) ?_
                    refine lv_imul hx hb dX10_changes_111 ?_
                    refine lv_toe (pk_mul (i / 4) 4) ?_
                    refine lv_iload hx hb dX10_changes_112 (lv_at hl 0 rfl) ?_
                    refine lv_iadd hx hb dX10_changes_114 ?_
                    refine lv_toe (nI_add ((i / 4) * 4) a) ?_
                    refine va_iald (D := gD G) (cA := gyI G) (n := 16) (f := gv) hx hb hK hP 2 0 rfl rfl (vp_in_nI (n := (i / 4) * 4 + a) (N := 16) (by omega) (by omega)) dX10_changes_115 ?_
                    obtain ⟨n_12, ⟨hln_12, hn_12⟩, en_12⟩ := hgv ((i / 4) * 4 + a) (by omega)
                    refine lv_toe (show gv (nI ((i / 4) * 4 + a)).toNatClampNeg = nI n_12 by rw [nI_clamp (by omega)]; exact en_12) ?_
                    refine va_iast (D := gD G) (cA := gyI G) (n := 16) (f := g) hx hb hK hP hD hS 1 0 rfl rfl (vp_in_nI (n := i) (N := 16) (by omega) (by omega)) dX10_changes_116 (fun H locs hP hD hS => ?_)
                    have hb_14 : inC 16 1 5 (upd g (nI i).toNatClampNeg (nI n_12)) := hg.upd (n := n_12) (by omega) (by omega) rfl
                    generalize upd g (nI i).toNatClampNeg (nI n_12) = f_13 at hP hD hb_14
                    have hP : va_P (gD G) vwCl [(pz, .inr (13, [.ref gr, .ref mr, .ref cg])), (gr, .inl (gyI G, 16, .inl f_13)), (q_1, .inl (gyI G, 16, .inl gv))] H := hP
                    have hD : va_D A [(pz, .inr (13, [.ref gr, .ref mr, .ref cg])), (gr, .inl (gyI G, 16, .inl f_13)), (q_1, .inl (gyI G, 16, .inl gv))] := hD
                    refine lv_iinc (v := nI (i + 1)) (lv' := [(5, .int (nI (i + 1))), (9, .int (nI a)), (8, .int (nI (i / 4))), (7, .int (nI (i % 4))), (6, .int (nI (i / 4))), (4, .ref q_1), (0, .ref pz), (1, .int (nI ar)), (2, .int (nI a)), (3, .int (nI b))]) hx hb dX10_changes_117 hl (k := 9) rfl (nI_add i 1) (by decide) rfl (fun ls hl => ?_)
                    refine lv_goto (tgt := 15) hx hb dX10_changes_120 (by decide) ?_
                    exact ih_15_1 (i + 1) f_13 (by omega) hb_14 (by omega) _ _ (hP.sub [0, 1, 2] rfl) (hD.sub [0, 1, 2] (by decide) rfl) hS ls (lv_sub hl [5, 6, 7, 8, 9, 0] rfl)
                · skip
                  have c_7 : (i % 4) = a := (nI_eq (a := i % 4) (b := a) (by omega) (by omega)).mp c_7
                  refine lv_iload_n hx hb dX10_changes_82 rfl (lv_at hl 7 rfl) ?_
                  refine lv_goto (tgt := 98) hx hb dX10_changes_83 (by decide) ?_
                  refine lv_istore (lv' := [(9, .int (nI b)), (8, .int (nI (i / 4))), (7, .int (nI (i % 4))), (6, .int (nI (i / 4))), (4, .ref q_1), (0, .ref pz), (1, .int (nI ar)), (2, .int (nI a)), (3, .int (nI b)), (5, .int (nI i))]) hx hb dX10_changes_98 hl (by decide) rfl (fun ls hl => ?_)
                  refine lv_aload_n hx hb dX10_changes_100 rfl (lv_at hl 5 rfl) ?_
                  refine va_getN (D := gD G) (ci := 13) (v := .ref gr) (C := RX8) (T := TX8) (N := 3) hx hb hts fwX8 hown hK hP 0 rfl rfl 0 (by decide) (va_Nw.use rfl (hE.1.1 _ nq975)) (fun _ h9 => h9) rfl dX10_changes_101 ?_
                  refine lv_iload hx hb dX10_changes_104 (lv_at hl 9 rfl) ?_
                  refine lv_aload hx hb dX10_changes_106 (lv_at hl 4 rfl) ?_
                  refine lv_iload hx hb dX10_changes_108 (lv_at hl 1 rfl) ?_
                  refine lv_iconst (v := nI 4) hx hb dX10_changes_110 (by decide) ?_
                  refine lv_imul hx hb dX10_changes_111 ?_
                  refine lv_toe (pk_mul (i / 4) 4) ?_
                  refine lv_iload hx hb dX10_changes_112 (lv_at hl 0 rfl) ?_
                  refine lv_iadd hx hb dX10_changes_114 ?_
                  refine lv_toe (nI_add ((i / 4) * 4) b) ?_
                  refine va_iald (D := gD G) (cA := gyI G) (n := 16) (f := gv) hx hb hK hP 2 0 rfl rfl (vp_in_nI (n := (i / 4) * 4 + b) (N := 16) (by omega) (by omega)) dX10_changes_115 ?_
                  obtain ⟨n_15, ⟨hln_15, hn_15⟩, en_15⟩ := hgv ((i / 4) * 4 + b) (by omega)
                  refine lv_toe (show gv (nI ((i / 4) * 4 + b)).toNatClampNeg = nI n_15 by rw [nI_clamp (by omega)]; exact en_15) ?_
                  refine va_iast (D := gD G) (cA := gyI G) (n := 16) (f := g) hx hb hK hP hD hS 1 0 rfl rfl (vp_in_nI (n := i) (N := 16) (by omega) (by omega)) dX10_changes_116 (fun H locs hP hD hS => ?_)
                  have hb_17 : inC 16 1 5 (upd g (nI i).toNatClampNeg (nI n_15)) := hg.upd (n := n_15) (by omega) (by omega) rfl
                  generalize upd g (nI i).toNatClampNeg (nI n_15) = f_16 at hP hD hb_17
                  have hP : va_P (gD G) vwCl [(pz, .inr (13, [.ref gr, .ref mr, .ref cg])), (gr, .inl (gyI G, 16, .inl f_16)), (q_1, .inl (gyI G, 16, .inl gv))] H := hP
                  have hD : va_D A [(pz, .inr (13, [.ref gr, .ref mr, .ref cg])), (gr, .inl (gyI G, 16, .inl f_16)), (q_1, .inl (gyI G, 16, .inl gv))] := hD
                  refine lv_iinc (v := nI (i + 1)) (lv' := [(5, .int (nI (i + 1))), (9, .int (nI b)), (8, .int (nI (i / 4))), (7, .int (nI (i % 4))), (6, .int (nI (i / 4))), (4, .ref q_1), (0, .ref pz), (1, .int (nI ar)), (2, .int (nI a)), (3, .int (nI b))]) hx hb dX10_changes_117 hl (k := 9) rfl (nI_add i 1) (by decide) rfl (fun ls hl => ?_)
                  refine lv_goto (tgt := 15) hx hb dX10_changes_120 (by decide) ?_
                  exact ih_15_1 (i + 1) f_16 (by omega) hb_17 (by omega) _ _ (hP.sub [0, 1, 2] rfl) (hD.sub [0, 1, 2] (by decide) rfl) hS ls (lv_sub hl [5, 6, 7, 8, 9, 0] rfl)
              · skip
                have c_6 : ¬ ar = 0 := fun z => c_6 ((nI_eq (a := ar) (b := 0) (by omega) (by omega)).mpr z)
                refine lv_iload hx hb dX10_changes_71 (lv_at hl 1 rfl) ?_
                refine lv_goto (tgt := 98) hx hb dX10_changes_73 (by decide) ?_
                refine lv_istore (lv' := [(9, .int (nI (i % 4))), (8, .int (nI (i / 4))), (7, .int (nI (i % 4))), (6, .int (nI (i / 4))), (4, .ref q_1), (0, .ref pz), (1, .int (nI ar)), (2, .int (nI a)), (3, .int (nI b)), (5, .int (nI i))]) hx hb dX10_changes_98 hl (by decide) rfl (fun ls hl => ?_)
                refine lv_aload_n hx hb dX10_changes_100 rfl (lv_at hl 5 rfl) ?_
                refine va_getN (D := gD G) (ci := 13) (v := .ref gr) (C := RX8) (T := TX8) (N := 3) hx hb hts fwX8 hown hK hP 0 rfl rfl 0 (by decide) (va_Nw.use rfl (hE.1.1 _ nq975)) (fun _ h9 => h9) rfl dX10_changes_101 ?_
                refine lv_iload hx hb dX10_changes_104 (lv_at hl 9 rfl) ?_
                refine lv_aload hx hb dX10_changes_106 (lv_at hl 4 rfl) ?_
                refine lv_iload hx hb dX10_changes_108 (lv_at hl 1 rfl) ?_
                refine lv_iconst (v := nI 4) hx hb dX10_changes_110 (by decide) ?_
                refine lv_imul hx hb dX10_changes_111 ?_
                refine lv_toe (pk_mul (i / 4) 4) ?_
                refine lv_iload hx hb dX10_changes_112 (lv_at hl 0 rfl) ?_
                refine lv_iadd hx hb dX10_changes_114 ?_
                refine lv_toe (nI_add ((i / 4) * 4) (i % 4)) ?_
                refine va_iald (D := gD G) (cA := gyI G) (n := 16) (f := gv) hx hb hK hP 2 0 rfl rfl (vp_in_nI (n := (i / 4) * 4 + (i % 4)) (N := 16) (by omega) (by omega)) dX10_changes_115 ?_
                obtain ⟨n_18, ⟨hln_18, hn_18⟩, en_18⟩ := hgv ((i / 4) * 4 + (i % 4)) (by omega)
                refine lv_toe (show gv (nI ((i / 4) * 4 + (i % 4))).toNatClampNeg = nI n_18 by rw [nI_clamp (by omega)]; exact en_18) ?_
                refine va_iast (D := gD G) (cA := gyI G) (n := 16) (f := g) hx hb hK hP hD hS 1 0 rfl rfl (vp_in_nI (n := i) (N := 16) (by omega) (by omega)) dX10_changes_116 (fun H locs hP hD hS => ?_)
                have hb_20 : inC 16 1 5 (upd g (nI i).toNatClampNeg (nI n_18)) := hg.upd (n := n_18) (by omega) (by omega) rfl
                generalize upd g (nI i).toNatClampNeg (nI n_18) = f_19 at hP hD hb_20
                have hP : va_P (gD G) vwCl [(pz, .inr (13, [.ref gr, .ref mr, .ref cg])), (gr, .inl (gyI G, 16, .inl f_19)), (q_1, .inl (gyI G, 16, .inl gv))] H := hP
                have hD : va_D A [(pz, .inr (13, [.ref gr, .ref mr, .ref cg])), (gr, .inl (gyI G, 16, .inl f_19)), (q_1, .inl (gyI G, 16, .inl gv))] := hD
                refine lv_iinc (v := nI (i + 1)) (lv' := [(5, .int (nI (i + 1))), (9, .int (nI (i % 4))), (8, .int (nI (i / 4))), (7, .int (nI (i % 4))), (6, .int (nI (i / 4))), (4, .ref q_1), (0, .ref pz), (1, .int (nI ar)), (2, .int (nI a)), (3, .int (nI b))]) hx hb dX10_changes_117 hl (k := 9) rfl (nI_add i 1) (by decide) rfl (fun ls hl => ?_)
                refine lv_goto (tgt := 15) hx hb dX10_changes_120 (by decide) ?_
                exact ih_15_1 (i + 1) f_19 (by omega) hb_20 (by omega) _ _ (hP.sub [0, 1, 2] rfl) (hD.sub [0, 1, 2] (by decide) rfl) hS ls (lv_sub hl [5, 6, 7, 8, 9, 0] rfl)
            · skip
              have c_5 : (i / 4) = b := (nI_eq (a := i / 4) (b := b) (by omega) (by omega)).mp c_5
              refine lv_iload_n hx hb dX10_changes_59 rfl (lv_at hl 5 rfl) ?_
              refine lv_goto (tgt := 65) hx hb dX10_changes_60 (by decide) ?_
              refine lv_istore (lv' := [(8, .int (nI a)), (7, .int (nI (i % 4))), (6, .int (nI (i / 4))), (4, .ref q_1), (0, .ref pz), (1, .int (nI ar)), (2, .int (nI a)), (3, .int (nI b)), (5, .int (nI i))]) hx hb dX10_changes_65 hl (by decide) rfl (fun ls hl => ?_)
              refine lv_iload_n hx hb dX10_changes_67 rfl (lv_at hl 5 rfl) ?_
              refine lv_if_eq (tgt := 76) hx hb dX10_changes_68 (by decide) (fun c_21 => ?_) (fun c_21 => ?_)
              · skip
                have c_21 : ar = 0 := (nI_eq (a := ar) (b := 0) (by omega) (by omega)).mp c_21
                refine lv_iload hx hb dX10_changes_76 (lv_at hl 1 rfl) ?_
                refine lv_iload_n hx hb dX10_changes_78 rfl (lv_at hl 6 rfl) ?_
                refine lv_icmp_ne (tgt := 86) hx hb dX10_changes_79 (by decide) (fun c_22 => ?_) (fun c_22 => ?_)
                · skip
                  have c_22 : ¬ (i % 4) = a := fun z => c_22 ((nI_eq (a := i % 4) (b := a) (by omega) (by omega)).mpr z)
                  refine lv_iload hx hb dX10_changes_86 (lv_at hl 1 rfl) ?_
                  refine lv_iload_n hx hb dX10_changes_88 rfl (lv_at hl 7 rfl) ?_
                  refine lv_icmp_ne (tgt := 96) hx hb dX10_changes_89 (by decide) (fun c_23 => ?_) (fun c_23 => ?_)
                  · skip
                    have c_23 : ¬ (i % 4) = b := fun z => c_23 ((nI_eq (a := i % 4) (b := b) (by omega) (by omega)).mpr z)
                    refine lv_iload hx hb dX10_changes_96 (lv_at hl 1 rfl) ?_
                    refine lv_istore (lv' := [(9, .int (nI (i % 4))), (8, .int (nI a)), (7, .int (nI (i % 4))), (6, .int (nI (i / 4))), (4, .ref q_1), (0, .ref pz), (1, .int (nI ar)), (2, .int (nI a)), (3, .int (nI b)), (5, .int (nI i))]) hx hb dX10_changes_98 hl (by decide) rfl (fun ls hl => ?_)
                    refine lv_aload_n hx hb dX10_changes_100 rfl (lv_at hl 5 rfl) ?_
                    refine va_getN (D := gD G) (ci := 13) (v := .ref gr) (C := RX8) (T := TX8) (N := 3) hx hb hts fwX8 hown hK hP 0 rfl rfl 0 (by decide) (va_Nw.use rfl (hE.1.1 _ nq975)) (fun _ h9 => h9) rfl dX10_changes_101 ?_
                    refine lv_iload hx hb dX10_changes_104 (lv_at hl 9 rfl) ?_
                    refine lv_aload hx hb dX10_changes_106 (lv_at hl 4 rfl) ?_
                    refine lv_iload hx hb dX10_changes_108 (lv_at hl 1 rfl) ?_
                    refine lv_iconst (v := nI 4) hx hb dX10_changes_110 (by decide) ?_
                    refine lv_imul hx hb dX10_changes_111 ?_
                    refine lv_toe (pk_mul a 4) ?_
                    refine lv_iload hx hb dX10_changes_112 (lv_at hl 0 rfl) ?_
                    refine lv_iadd hx hb dX10_changes_114 ?_
                    refine lv_toe (nI_add (a * 4) (i % 4)) ?_
                    refine va_iald (D := gD G) (cA := gyI G) (n := 16) (f := gv) hx hb hK hP 2 0 rfl rfl (vp_in_nI (n := a * 4 + (i % 4)) (N := 16) (by omega) (by omega)) dX10_changes_115 ?_
                    obtain ⟨n_24, ⟨hln_24, hn_24⟩, en_24⟩ := hgv (a * 4 + (i % 4)) (by omega)
                    refine lv_toe (show gv (nI (a * 4 + (i % 4))).toNatClampNeg = nI n_24 by rw [nI_clamp (by omega)]; exact en_24) ?_
                    refine va_iast (D := gD G) (cA := gyI G) (n := 16) (f := g) hx hb hK hP hD hS 1 0 rfl rfl (vp_in_nI (n := i) (N := 16) (by omega) (by omega)) dX10_changes_116 (fun H locs hP hD hS => ?_)
                    have hb_26 : inC 16 1 5 (upd g (nI i).toNatClampNeg (nI n_24)) := hg.upd (n := n_24) (by omega) (by omega) rfl
                    generalize upd g (nI i).toNatClampNeg (nI n_24) = f_25 at hP hD hb_26
                    have hP : va_P (gD G) vwCl [(pz, .inr (13, [.ref gr, .ref mr, .ref cg])), (gr, .inl (gyI G, 16, .inl f_25)), (q_1, .inl (gyI G, 16, .inl gv))] H := hP
                    have hD : va_D A [(pz, .inr (13, [.ref gr, .ref mr, .ref cg])), (gr, .inl (gyI G, 16, .inl f_25)), (q_1, .inl (gyI G, 16, .inl gv))] := hD
                    refine lv_iinc (v := nI (i + 1)) (lv' := [(5, .int (nI (i + 1))), (9, .int (nI (i % 4))), (8, .int (nI a)), (7, .int (nI (i % 4))), (6, .int (nI (i / 4))), (4, .ref q_1), (0, .ref pz), (1, .int (nI ar)), (2, .int (nI a)), (3, .int (nI b))]) hx hb dX10_changes_117 hl (k := 9) rfl (nI_add i 1) (by decide) rfl (fun ls hl => ?_)
                    refine lv_goto (tgt := 15) hx hb dX10_changes_120 (by decide) ?_
                    exact ih_15_1 (i + 1) f_25 (by omega) hb_26 (by omega) _ _ (hP.sub [0, 1, 2] rfl) (hD.sub [0, 1, 2] (by decide) rfl) hS ls (lv_sub hl [5, 6, 7, 8, 9, 0] rfl)
                  · skip
                    have c_23 : (i % 4) = b := (nI_eq (a := i % 4) (b := b) (by omega) (by omega)).mp c_23
                    refine lv_iload_n hx hb dX10_changes_92 rfl (lv_at hl 6 rfl) ?_
                    refine lv_goto (tgt := 98) hx hb dX10_changes_93 (by decide) ?_
                    refine lv_istore (lv' := [(9, .int (nI a)), (8, .int (nI a)), (7, .int (nI (i % 4))), (6, .int (nI (i / 4))), (4, .ref q_1), (0, .ref pz), (1, .int (nI ar)), (2, .int (nI a)), (3, .int (nI b)), (5, .int (nI i))]) hx hb dX10_changes_98 hl (by decide) rfl (fun ls hl => ?_)
                    refine lv_aload_n hx hb dX10_changes_100 rfl (lv_at hl 5 rfl) ?_
                    refine va_getN (D := gD G) (ci := 13) (v := .ref gr) (C := RX8) (T := TX8) (N := 3) hx hb hts fwX8 hown hK hP 0 rfl rfl 0 (by decide) (va_Nw.use rfl (hE.1.1 _ nq975)) (fun _ h9 => h9) rfl dX10_changes_101 ?_
                    refine lv_iload hx hb dX10_changes_104 (lv_at hl 9 rfl) ?_
                    refine lv_aload hx hb dX10_changes_106 (lv_at hl 4 rfl) ?_
                    refine lv_iload hx hb dX10_changes_108 (lv_at hl 1 rfl) ?_
                    refine lv_iconst (v := nI 4) hx hb dX10_changes_110 (by decide) ?_
                    refine lv_imul hx hb dX10_changes_111 ?_
                    refine lv_toe (pk_mul a 4) ?_
                    refine lv_iload hx hb dX10_changes_112 (lv_at hl 0 rfl) ?_
                    refine lv_iadd hx hb dX10_changes_114 ?_
                    refine lv_toe (nI_add (a * 4) a) ?_
                    refine va_iald (D := gD G) (cA := gyI G) (n := 16) (f := gv) hx hb hK hP 2 0 rfl rfl (vp_in_nI (n := a * 4 + a) (N := 16) (by omega) (by omega)) dX10_changes_115 ?_
                    obtain ⟨n_27, ⟨hln_27, hn_27⟩, en_27⟩ := hgv (a * 4 + a) (by omega)
                    refine lv_toe (show gv (nI (a * 4 + a)).toNatClampNeg = nI n_27 by rw [nI_clamp (by omega)]; exact en_27) ?_
                    refine va_iast (D := gD G) (cA := gyI G) (n := 16) (f := g) hx hb hK hP hD hS 1 0 rfl rfl (vp_in_nI (n := i) (N := 16) (by omega) (by omega)) dX10_changes_116 (fun H locs hP hD hS => ?_)
                    have hb_29 : inC 16 1 5 (upd g (nI i).toNatClampNeg (nI n_27)) := hg.upd (n := n_27) (by omega) (by omega) rfl
                    generalize upd g (nI i).toNatClampNeg (nI n_27) = f_28 at hP hD hb_29
                    have hP : va_P (gD G) vwCl [(pz, .inr (13, [.ref gr, .ref mr, .ref cg])), (gr, .inl (gyI G, 16, .inl f_28)), (q_1, .inl (gyI G, 16, .inl gv))] H := hP
                    have hD : va_D A [(pz, .inr (13, [.ref gr, .ref mr, .ref cg])), (gr, .inl (gyI G, 16, .inl f_28)), (q_1, .inl (gyI G, 16, .inl gv))] := hD
                    refine lv_iinc (v := nI (i + 1)) (lv' := [(5, .int (nI (i + 1))), (9, .int (nI a)), (8, .int (nI a)), (7, .int (nI (i % 4))), (6, .int (nI (i / 4))), (4, .ref q_1), (0, .ref pz), (1, .int (nI ar)), (2, .int (nI a)), (3, .int (nI b))]) hx hb dX10_changes_117 hl (k := 9) rfl (nI_add i 1) (by decide) rfl (fun ls hl => ?_)
                    refine lv_goto (tgt := 15) hx hb dX10_changes_120 (by decide) ?_
                    exact ih_15_1 (i + 1) f_28 (by omega) hb_29 (by omega) _ _ (hP.sub [0, 1, 2] rfl) (hD.sub [0, 1, 2] (by decide) rfl) hS ls (lv_sub hl [5, 6, 7, 8, 9, 0] rfl)
                · skip
                  have c_22 : (i % 4) = a := (nI_eq (a := i % 4) (b := a) (by omega) (by omega)).mp c_22
                  refine lv_iload_n hx hb dX10_changes_82 rfl (lv_at hl 7 rfl) ?_
                  refine lv_goto (tgt := 98) hx hb dX10_changes_83 (by decide) ?_
                  refine lv_istore (lv' := [(9, .int (nI b)), (8, .int (nI a)), (7, .int (nI (i % 4))), (6, .int (nI (i / 4))), (4, .ref q_1), (0, .ref pz), (1, .int (nI ar)), (2, .int (nI a)), (3, .int (nI b)), (5, .int (nI i))]) hx hb dX10_changes_98 hl (by decide) rfl (fun ls hl => ?_)
                  refine lv_aload_n hx hb dX10_changes_100 rfl (lv_at hl 5 rfl) ?_
                  refine va_getN (D := gD G) (ci := 13) (v := .ref gr) (C := RX8) (T := TX8) (N := 3) hx hb hts fwX8 hown hK hP 0 rfl rfl 0 (by decide) (va_Nw.use rfl (hE.1.1 _ nq975)) (fun _ h9 => h9) rfl dX10_changes_101 ?_
                  refine lv_iload hx hb dX10_changes_104 (lv_at hl 9 rfl) ?_
                  refine lv_aload hx hb dX10_changes_106 (lv_at hl 4 rfl) ?_
                  refine lv_iload hx hb dX10_changes_108 (lv_at hl 1 rfl) ?_
                  refine lv_iconst (v := nI 4) hx hb dX10_changes_110 (by decide) ?_
                  refine lv_imul hx hb dX10_changes_111 ?_
                  refine lv_toe (pk_mul a 4) ?_
                  refine lv_iload hx hb dX10_changes_112 (lv_at hl 0 rfl) ?_
                  refine lv_iadd hx hb dX10_changes_114 ?_
                  refine lv_toe (nI_add (a * 4) b) ?_
                  refine va_iald (D := gD G) (cA := gyI G) (n := 16) (f := gv) hx hb hK hP 2 0 rfl rfl (vp_in_nI (n := a * 4 + b) (N := 16) (by omega) (by omega)) dX10_changes_115 ?_
                  obtain ⟨n_30, ⟨hln_30, hn_30⟩, en_30⟩ := hgv (a * 4 + b) (by omega)
                  refine lv_toe (show gv (nI (a * 4 + b)).toNatClampNeg = nI n_30 by rw [nI_clamp (by omega)]; exact en_30) ?_
                  refine va_iast (D := gD G) (cA := gyI G) (n := 16) (f := g) hx hb hK hP hD hS 1 0 rfl rfl (vp_in_nI (n := i) (N := 16) (by omega) (by omega)) dX10_changes_116 (fun H locs hP hD hS => ?_)
                  have hb_32 : inC 16 1 5 (upd g (nI i).toNatClampNeg (nI n_30)) := hg.upd (n := n_30) (by omega) (by omega) rfl
                  generalize upd g (nI i).toNatClampNeg (nI n_30) = f_31 at hP hD hb_32
                  have hP : va_P (gD G) vwCl [(pz, .inr (13, [.ref gr, .ref mr, .ref cg])), (gr, .inl (gyI G, 16, .inl f_31)), (q_1, .inl (gyI G, 16, .inl gv))] H := hP
                  have hD : va_D A [(pz, .inr (13, [.ref gr, .ref mr, .ref cg])), (gr, .inl (gyI G, 16, .inl f_31)), (q_1, .inl (gyI G, 16, .inl gv))] := hD
                  refine lv_iinc (v := nI (i + 1)) (lv' := [(5, .int (nI (i + 1))), (9, .int (nI b)), (8, .int (nI a)), (7, .int (nI (i % 4))), (6, .int (nI (i / 4))), (4, .ref q_1), (0, .ref pz), (1, .int (nI ar)), (2, .int (nI a)), (3, .int (nI b))]) hx hb dX10_changes_117 hl (k := 9) rfl (nI_add i 1) (by decide) rfl (fun ls hl => ?_)
                  refine lv_goto (tgt := 15) hx hb dX10_changes_120 (by decide) ?_
                  exact ih_15_1 (i + 1) f_31 (by omega) hb_32 (by omega) _ _ (hP.sub [0, 1, 2] rfl) (hD.sub [0, 1, 2] (by decide) rfl) hS ls (lv_sub hl [5, 6, 7, 8, 9, 0] rfl)
              · skip
                have c_21 : ¬ ar = 0 := fun z => c_21 ((nI_eq (a := ar) (b := 0) (by omega) (by omega)).mpr z)
                refine lv_iload hx hb dX10_changes_71 (lv_at hl 1 rfl) ?_
                refine lv_goto (tgt := 98) hx hb dX10_changes_73 (by decide) ?_
                refine lv_istore (lv' := [(9, .int (nI (i % 4))), (8, .int (nI a)), (7, .int (nI (i % 4))), (6, .int (nI (i / 4))), (4, .ref q_1), (0, .ref pz), (1, .int (nI ar)), (2, .int (nI a)), (3, .int (nI b)), (5, .int (nI i))]) hx hb dX10_changes_98 hl (by decide) rfl (fun ls hl => ?_)
                refine lv_aload_n hx hb dX10_changes_100 rfl (lv_at hl 5 rfl) ?_
                refine va_getN (D := gD G) (ci := 13) (v := .ref gr) (C := RX8) (T := TX8) (N := 3) hx hb hts fwX8 hown hK hP 0 rfl rfl 0 (by decide) (va_Nw.use rfl (hE.1.1 _ nq975)) (fun _ h9 => h9) rfl dX10_changes_101 ?_
                refine lv_iload hx hb dX10_changes_104 (lv_at hl 9 rfl) ?_
                refine lv_aload hx hb dX10_changes_106 (lv_at hl 4 rfl) ?_
                refine lv_iload hx hb dX10_changes_108 (lv_at hl 1 rfl) ?_
                refine lv_iconst (v := nI 4) hx hb dX10_changes_110 (by decide) ?_
                refine lv_imul hx hb dX10_changes_111 ?_
                refine lv_toe (pk_mul a 4) ?_
                refine lv_iload hx hb dX10_changes_112 (lv_at hl 0 rfl) ?_
                refine lv_iadd hx hb dX10_changes_114 ?_
                refine lv_toe (nI_add (a * 4) (i % 4)) ?_
                refine va_iald (D := gD G) (cA := gyI G) (n := 16) (f := gv) hx hb hK hP 2 0 rfl rfl (vp_in_nI (n := a * 4 + (i % 4)) (N := 16) (by omega) (by omega)) dX10_changes_115 ?_
                obtain ⟨n_33, ⟨hln_33, hn_33⟩, en_33⟩ := hgv (a * 4 + (i % 4)) (by omega)
                refine lv_toe (show gv (nI (a * 4 + (i % 4))).toNatClampNeg = nI n_33 by rw [nI_clamp (by omega)]; exact en_33) ?_
                refine va_iast (D := gD G) (cA := gyI G) (n := 16) (f := g) hx hb hK hP hD hS 1 0 rfl rfl (vp_in_nI (n := i) (N := 16) (by omega) (by omega)) dX10_changes_116 (fun H locs hP hD hS => ?_)
                have hb_35 : inC 16 1 5 (upd g (nI i).toNatClampNeg (nI n_33)) := hg.upd (n := n_33) (by omega) (by omega) rfl
                generalize upd g (nI i).toNatClampNeg (nI n_33) = f_34 at hP hD hb_35
                have hP : va_P (gD G) vwCl [(pz, .inr (13, [.ref gr, .ref mr, .ref cg])), (gr, .inl (gyI G, 16, .inl f_34)), (q_1, .inl (gyI G, 16, .inl gv))] H := hP
                have hD : va_D A [(pz, .inr (13, [.ref gr, .ref mr, .ref cg])), (gr, .inl (gyI G, 16, .inl f_34)), (q_1, .inl (gyI G, 16, .inl gv))] := hD
                refine lv_iinc (v := nI (i + 1)) (lv' := [(5, .int (nI (i + 1))), (9, .int (nI (i % 4))), (8, .int (nI a)), (7, .int (nI (i % 4))), (6, .int (nI (i / 4))), (4, .ref q_1), (0, .ref pz), (1, .int (nI ar)), (2, .int (nI a)), (3, .int (nI b))]) hx hb dX10_changes_117 hl (k := 9) rfl (nI_add i 1) (by decide) rfl (fun ls hl => ?_)
                refine lv_goto (tgt := 15) hx hb dX10_changes_120 (by decide) ?_
                exact ih_15_1 (i + 1) f_34 (by omega) hb_35 (by omega) _ _ (hP.sub [0, 1, 2] rfl) (hD.sub [0, 1, 2] (by decide) rfl) hS ls (lv_sub hl [5, 6, 7, 8, 9, 0] rfl)
          · skip
            have c_4 : (i / 4) = a := (nI_eq (a := i / 4) (b := a) (by omega) (by omega)).mp c_4
            refine lv_iload_n hx hb dX10_changes_49 rfl (lv_at hl 6 rfl) ?_
            refine lv_goto (tgt := 65) hx hb dX10_changes_50 (by decide) ?_
            refine lv_istore (lv' := [(8, .int (nI b)), (7, .int (nI (i % 4))), (6, .int (nI (i / 4))), (4, .ref q_1), (0, .ref pz), (1, .int (nI ar)), (2, .int (nI a)), (3, .int (nI b)), (5, .int (nI i))]) hx hb dX10_changes_65 hl (by decide) rfl (fun ls hl => ?_)
            refine lv_iload_n hx hb dX10_changes_67 rfl (lv_at hl 5 rfl) ?_
            refine lv_if_eq (tgt := 76) hx hb dX10_changes_68 (by decide) (fun c_36 => ?_) (fun c_36 => ?_)
            · skip
              have c_36 : ar = 0 := (nI_eq (a := ar) (b := 0) (by omega) (by omega)).mp c_36
              refine lv_iload hx hb dX10_changes_76 (lv_at hl 1 rfl) ?_
              refine lv_iload_n hx hb dX10_changes_78 rfl (lv_at hl 6 rfl) ?_
              refine lv_icmp_ne (tgt := 86) hx hb dX10_changes_79 (by decide) (fun c_37 => ?_) (fun c_37 => ?_)
              · skip
                have c_37 : ¬ (i % 4) = a := fun z => c_37 ((nI_eq (a := i % 4) (b := a) (by omega) (by omega)).mpr z)
                refine lv_iload hx hb dX10_changes_86 (lv_at hl 1 rfl) ?_
                refine lv_iload_n hx hb dX10_changes_88 rfl (lv_at hl 7 rfl) ?_
                refine lv_icmp_ne (tgt := 96) hx hb dX10_changes_89 (by decide) (fun c_38 => ?_) (fun c_38 => ?_)
                · skip
                  have c_38 : ¬ (i % 4) = b := fun z => c_38 ((nI_eq (a := i % 4) (b := b) (by omega) (by omega)).mpr z)
                  refine lv_iload hx hb dX10_changes_96 (lv_at hl 1 rfl) ?_
                  refine lv_istore (lv' := [(9, .int (nI (i % 4))), (8, .int (nI b)), (7, .int (nI (i % 4))), (6, .int (nI (i / 4))), (4, .ref q_1), (0, .ref pz), (1, .int (nI ar)), (2, .int (nI a)), (3, .int (nI b)), (5, .int (nI i))]) hx hb dX10_changes_98 hl (by decide) rfl (fun ls hl => ?_)
                  refine lv_aload_n hx hb dX10_changes_100 rfl (lv_at hl 5 rfl) ?_
                  refine va_getN (D := gD G) (ci := 13) (v := .ref gr) (C := RX8) (T := TX8) (N := 3) hx hb hts fwX8 hown hK hP 0 rfl rfl 0 (by decide) (va_Nw.use rfl (hE.1.1 _ nq975)) (fun _ h9 => h9) rfl dX10_changes_101 ?_
                  refine lv_iload hx hb dX10_changes_104 (lv_at hl 9 rfl) ?_
                  refine lv_aload hx hb dX10_changes_106 (lv_at hl 4 rfl) ?_
                  refine lv_iload hx hb dX10_changes_108 (lv_at hl 1 rfl) ?_
                  refine lv_iconst (v := nI 4) hx hb dX10_changes_110 (by decide) ?_
                  refine lv_imul hx hb dX10_changes_111 ?_
                  refine lv_toe (pk_mul b 4) ?_
                  refine lv_iload hx hb dX10_changes_112 (lv_at hl 0 rfl) ?_
                  refine lv_iadd hx hb dX10_changes_114 ?_
                  refine lv_toe (nI_add (b * 4) (i % 4)) ?_
                  refine va_iald (D := gD G) (cA := gyI G) (n := 16) (f := gv) hx hb hK hP 2 0 rfl rfl (vp_in_nI (n := b * 4 + (i % 4)) (N := 16) (by omega) (by omega)) dX10_changes_115 ?_
                  obtain ⟨n_39, ⟨hln_39, hn_39⟩, en_39⟩ := hgv (b * 4 + (i % 4)) (by omega)
                  refine lv_toe (show gv (nI (b * 4 + (i % 4))).toNatClampNeg = nI n_39 by rw [nI_clamp (by omega)]; exact en_39) ?_
                  refine va_iast (D := gD G) (cA := gyI G) (n := 16) (f := g) hx hb hK hP hD hS 1 0 rfl rfl (vp_in_nI (n := i) (N := 16) (by omega) (by omega)) dX10_changes_116 (fun H locs hP hD hS => ?_)
                  have hb_41 : inC 16 1 5 (upd g (nI i).toNatClampNeg (nI n_39)) := hg.upd (n := n_39) (by omega) (by omega) rfl
                  generalize upd g (nI i).toNatClampNeg (nI n_39) = f_40 at hP hD hb_41
                  have hP : va_P (gD G) vwCl [(pz, .inr (13, [.ref gr, .ref mr, .ref cg])), (gr, .inl (gyI G, 16, .inl f_40)), (q_1, .inl (gyI G, 16, .inl gv))] H := hP
                  have hD : va_D A [(pz, .inr (13, [.ref gr, .ref mr, .ref cg])), (gr, .inl (gyI G, 16, .inl f_40)), (q_1, .inl (gyI G, 16, .inl gv))] := hD
                  refine lv_iinc (v := nI (i + 1)) (lv' := [(5, .int (nI (i + 1))), (9, .int (nI (i % 4))), (8, .int (nI b)), (7, .int (nI (i % 4))), (6, .int (nI (i / 4))), (4, .ref q_1), (0, .ref pz), (1, .int (nI ar)), (2, .int (nI a)), (3, .int (nI b))]) hx hb dX10_changes_117 hl (k := 9) rfl (nI_add i 1) (by decide) rfl (fun ls hl => ?_)
                  refine lv_goto (tgt := 15) hx hb dX10_changes_120 (by decide) ?_
                  exact ih_15_1 (i + 1) f_40 (by omega) hb_41 (by omega) _ _ (hP.sub [0, 1, 2] rfl) (hD.sub [0, 1, 2] (by decide) rfl) hS ls (lv_sub hl [5, 6, 7, 8, 9, 0] rfl)
                · skip
                  have c_38 : (i % 4) = b := (nI_eq (a := i % 4) (b := b) (by omega) (by omega)).mp c_38
                  refine lv_iload_n hx hb dX10_changes_92 rfl (lv_at hl 6 rfl) ?_
                  refine lv_goto (tgt := 98) hx hb dX10_changes_93 (by decide) ?_
                  refine lv_istore (lv' := [(9, .int (nI a)), (8, .int (nI b)), (7, .int (nI (i % 4))), (6, .int (nI (i / 4))), (4, .ref q_1), (0, .ref pz), (1, .int (nI ar)), (2, .int (nI a)), (3, .int (nI b)), (5, .int (nI i))]) hx hb dX10_changes_98 hl (by decide) rfl (fun ls hl => ?_)
                  refine lv_aload_n hx hb dX10_changes_100 rfl (lv_at hl 5 rfl) ?_
                  refine va_getN (D := gD G) (ci := 13) (v := .ref gr) (C := RX8) (T := TX8) (N := 3) hx hb hts fwX8 hown hK hP 0 rfl rfl 0 (by decide) (va_Nw.use rfl (hE.1.1 _ nq975)) (fun _ h9 => h9) rfl dX10_changes_101 ?_
                  refine lv_iload hx hb dX10_changes_104 (lv_at hl 9 rfl) ?_
                  refine lv_aload hx hb dX10_changes_106 (lv_at hl 4 rfl) ?_
                  refine lv_iload hx hb dX10_changes_108 (lv_at hl 1 rfl) ?_
                  refine lv_iconst (v := nI 4) hx hb dX10_changes_110 (by decide) ?_
                  refine lv_imul hx hb dX10_changes_111 ?_
                  refine lv_toe (pk_mul b 4) ?_
                  refine lv_iload hx hb dX10_changes_112 (lv_at hl 0 rfl) ?_
                  refine lv_iadd hx hb dX10_changes_114 ?_
                  refine lv_toe (nI_add (b * 4) a) ?_
                  refine va_iald (D := gD G) (cA := gyI G) (n := 16) (f := gv) hx hb hK hP 2 0 rfl rfl (vp_in_nI (n := b * 4 + a) (N := 16) (by omega) (by omega)) dX10_changes_115 ?_
                  obtain ⟨n_42, ⟨hln_42, hn_42⟩, en_42⟩ := hgv (b * 4 + a) (by omega)
                  refine lv_toe (show gv (nI (b * 4 + a)).toNatClampNeg = nI n_42 by rw [nI_clamp (by omega)]; exact en_42) ?_
                  refine va_iast (D := gD G) (cA := gyI G) (n := 16) (f := g) hx hb hK hP hD hS 1 0 rfl rfl (vp_in_nI (n := i) (N := 16) (by omega) (by omega)) dX10_changes_116 (fun H locs hP hD hS => ?_)
                  have hb_44 : inC 16 1 5 (upd g (nI i).toNatClampNeg (nI n_42)) := hg.upd (n := n_42) (by omega) (by omega) rfl
                  generalize upd g (nI i).toNatClampNeg (nI n_42) = f_43 at hP hD hb_44
                  have hP : va_P (gD G) vwCl [(pz, .inr (13, [.ref gr, .ref mr, .ref cg])), (gr, .inl (gyI G, 16, .inl f_43)), (q_1, .inl (gyI G, 16, .inl gv))] H := hP
                  have hD : va_D A [(pz, .inr (13, [.ref gr, .ref mr, .ref cg])), (gr, .inl (gyI G, 16, .inl f_43)), (q_1, .inl (gyI G, 16, .inl gv))] := hD
                  refine lv_iinc (v := nI (i + 1)) (lv' := [(5, .int (nI (i + 1))), (9, .int (nI a)), (8, .int (nI b)), (7, .int (nI (i % 4))), (6, .int (nI (i / 4))), (4, .ref q_1), (0, .ref pz), (1, .int (nI ar)), (2, .int (nI a)), (3, .int (nI b))]) hx hb dX10_changes_117 hl (k := 9) rfl (nI_add i 1) (by decide) rfl (fun ls hl => ?_)
                  refine lv_goto (tgt := 15) hx hb dX10_changes_120 (by decide) ?_
                  exact ih_15_1 (i + 1) f_43 (by omega) hb_44 (by omega) _ _ (hP.sub [0, 1, 2] rfl) (hD.sub [0, 1, 2] (by decide) rfl) hS ls (lv_sub hl [5, 6, 7, 8, 9, 0] rfl)
              · skip
                have c_37 : (i % 4) = a := (nI_eq (a := i % 4) (b := a) (by omega) (by omega)).mp c_37
                refine lv_iload_n hx hb dX10_changes_82 rfl (lv_at hl 7 rfl) ?_
                refine lv_goto (tgt := 98) hx hb dX10_changes_83 (by decide) ?_
                refine lv_istore (lv' := [(9, .int (nI b)), (8, .int (nI b)), (7, .int (nI (i % 4))), (6, .int (nI (i / 4))), (4, .ref q_1), (0, .ref pz), (1, .int (nI ar)), (2, .int (nI a)), (3, .int (nI b)), (5, .int (nI i))]) hx hb dX10_changes_98 hl (by decide) rfl (fun ls hl => ?_)
                refine lv_aload_n hx hb dX10_changes_100 rfl (lv_at hl 5 rfl) ?_
                refine va_getN (D := gD G) (ci := 13) (v := .ref gr) (C := RX8) (T := TX8) (N := 3) hx hb hts fwX8 hown hK hP 0 rfl rfl 0 (by decide) (va_Nw.use rfl (hE.1.1 _ nq975)) (fun _ h9 => h9) rfl dX10_changes_101 ?_
                refine lv_iload hx hb dX10_changes_104 (lv_at hl 9 rfl) ?_
                refine lv_aload hx hb dX10_changes_106 (lv_at hl 4 rfl) ?_
                refine lv_iload hx hb dX10_changes_108 (lv_at hl 1 rfl) ?_
                refine lv_iconst (v := nI 4) hx hb dX10_changes_110 (by decide) ?_
                refine lv_imul hx hb dX10_changes_111 ?_
                refine lv_toe (pk_mul b 4) ?_
                refine lv_iload hx hb dX10_changes_112 (lv_at hl 0 rfl) ?_
                refine lv_iadd hx hb dX10_changes_114 ?_
                refine lv_toe (nI_add (b * 4) b) ?_
                refine va_iald (D := gD G) (cA := gyI G) (n := 16) (f := gv) hx hb hK hP 2 0 rfl rfl (vp_in_nI (n := b * 4 + b) (N := 16) (by omega) (by omega)) dX10_changes_115 ?_
                obtain ⟨n_45, ⟨hln_45, hn_45⟩, en_45⟩ := hgv (b * 4 + b) (by omega)
                refine lv_toe (show gv (nI (b * 4 + b)).toNatClampNeg = nI n_45 by rw [nI_clamp (by omega)]; exact en_45) ?_
                refine va_iast (D := gD G) (cA := gyI G) (n := 16) (f := g) hx hb hK hP hD hS 1 0 rfl rfl (vp_in_nI (n := i) (N := 16) (by omega) (by omega)) dX10_changes_116 (fun H locs hP hD hS => ?_)
                have hb_47 : inC 16 1 5 (upd g (nI i).toNatClampNeg (nI n_45)) := hg.upd (n := n_45) (by omega) (by omega) rfl
                generalize upd g (nI i).toNatClampNeg (nI n_45) = f_46 at hP hD hb_47
                have hP : va_P (gD G) vwCl [(pz, .inr (13, [.ref gr, .ref mr, .ref cg])), (gr, .inl (gyI G, 16, .inl f_46)), (q_1, .inl (gyI G, 16, .inl gv))] H := hP
                have hD : va_D A [(pz, .inr (13, [.ref gr, .ref mr, .ref cg])), (gr, .inl (gyI G, 16, .inl f_46)), (q_1, .inl (gyI G, 16, .inl gv))] := hD
                refine lv_iinc (v := nI (i + 1)) (lv' := [(5, .int (nI (i + 1))), (9, .int (nI b)), (8, .int (nI b)), (7, .int (nI (i % 4))), (6, .int (nI (i / 4))), (4, .ref q_1), (0, .ref pz), (1, .int (nI ar)), (2, .int (nI a)), (3, .int (nI b))]) hx hb dX10_changes_117 hl (k := 9) rfl (nI_add i 1) (by decide) rfl (fun ls hl => ?_)
                refine lv_goto (tgt := 15) hx hb dX10_changes_120 (by decide) ?_
                exact ih_15_1 (i + 1) f_46 (by omega) hb_47 (by omega) _ _ (hP.sub [0, 1, 2] rfl) (hD.sub [0, 1, 2] (by decide) rfl) hS ls (lv_sub hl [5, 6, 7, 8, 9, 0] rfl)
            · skip
              have c_36 : ¬ ar = 0 := fun z => c_36 ((nI_eq (a := ar) (b := 0) (by omega) (by omega)).mpr z)
              refine lv_iload hx hb dX10_changes_71 (lv_at hl 1 rfl) ?_
              refine lv_goto (tgt := 98) hx hb dX10_changes_73 (by decide) ?_
              refine lv_istore (lv' := [(9, .int (nI (i % 4))), (8, .int (nI b)), (7, .int (nI (i % 4))), (6, .int (nI (i / 4))), (4, .ref q_1), (0, .ref pz), (1, .int (nI ar)), (2, .int (nI a)), (3, .int (nI b)), (5, .int (nI i))]) hx hb dX10_changes_98 hl (by decide) rfl (fun ls hl => ?_)
              refine lv_aload_n hx hb dX10_changes_100 rfl (lv_at hl 5 rfl) ?_
              refine va_getN (D := gD G) (ci := 13) (v := .ref gr) (C := RX8) (T := TX8) (N := 3) hx hb hts fwX8 hown hK hP 0 rfl rfl 0 (by decide) (va_Nw.use rfl (hE.1.1 _ nq975)) (fun _ h9 => h9) rfl dX10_changes_101 ?_
              refine lv_iload hx hb dX10_changes_104 (lv_at hl 9 rfl) ?_
              refine lv_aload hx hb dX10_changes_106 (lv_at hl 4 rfl) ?_
              refine lv_iload hx hb dX10_changes_108 (lv_at hl 1 rfl) ?_
              refine lv_iconst (v := nI 4) hx hb dX10_changes_110 (by decide) ?_
              refine lv_imul hx hb dX10_changes_111 ?_
              refine lv_toe (pk_mul b 4) ?_
              refine lv_iload hx hb dX10_changes_112 (lv_at hl 0 rfl) ?_
              refine lv_iadd hx hb dX10_changes_114 ?_
              refine lv_toe (nI_add (b * 4) (i % 4)) ?_
              refine va_iald (D := gD G) (cA := gyI G) (n := 16) (f := gv) hx hb hK hP 2 0 rfl rfl (vp_in_nI (n := b * 4 + (i % 4)) (N := 16) (by omega) (by omega)) dX10_changes_115 ?_
              obtain ⟨n_48, ⟨hln_48, hn_48⟩, en_48⟩ := hgv (b * 4 + (i % 4)) (by omega)
              refine lv_toe (show gv (nI (b * 4 + (i % 4))).toNatClampNeg = nI n_48 by rw [nI_clamp (by omega)]; exact en_48) ?_
              refine va_iast (D := gD G) (cA := gyI G) (n := 16) (f := g) hx hb hK hP hD hS 1 0 rfl rfl (vp_in_nI (n := i) (N := 16) (by omega) (by omega)) dX10_changes_116 (fun H locs hP hD hS => ?_)
              have hb_50 : inC 16 1 5 (upd g (nI i).toNatClampNeg (nI n_48)) := hg.upd (n := n_48) (by omega) (by omega) rfl
              generalize upd g (nI i).toNatClampNeg (nI n_48) = f_49 at hP hD hb_50
              have hP : va_P (gD G) vwCl [(pz, .inr (13, [.ref gr, .ref mr, .ref cg])), (gr, .inl (gyI G, 16, .inl f_49)), (q_1, .inl (gyI G, 16, .inl gv))] H := hP
              have hD : va_D A [(pz, .inr (13, [.ref gr, .ref mr, .ref cg])), (gr, .inl (gyI G, 16, .inl f_49)), (q_1, .inl (gyI G, 16, .inl gv))] := hD
              refine lv_iinc (v := nI (i + 1)) (lv' := [(5, .int (nI (i + 1))), (9, .int (nI (i % 4))), (8, .int (nI b)), (7, .int (nI (i % 4))), (6, .int (nI (i / 4))), (4, .ref q_1), (0, .ref pz), (1, .int (nI ar)), (2, .int (nI a)), (3, .int (nI b))]) hx hb dX10_changes_117 hl (k := 9) rfl (nI_add i 1) (by decide) rfl (fun ls hl => ?_)
              refine lv_goto (tgt := 15) hx hb dX10_changes_120 (by decide) ?_
              exact ih_15_1 (i + 1) f_49 (by omega) hb_50 (by omega) _ _ (hP.sub [0, 1, 2] rfl) (hD.sub [0, 1, 2] (by decide) rfl) hS ls (lv_sub hl [5, 6, 7, 8, 9, 0] rfl)
        · skip
          have c_3 : ar = 0 := (nI_eq (a := ar) (b := 0) (by omega) (by omega)).mp c_3
          refine lv_iload hx hb dX10_changes_38 (lv_at hl 1 rfl) ?_
          refine lv_goto (tgt := 65) hx hb dX10_changes_40 (by decide) ?_
          refine lv_istore (lv' := [(8, .int (nI (i / 4))), (7, .int (nI (i % 4))), (6, .int (nI (i / 4))), (4, .ref q_1), (0, .ref pz), (1, .int (nI ar)), (2, .int (nI a)), (3, .int (nI b)), (5, .int (nI i))]) hx hb dX10_changes_65 hl (by decide) rfl (fun ls hl => ?_)
          refine lv_iload_n hx hb dX10_changes_67 rfl (lv_at hl 5 rfl) ?_
          refine lv_if_eq (tgt := 76) hx hb dX10_changes_68 (by decide) (fun c_51 => ?_) (fun c_51 => ?_)
          · skip
            have c_51 : ar = 0 := (nI_eq (a := ar) (b := 0) (by omega) (by omega)).mp c_51
            refine lv_iload hx hb dX10_changes_76 (lv_at hl 1 rfl) ?_
            refine lv_iload_n hx hb dX10_changes_78 rfl (lv_at hl 6 rfl) ?_
            refine lv_icmp_ne (tgt := 86) hx hb dX10_changes_79 (by decide) (fun c_52 => ?_) (fun c_52 => ?_)
            · skip
              have c_52 : ¬ (i % 4) = a := fun z => c_52 ((nI_eq (a := i % 4) (b := a) (by omega) (by omega)).mpr z)
              refine lv_iload hx hb dX10_changes_86 (lv_at hl 1 rfl) ?_
              refine lv_iload_n hx hb dX10_changes_88 rfl (lv_at hl 7 rfl) ?_
              refine lv_icmp_ne (tgt := 96) hx hb dX10_changes_89 (by decide) (fun c_53 => ?_) (fun c_53 => ?_)
              · skip
                have c_53 : ¬ (i % 4) = b := fun z => c_53 ((nI_eq (a := i % 4) (b := b) (by omega) (by omega)).mpr z)
                refine lv_iload hx hb dX10_changes_96 (lv_at hl 1 rfl) ?_
                refine lv_istore (lv' := [(9, .int (nI (i % 4))), (8, .int (nI (i / 4))), (7, .int (nI (i % 4))), (6, .int (nI (i / 4))), (4, .ref q_1), (0, .ref pz), (1, .int (nI ar)), (2, .int (nI a)), (3, .int (nI b)), (5, .int (nI i))]) hx hb dX10_changes_98 hl (by decide) rfl (fun ls hl => ?_)
                refine lv_aload_n hx hb dX10_changes_100 rfl (lv_at hl 5 rfl) ?_
                refine va_getN (D := gD G) (ci := 13) (v := .ref gr) (C := RX8) (T := TX8) (N := 3) hx hb hts fwX8 hown hK hP 0 rfl rfl 0 (by decide) (va_Nw.use rfl (hE.1.1 _ nq975)) (fun _ h9 => h9) rfl dX10_changes_101 ?_
                refine lv_iload hx hb dX10_changes_104 (lv_at hl 9 rfl) ?_
                refine lv_aload hx hb dX10_changes_106 (lv_at hl 4 rfl) ?_
                refine lv_iload hx hb dX10_changes_108 (lv_at hl 1 rfl) ?_
                refine lv_iconst (v := nI 4) hx hb dX10_changes_110 (by decide) ?_
                refine lv_imul hx hb dX10_changes_111 ?_
                refine lv_toe (pk_mul (i / 4) 4) ?_
                refine lv_iload hx hb dX10_changes_112 (lv_at hl 0 rfl) ?_
                refine lv_iadd hx hb dX10_changes_114 ?_
                refine lv_toe (nI_add ((i / 4) * 4) (i % 4)) ?_
                refine va_iald (D := gD G) (cA := gyI G) (n := 16) (f := gv) hx hb hK hP 2 0 rfl rfl (vp_in_nI (n := (i / 4) * 4 + (i % 4)) (N := 16) (by omega) (by omega)) dX10_changes_115 ?_
                obtain ⟨n_54, ⟨hln_54, hn_54⟩, en_54⟩ := hgv ((i / 4) * 4 + (i % 4)) (by omega)
                refine lv_toe (show gv (nI ((i / 4) * 4 + (i % 4))).toNatClampNeg = nI n_54 by rw [nI_clamp (by omega)]; exact en_54) ?_
                refine va_iast (D := gD G) (cA := gyI G) (n := 16) (f := g) hx hb hK hP hD hS 1 0 rfl rfl (vp_in_nI (n := i) (N := 16) (by omega) (by omega)) dX10_changes_116 (fun H locs hP hD hS => ?_)
                have hb_56 : inC 16 1 5 (upd g (nI i).toNatClampNeg (nI n_54)) := hg.upd (n := n_54) (by omega) (by omega) rfl
                generalize upd g (nI i).toNatClampNeg (nI n_54) = f_55 at hP hD hb_56
                have hP : va_P (gD G) vwCl [(pz, .inr (13, [.ref gr, .ref mr, .ref cg])), (gr, .inl (gyI G, 16, .inl f_55)), (q_1, .inl (gyI G, 16, .inl gv))] H := hP
                have hD : va_D A [(pz, .inr (13, [.ref gr, .ref mr, .ref cg])), (gr, .inl (gyI G, 16, .inl f_55)), (q_1, .inl (gyI G, 16, .inl gv))] := hD
                refine lv_iinc (v := nI (i + 1)) (lv' := [(5, .int (nI (i + 1))), (9, .int (nI (i % 4))), (8, .int (nI (i / 4))), (7, .int (nI (i % 4))), (6, .int (nI (i / 4))), (4, .ref q_1), (0, .ref pz), (1, .int (nI ar)), (2, .int (nI a)), (3, .int (nI b))]) hx hb dX10_changes_117 hl (k := 9) rfl (nI_add i 1) (by decide) rfl (fun ls hl => ?_)
                refine lv_goto (tgt := 15) hx hb dX10_changes_120 (by decide) ?_
                exact ih_15_1 (i + 1) f_55 (by omega) hb_56 (by omega) _ _ (hP.sub [0, 1, 2] rfl) (hD.sub [0, 1, 2] (by decide) rfl) hS ls (lv_sub hl [5, 6, 7, 8, 9, 0] rfl)
              · skip
                have c_53 : (i % 4) = b := (nI_eq (a := i % 4) (b := b) (by omega) (by omega)).mp c_53
                refine lv_iload_n hx hb dX10_changes_92 rfl (lv_at hl 6 rfl) ?_
                refine lv_goto (tgt := 98) hx hb dX10_changes_93 (by decide) ?_
                refine lv_istore (lv' := [(9, .int (nI a)), (8, .int (nI (i / 4))), (7, .int (nI (i % 4))), (6, .int (nI (i / 4))), (4, .ref q_1), (0, .ref pz), (1, .int (nI ar)), (2, .int (nI a)), (3, .int (nI b)), (5, .int (nI i))]) hx hb dX10_changes_98 hl (by decide) rfl (fun ls hl => ?_)
                refine lv_aload_n hx hb dX10_changes_100 rfl (lv_at hl 5 rfl) ?_
                refine va_getN (D := gD G) (ci := 13) (v := .ref gr) (C := RX8) (T := TX8) (N := 3) hx hb hts fwX8 hown hK hP 0 rfl rfl 0 (by decide) (va_Nw.use rfl (hE.1.1 _ nq975)) (fun _ h9 => h9) rfl dX10_changes_101 ?_
                refine lv_iload hx hb dX10_changes_104 (lv_at hl 9 rfl) ?_
                refine lv_aload hx hb dX10_changes_106 (lv_at hl 4 rfl) ?_
                refine lv_iload hx hb dX10_changes_108 (lv_at hl 1 rfl) ?_
                refine lv_iconst (v := nI 4) hx hb dX10_changes_110 (by decide) ?_
                refine lv_imul hx hb dX10_changes_111 ?_
                refine lv_toe (pk_mul (i / 4) 4) ?_
                refine lv_iload hx hb dX10_changes_112 (lv_at hl 0 rfl) ?_
                refine lv_iadd hx hb dX10_changes_114 ?_
                refine lv_toe (nI_add ((i / 4) * 4) a) ?_
                refine va_iald (D := gD G) (cA := gyI G) (n := 16) (f := gv) hx hb hK hP 2 0 rfl rfl (vp_in_nI (n := (i / 4) * 4 + a) (N := 16) (by omega) (by omega)) dX10_changes_115 ?_
                obtain ⟨n_57, ⟨hln_57, hn_57⟩, en_57⟩ := hgv ((i / 4) * 4 + a) (by omega)
                refine lv_toe (show gv (nI ((i / 4) * 4 + a)).toNatClampNeg = nI n_57 by rw [nI_clamp (by omega)]; exact en_57) ?_
                refine va_iast (D := gD G) (cA := gyI G) (n := 16) (f := g) hx hb hK hP hD hS 1 0 rfl rfl (vp_in_nI (n := i) (N := 16) (by omega) (by omega)) dX10_changes_116 (fun H locs hP hD hS => ?_)
                have hb_59 : inC 16 1 5 (upd g (nI i).toNatClampNeg (nI n_57)) := hg.upd (n := n_57) (by omega) (by omega) rfl
                generalize upd g (nI i).toNatClampNeg (nI n_57) = f_58 at hP hD hb_59
                have hP : va_P (gD G) vwCl [(pz, .inr (13, [.ref gr, .ref mr, .ref cg])), (gr, .inl (gyI G, 16, .inl f_58)), (q_1, .inl (gyI G, 16, .inl gv))] H := hP
                have hD : va_D A [(pz, .inr (13, [.ref gr, .ref mr, .ref cg])), (gr, .inl (gyI G, 16, .inl f_58)), (q_1, .inl (gyI G, 16, .inl gv))] := hD
                refine lv_iinc (v := nI (i + 1)) (lv' := [(5, .int (nI (i + 1))), (9, .int (nI a)), (8, .int (nI (i / 4))), (7, .int (nI (i % 4))), (6, .int (nI (i / 4))), (4, .ref q_1), (0, .ref pz), (1, .int (nI ar)), (2, .int (nI a)), (3, .int (nI b))]) hx hb dX10_changes_117 hl (k := 9) rfl (nI_add i 1) (by decide) rfl (fun ls hl => ?_)
                refine lv_goto (tgt := 15) hx hb dX10_changes_120 (by decide) ?_
                exact ih_15_1 (i + 1) f_58 (by omega) hb_59 (by omega) _ _ (hP.sub [0, 1, 2] rfl) (hD.sub [0, 1, 2] (by decide) rfl) hS ls (lv_sub hl [5, 6, 7, 8, 9, 0] rfl)
            · skip
              have c_52 : (i % 4) = a := (nI_eq (a := i % 4) (b := a) (by omega) (by omega)).mp c_52
              refine lv_iload_n hx hb dX10_changes_82 rfl (lv_at hl 7 rfl) ?_
              refine lv_goto (tgt := 98) hx hb dX10_changes_83 (by decide) ?_
              refine lv_istore (lv' := [(9, .int (nI b)), (8, .int (nI (i / 4))), (7, .int (nI (i % 4))), (6, .int (nI (i / 4))), (4, .ref q_1), (0, .ref pz), (1, .int (nI ar)), (2, .int (nI a)), (3, .int (nI b)), (5, .int (nI i))]) hx hb dX10_changes_98 hl (by decide) rfl (fun ls hl => ?_)
              refine lv_aload_n hx hb dX10_changes_100 rfl (lv_at hl 5 rfl) ?_
              refine va_getN (D := gD G) (ci := 13) (v := .ref gr) (C := RX8) (T := TX8) (N := 3) hx hb hts fwX8 hown hK hP 0 rfl rfl 0 (by decide) (va_Nw.use rfl (hE.1.1 _ nq975)) (fun _ h9 => h9) rfl dX10_changes_101 ?_
              refine lv_iload hx hb dX10_changes_104 (lv_at hl 9 rfl) ?_
              refine lv_aload hx hb dX10_changes_106 (lv_at hl 4 rfl) ?_
              refine lv_iload hx hb dX10_changes_108 (lv_at hl 1 rfl) ?_
              refine lv_iconst (v := nI 4) hx hb dX10_changes_110 (by decide) ?_
              refine lv_imul hx hb dX10_changes_111 ?_
              refine lv_toe (pk_mul (i / 4) 4) ?_
              refine lv_iload hx hb dX10_changes_112 (lv_at hl 0 rfl) ?_
              refine lv_iadd hx hb dX10_changes_114 ?_
              refine lv_toe (nI_add ((i / 4) * 4) b) ?_
              refine va_iald (D := gD G) (cA := gyI G) (n := 16) (f := gv) hx hb hK hP 2 0 rfl rfl (vp_in_nI (n := (i / 4) * 4 + b) (N := 16) (by omega) (by omega)) dX10_changes_115 ?_
              obtain ⟨n_60, ⟨hln_60, hn_60⟩, en_60⟩ := hgv ((i / 4) * 4 + b) (by omega)
              refine lv_toe (show gv (nI ((i / 4) * 4 + b)).toNatClampNeg = nI n_60 by rw [nI_clamp (by omega)]; exact en_60) ?_
              refine va_iast (D := gD G) (cA := gyI G) (n := 16) (f := g) hx hb hK hP hD hS 1 0 rfl rfl (vp_in_nI (n := i) (N := 16) (by omega) (by omega)) dX10_changes_116 (fun H locs hP hD hS => ?_)
              have hb_62 : inC 16 1 5 (upd g (nI i).toNatClampNeg (nI n_60)) := hg.upd (n := n_60) (by omega) (by omega) rfl
              generalize upd g (nI i).toNatClampNeg (nI n_60) = f_61 at hP hD hb_62
              have hP : va_P (gD G) vwCl [(pz, .inr (13, [.ref gr, .ref mr, .ref cg])), (gr, .inl (gyI G, 16, .inl f_61)), (q_1, .inl (gyI G, 16, .inl gv))] H := hP
              have hD : va_D A [(pz, .inr (13, [.ref gr, .ref mr, .ref cg])), (gr, .inl (gyI G, 16, .inl f_61)), (q_1, .inl (gyI G, 16, .inl gv))] := hD
              refine lv_iinc (v := nI (i + 1)) (lv' := [(5, .int (nI (i + 1))), (9, .int (nI b)), (8, .int (nI (i / 4))), (7, .int (nI (i % 4))), (6, .int (nI (i / 4))), (4, .ref q_1), (0, .ref pz), (1, .int (nI ar)), (2, .int (nI a)), (3, .int (nI b))]) hx hb dX10_changes_117 hl (k := 9) rfl (nI_add i 1) (by decide) rfl (fun ls hl => ?_)
              refine lv_goto (tgt := 15) hx hb dX10_changes_120 (by decide) ?_
              exact ih_15_1 (i + 1) f_61 (by omega) hb_62 (by omega) _ _ (hP.sub [0, 1, 2] rfl) (hD.sub [0, 1, 2] (by decide) rfl) hS ls (lv_sub hl [5, 6, 7, 8, 9, 0] rfl)
          · skip
            have c_51 : ¬ ar = 0 := fun z => c_51 ((nI_eq (a := ar) (b := 0) (by omega) (by omega)).mpr z)
            refine lv_iload hx hb dX10_changes_71 (lv_at hl 1 rfl) ?_
            refine lv_goto (tgt := 98) hx hb dX10_changes_73 (by decide) ?_
            refine lv_istore (lv' := [(9, .int (nI (i % 4))), (8, .int (nI (i / 4))), (7, .int (nI (i % 4))), (6, .int (nI (i / 4))), (4, .ref q_1), (0, .ref pz), (1, .int (nI ar)), (2, .int (nI a)), (3, .int (nI b)), (5, .int (nI i))]) hx hb dX10_changes_98 hl (by decide) rfl (fun ls hl => ?_)
            refine lv_aload_n hx hb dX10_changes_100 rfl (lv_at hl 5 rfl) ?_
            refine va_getN (D := gD G) (ci := 13) (v := .ref gr) (C := RX8) (T := TX8) (N := 3) hx hb hts fwX8 hown hK hP 0 rfl rfl 0 (by decide) (va_Nw.use rfl (hE.1.1 _ nq975)) (fun _ h9 => h9) rfl dX10_changes_101 ?_
            refine lv_iload hx hb dX10_changes_104 (lv_at hl 9 rfl) ?_
            refine lv_aload hx hb dX10_changes_106 (lv_at hl 4 rfl) ?_
            refine lv_iload hx hb dX10_changes_108 (lv_at hl 1 rfl) ?_
            refine lv_iconst (v := nI 4) hx hb dX10_changes_110 (by decide) ?_
            refine lv_imul hx hb dX10_changes_111 ?_
            refine lv_toe (pk_mul (i / 4) 4) ?_
            refine lv_iload hx hb dX10_changes_112 (lv_at hl 0 rfl) ?_
            refine lv_iadd hx hb dX10_changes_114 ?_
            refine lv_toe (nI_add ((i / 4) * 4) (i % 4)) ?_
            refine va_iald (D := gD G) (cA := gyI G) (n := 16) (f := gv) hx hb hK hP 2 0 rfl rfl (vp_in_nI (n := (i / 4) * 4 + (i % 4)) (N := 16) (by omega) (by omega)) dX10_changes_115 ?_
            obtain ⟨n_63, ⟨hln_63, hn_63⟩, en_63⟩ := hgv ((i / 4) * 4 + (i % 4)) (by omega)
            refine lv_toe (show gv (nI ((i / 4) * 4 + (i % 4))).toNatClampNeg = nI n_63 by rw [nI_clamp (by omega)]; exact en_63) ?_
            refine va_iast (D := gD G) (cA := gyI G) (n := 16) (f := g) hx hb hK hP hD hS 1 0 rfl rfl (vp_in_nI (n := i) (N := 16) (by omega) (by omega)) dX10_changes_116 (fun H locs hP hD hS => ?_)
            have hb_65 : inC 16 1 5 (upd g (nI i).toNatClampNeg (nI n_63)) := hg.upd (n := n_63) (by omega) (by omega) rfl
            generalize upd g (nI i).toNatClampNeg (nI n_63) = f_64 at hP hD hb_65
            have hP : va_P (gD G) vwCl [(pz, .inr (13, [.ref gr, .ref mr, .ref cg])), (gr, .inl (gyI G, 16, .inl f_64)), (q_1, .inl (gyI G, 16, .inl gv))] H := hP
            have hD : va_D A [(pz, .inr (13, [.ref gr, .ref mr, .ref cg])), (gr, .inl (gyI G, 16, .inl f_64)), (q_1, .inl (gyI G, 16, .inl gv))] := hD
            refine lv_iinc (v := nI (i + 1)) (lv' := [(5, .int (nI (i + 1))), (9, .int (nI (i % 4))), (8, .int (nI (i / 4))), (7, .int (nI (i % 4))), (6, .int (nI (i / 4))), (4, .ref q_1), (0, .ref pz), (1, .int (nI ar)), (2, .int (nI a)), (3, .int (nI b))]) hx hb dX10_changes_117 hl (k := 9) rfl (nI_add i 1) (by decide) rfl (fun ls hl => ?_)
            refine lv_goto (tgt := 15) hx hb dX10_changes_120 (by decide) ?_
            exact ih_15_1 (i + 1) f_64 (by omega) hb_65 (by omega) _ _ (hP.sub [0, 1, 2] rfl) (hD.sub [0, 1, 2] (by decide) rfl) hS ls (lv_sub hl [5, 6, 7, 8, 9, 0] rfl)
  exact cut_15_1 (16 - 0 + 1) 0 gv (by omega) hgv (Nat.lt_succ_self _) _ _ (hP.sub [0, 1, 2] rfl) (hD.sub [0, 1, 2] (by decide) rfl) hS ls (lv_sub hl [1, 2, 3, 4, 5, 0] rfl)
set_option maxHeartbeats 4000000 in
set_option maxRecDepth 100000 in
theorem c_X8_init (l : Launch) (G : GG) (pz : Nat) : Mv l G yX8_init cX8_init 1 ({ frames := 4, cells := 3, slots := 35, locals := 80 } : Room) [.ref pz] [(pz, .inr (13, [.null, .null, .null]))] (fun (u : Nat × Nat × Nat × (Nat → Int32)) => True) (fun (u : Nat × Nat × Nat × (Nat → Int32)) => [(pz, .inr (13, [.ref u.1, .ref u.2.1, .ref u.2.2.1])), (u.1, .inl (gyI G, 16, .inl u.2.2.2))]) := by
  intro sz
  refine Met.ofW (cc := cX8_init) (maxL := 1) (ret := none) (by decide) rfl ?_
  intro p e s m args below meth c s₁ B9 hml hv
  obtain ⟨rfl, hsz, hP, hK, hD0, hE⟩ := hv
  have hx := B9.exec
  have hb := B9.bytes
  have hr := B9.returns
  have hts : ∀ w ∈ WW, w.before ([.ref pz] : List Value).toArray s = true := fun w h => atoms_spec (ws := .code yX8_init cX8_init 1 none :: WW) B9.pre w (List.mem_cons_of_mem _ h)
  have hown : s.vm.findClass RX8 = some m.cls := findClass_of_methodNamed B9.named
  have hin : meth.name = "<init>" := (name_of_methodNamed B9.named B9.method).1
  subst hsz
  have hD := hD0.self (sz := s.heap.size)
  generalize hAe : va_A [(pz, .inr (13, [.null, .null, .null]))] s.heap.size = A at hD hE ⊢
  have hA : ∀ q : Nat, s.heap.size ≤ q → A q := fun q h => by rw [← hAe]; exact Or.inr h
  have hl := lv_entry ([.ref pz]) (n := 1) (Nat.le_of_ble_eq_true rfl)
  rw [lg_entry_eq]
  generalize (lg_sl ([.ref pz]) ++ List.replicate (1 - (lg_sl ([.ref pz])).length) Slot.unset).toArray = ls at hl ⊢
  have hl : lv_has ls 1 [(0, .ref pz)] := hl
  refine qgen (fun Q hQ => ?_)
  refine hgen (fun H locs hP hD hS => ?_) hP hD
  refine lv_aload_n hx hb dX8_init_0 rfl (lv_at hl 0 rfl) ?_
  refine W.objInit hx hb hown (hts _ q971) (hts _ q86) (hts _ q87) rfl (by rw [hml]; exact hl.1) rfl dX8_init_1 (Nat.le_of_ble_eq_true rfl) (Nat.le_of_ble_eq_true rfl) ?_
  refine W.eq (g2 := F0 m 4 ls []) rfl ?_
  refine lv_aload_n hx hb dX8_init_4 rfl (lv_at hl 0 rfl) ?_
  refine lv_bipush (v := nI 16) hx hb dX8_init_5 (by decide) ?_
  refine va_newa (D := gD G) (atype := .int) (ty := .int) (a0 := (16, .inl (fun _ => 0))) hx hb (hts _ q135) rfl hK hP hD hS hA (fun _ => rfl) (nI_pos (by omega)) (nI_clamp (by omega)) (Nat.le_of_ble_eq_true rfl) (Nat.le_of_ble_eq_true rfl) (Nat.le_of_ble_eq_true rfl) dX8_init_7 (fun q_1 cA_2 H hKn hP hD hS => ?_)
  obtain rfl := ty_one_I hK hKn
  have hP : va_P (gD G) vwCl [(pz, .inr (13, [.null, .null, .null])), (q_1, .inl (gyI G, 16, .inl (fun _ => 0)))] H := hP
  have hD : va_D A [(pz, .inr (13, [.null, .null, .null])), (q_1, .inl (gyI G, 16, .inl (fun _ => 0)))] := hD
  refine va_putF (D := gD G) (ci := 13) (v := .ref q_1) (ty := .array .int) (C := RX8) (T := TX8) (N := 3) hx hb hts fwX8 tyX8 tyX8_ok nmX8 hown hK hP hD hS 0 rfl rfl 0 (by decide) (hts _ q974) (fun _ h9 => h9) rfl hin rfl (by decide +kernel) rfl rfl (Nat.le_of_ble_eq_true rfl) dX8_init_9 (fun H locs hP hD hS => ?_)
  have hP : va_P (gD G) vwCl [(pz, .inr (13, [.ref q_1, .null, .null])), (q_1, .inl (gyI G, 16, .inl (fun _ => 0)))] H := hP
  have hD : va_D A [(pz, .inr (13, [.ref q_1, .null, .null])), (q_1, .inl (gyI G, 16, .inl (fun _ => 0)))] := hD
  refine lv_aload_n hx hb dX8_init_12 rfl (lv_at hl 0 rfl) ?_
  refine lv_bipush (v := nI 16) hx hb dX8_init_13 (by decide) ?_
  refine va_newa (D := gD G) (atype := .int) (ty := .int) (a0 := (16, .inl (fun _ => 0))) hx hb (hts _ q135) rfl hK hP hD hS hA (fun _ => rfl) (nI_pos (by omega)) (nI_clamp (by omega)) (Nat.le_of_ble_eq_true rfl) (Nat.le_of_ble_eq_true rfl) (Nat.le_of_ble_eq_true rfl) dX8_init_15 (fun q_3 cA_4 H hKn hP hD hS => ?_)
  obtain rfl := ty_one_I hK hKn
  have hP : va_P (gD G) vwCl [(pz, .inr (13, [.ref q_1, .null, .null])), (q_1, .inl (gyI G, 16, .inl (fun _ => 0))), (q_3, .inl (gyI G, 16, .inl (fun _ => 0)))] H := hP
  have hD : va_D A [(pz, .inr (13, [.ref q_1, .null, .null])), (q_1, .inl (gyI G, 16, .inl (fun _ => 0))), (q_3, .inl (gyI G, 16, .inl (fun _ => 0)))] := hD
  refine va_putF (D := gD G) (ci := 13) (v := .ref q_3) (ty := .array .int) (C := RX8) (T := TX8) (N := 3) hx hb hts fwX8 tyX8 tyX8_ok nmX8 hown hK hP hD hS 0 rfl rfl 1 (by decide) (hts _ q976) (fun _ h9 => h9) rfl hin rfl (by decide +kernel) rfl rfl (Nat.le_of_ble_eq_true rfl) dX8_init_17 (fun H locs hP hD hS => ?_)
  have hP : va_P (gD G) vwCl [(pz, .inr (13, [.ref q_1, .ref q_3, .null])), (q_1, .inl (gyI G, 16, .inl (fun _ => 0))), (q_3, .inl (gyI G, 16, .inl (fun _ => 0)))] H := hP
  have hD : va_D A [(pz, .inr (13, [.ref q_1, .ref q_3, .null])), (q_1, .inl (gyI G, 16, .inl (fun _ => 0))), (q_3, .inl (gyI G, 16, .inl (fun _ => 0)))] := hD
  refine lv_aload_n hx hb dX8_init_20 rfl (lv_at hl 0 rfl) ?_
  refine va_new (D := gD G) (ci := 4) (fs := [.int 0, .null, .int 0]) (C := RJx4a65c) (T := TJx4a65c) (N := 3) hx hb hts fwJx4a65c tyJx4a65c tyJx4a65c_ok hown (hts _ q972) (hts _ q89) (hts _ q48) hK hP hD hS hA rfl (fun j hj => by rcases (show j = 0 ∨ j = 1 ∨ j = 2 by omega) with rfl | rfl | rfl <;> rfl) (Nat.le_of_ble_eq_true rfl) (Nat.le_of_ble_eq_true rfl) dX8_init_21 (fun q_5 H hP hD hS => ?_)
  have hP : va_P (gD G) vwCl [(pz, .inr (13, [.ref q_1, .ref q_3, .null])), (q_1, .inl (gyI G, 16, .inl (fun _ => 0))), (q_3, .inl (gyI G, 16, .inl (fun _ => 0))), (q_5, .inr (4, [.int (nI 0), .null, .int (nI 0)]))] H := hP
  have hD : va_D A [(pz, .inr (13, [.ref q_1, .ref q_3, .null])), (q_1, .inl (gyI G, 16, .inl (fun _ => 0))), (q_3, .inl (gyI G, 16, .inl (fun _ => 0))), (q_5, .inr (4, [.int (nI 0), .null, .int (nI 0)]))] := hD
  refine lv_dup hx hb dX8_init_24 rfl ?_
  refine fin_v hP hD hS hA [3] [0, 1, 2] (wr := [(pz, .inr (13, [.ref q_1, .ref q_3, .null])), (q_1, .inl (gyI G, 16, .inl (fun _ => 0))), (q_3, .inl (gyI G, 16, .inl (fun _ => 0)))]) rfl rfl (by decide) (by decide) (va_runI (As := []) (rest := [.ref q_5, .ref pz]) ⟨hx, hb, hml, hown, hts⟩ (c_Jx4a65c_init_da8c8 l G q_5 H.size) (cwI 0 hts (gI q92) rfl rfl rfl (hts _ q48) (hts _ q973) (hts _ q91) rfl (by decide +kernel) ⟨Nat.le_of_ble_eq_true rfl, Nat.le_of_ble_eq_true rfl⟩) (preS hK hE hP hD hS hA [3] rfl (by decide)) rfl rfl hl.1 rfl (lv_room (Nat.le_of_ble_eq_true rfl)) dX8_init_25 ⟨Nat.le_of_ble_eq_true rfl, Nat.le_of_ble_eq_true rfl⟩) (fun u9 hw_6 H locs hP hD hS => ?_)
  have hP : va_P (gD G) vwCl [(pz, .inr (13, [.ref q_1, .ref q_3, .null])), (q_1, .inl (gyI G, 16, .inl (fun _ => 0))), (q_3, .inl (gyI G, 16, .inl (fun _ => 0))), (q_5, .inr (4, [.int (nI 0), .ref (gE G), .int (nI 0)]))] H := hP
  have hD : va_D A [(pz, .inr (13, [.ref q_1, .ref q_3, .null])), (q_1, .inl (gyI G, 16, .inl (fun _ => 0))), (q_3, .inl (gyI G, 16, .inl (fun _ => 0))), (q_5, .inr (4, [.int (nI 0), .ref (gE G), .int (nI 0)]))] := hD
  refine va_putF (D := gD G) (ci := 13) (v := .ref q_5) (ty := .object "java/util/List") (C := RX8) (T := TX8) (N := 3) hx hb hts fwX8 tyX8 tyX8_ok nmX8 hown hK hP hD hS 0 rfl rfl 2 (by decide) (hts _ q978) (fun _ h9 => h9) rfl hin rfl (by decide +kernel) rfl rfl (Nat.le_of_ble_eq_true rfl) dX8_init_28 (fun H locs hP hD hS => ?_)
  have hP : va_P (gD G) vwCl [(pz, .inr (13, [.ref q_1, .ref q_3, .ref q_5])), (q_1, .inl (gyI G, 16, .inl (fun _ => 0))), (q_3, .inl (gyI G, 16, .inl (fun _ => 0))), (q_5, .inr (4, [.int (nI 0), .ref (gE G), .int (nI 0)]))] H := hP
  have hD : va_D A [(pz, .inr (13, [.ref q_1, .ref q_3, .ref q_5])), (q_1, .inl (gyI G, 16, .inl (fun _ => 0))), (q_3, .inl (gyI G, 16, .inl (fun _ => 0))), (q_5, .inr (4, [.int (nI 0), .ref (gE G), .int (nI 0)]))] := hD
  have hP9 := hP.sub (ws' := [(pz, .inr (13, [.ref q_1, .ref q_3, .ref q_5])), (q_1, .inl (gyI G, 16, .inl (fun _ => 0)))]) [0, 1] rfl
  have hD9 := hD.sub (ws' := [(pz, .inr (13, [.ref q_1, .ref q_3, .ref q_5])), (q_1, .inl (gyI G, 16, .inl (fun _ => 0)))]) [0, 1] (by decide) rfl
  subst hQ
  exact W.vret hx hb hr (fun t ht hW => ⟨⟨(q_1, q_3, q_5, (fun _ => 0)), rfl, trivial, by rw [ht]; exact hP9, hD9⟩, hS.F ht⟩) hS.2.2 dX8_init_31
set_option maxHeartbeats 4000000 in
set_option maxRecDepth 100000 in
theorem c_J7_fill_53178 (l : Launch) (G : GG) (ca : Nat) (f : Nat → Int32) (x : Nat) (hx16 : x < 16) : Mv l G yJ7_fill_53178 cJ7_fill_53178 4 ({ frames := 0, cells := 0, slots := 0, locals := 0 } : Room) [.ref ca, .int (nI x)] [(ca, .inl (gyI G, 16, .inl f))] (fun (u : (Nat → Int32)) => inB 16 16 u) (fun (u : (Nat → Int32)) => [(ca, .inl (gyI G, 16, .inl u))]) := by
  intro sz
  refine Met.ofW (cc := cJ7_fill_53178) (maxL := 4) (ret := none) (by decide) rfl ?_
  intro p e s m args below meth c s₁ B9 hml hv
  obtain ⟨rfl, hsz, hP, hK, hD0, hE⟩ := hv
  have hx := B9.exec
  have hb := B9.bytes
  have hr := B9.returns
  have hts : ∀ w ∈ WW, w.before ([.ref ca, .int (nI x)] : List Value).toArray s = true := fun w h => atoms_spec (ws := .code yJ7_fill_53178 cJ7_fill_53178 4 none :: WW) B9.pre w (List.mem_cons_of_mem _ h)
  have hown : s.vm.findClass RJ7 = some m.cls := findClass_of_methodNamed B9.named
  subst hsz
  have hD := hD0.self (sz := s.heap.size)
  generalize hAe : va_A [(ca, .inl (gyI G, 16, .inl f))] s.heap.size = A at hD hE ⊢
  have hA : ∀ q : Nat, s.heap.size ≤ q → A q := fun q h => by rw [← hAe]; exact Or.inr h
  have hl := lv_entry ([.ref ca, .int (nI x)]) (n := 4) (Nat.le_of_ble_eq_true rfl)
  rw [lg_entry_eq]
  generalize (lg_sl ([.ref ca, .int (nI x)]) ++ List.replicate (4 - (lg_sl ([.ref ca, .int (nI x)])).length) Slot.unset).toArray = ls at hl ⊢
  have hl : lv_has ls 4 [(0, .ref ca), (1, .int (nI x))] := hl
  refine qgen (fun Q hQ => ?_)
  refine hgen (fun H locs hP hD hS => ?_) hP hD
  refine lv_iconst (v := nI 0) hx hb dJ7_fill_53178_0 (by decide) ?_
  refine lv_istore_n (lv' := [(2, .int (nI 0)), (0, .ref ca), (1, .int (nI x))]) hx hb dJ7_fill_53178_1 rfl hl (by decide) rfl (fun ls hl => ?_)
  refine lv_aload_n hx hb dJ7_fill_53178_2 rfl (lv_at hl 1 rfl) ?_
  refine va_alen (D := gD G) (v := nI 16) hx hb hK hP 0 0 rfl rfl rfl dJ7_fill_53178_3 ?_
  refine lv_istore_n (lv' := [(3, .int (nI 16)), (2, .int (nI 0)), (0, .ref ca), (1, .int (nI x))]) hx hb dJ7_fill_53178_4 rfl hl (by decide) rfl (fun ls hl => ?_)
  have cut_5_1 : ∀ (n9 : Nat) (i : Nat) (g : Nat → Int32) (hi : i ≤ 16) (hg : inB i 16 g) (hm9 : 16 - i < n9) (H : Heap) (locs : List Loc), va_P (gD G) vwCl [(ca, .inl (gyI G, 16, .inl g))] H → va_D A [(ca, .inl (gyI G, 16, .inl g))] → va_S A s.heap H locs → ∀ (ls : Array Slot), lv_has ls 4 [(0, .ref ca), (1, .int (nI x)), (2, .int (nI i)), (3, .int (nI 16))] → W p l e ({ frames := 0, cells := 0, slots := 0, locals := 0 } : Room) s m ([.ref ca, .int (nI x)] : List Value).toArray below meth c H locs 0 0 Q (F0 m 5 ls []) := by
    intro n9
    induction n9 with
    | zero =>
      intro i g hi hg hm9
      exact absurd hm9 (Nat.not_lt_zero _)
    | succ n9 ih_5_1 =>
      intro i g hi hg hm9 H locs hP hD hS ls hl
      refine lv_iload_n hx hb dJ7_fill_53178_5 rfl (lv_at hl 2 rfl) ?_
      refine lv_iload_n hx hb dJ7_fill_53178_6 rfl (lv_at hl 3 rfl) ?_
      refine lv_icmp_ge (tgt := 20) hx hb dJ7_fill_53178_7 (by decide) (fun c_1 => ?_) (fun c_1 => ?_)
      · skip
        have c_1 : 16 ≤ i := (nI_leI (a := 16) (b := i) (by omega) (by omega)).mp c_1
        obtain rfl : i = 16 := by omega
        have hP9 := hP.sub (ws' := [(ca, .inl (gyI G, 16, .inl g))]) [0] rfl
        have hD9 := hD.sub (ws' := [(ca, .inl (gyI G, 16, .inl g))]) [0] (by decide) rfl
        subst hQ
        exact W.vret hx hb hr (fun t ht hW => ⟨⟨g, rfl, hg, by rw [ht]; exact hP9, hD9⟩, hS.F ht⟩) hS.2.2 dJ7_fill_53178_20
      · skip
        have c_1 : ¬ 16 ≤ i := fun z => c_1 ((nI_leI (a := 16) (b := i) (by omega) (by omega)).mpr z)
        refine lv_aload_n hx hb dJ7_fill_53178_10 rfl (lv_at hl 0 rfl) ?_
        refine lv_iload_n hx hb dJ7_fill_53178_11 rfl (lv_at hl 2 rfl) ?_
        refine lv_iload_n hx hb dJ7_fill_53178_12 rfl (lv_at hl 1 rfl) ?_
        refine va_iast (D := gD G) (cA := gyI G) (n := 16) (f := g) hx hb hK hP hD hS 0 0 rfl rfl (vp_in_nI (n := i) (N := 16) (by omega) (by omega)) dJ7_fill_53178_13 (fun H locs hP hD hS => ?_)
        have hb_3 : inB (i + 1) 16 (upd g (nI i).toNatClampNeg (nI x)) := by rw [nI_clamp (by omega)]; exact inB_snoc hg (n := x) (by omega) rfl
        generalize upd g (nI i).toNatClampNeg (nI x) = f_2 at hP hD hb_3
        have hP : va_P (gD G) vwCl [(ca, .inl (gyI G, 16, .inl f_2))] H := hP
        have hD : va_D A [(ca, .inl (gyI G, 16, .inl f_2))] := hD
        refine lv_iinc (v := nI (i + 1)) (lv' := [(2, .int (nI (i + 1))), (0, .ref ca), (1, .int (nI x)), (3, .int (nI 16))]) hx hb dJ7_fill_53178_14 hl (k := 2) rfl (nI_add i 1) (by decide) rfl (fun ls hl => ?_)
        refine lv_goto (tgt := 5) hx hb dJ7_fill_53178_17 (by decide) ?_
        exact ih_5_1 (i + 1) f_2 (by omega) hb_3 (by omega) _ _ (hP.sub [0] rfl) (hD.sub [0] (by decide) rfl) hS ls (lv_sub hl [1, 2, 0, 3] rfl)
  exact cut_5_1 (16 - 0 + 1) 0 f (by omega) inB.nil (Nat.lt_succ_self _) _ _ (hP.sub [0] rfl) (hD.sub [0] (by decide) rfl) hS ls (lv_sub hl [2, 3, 1, 0] rfl)
set_option maxHeartbeats 4000000 in
set_option maxRecDepth 100000 in
theorem c_Jxd2413_init_da8c8 (l : Launch) (G : GG) (it : Nat) (x : Int32) : Mv l G yJxd2413_init_da8c8 cJxd2413_init_da8c8 1 ({ frames := 1, cells := 0, slots := 0, locals := 20 } : Room) [.ref it] [(it, .inr (1, [.int x]))] (fun (u : Unit) => True) (fun (u : Unit) => [(it, .inr (1, [.int x]))]) := by
  intro sz
  refine Met.ofW (cc := cJxd2413_init_da8c8) (maxL := 1) (ret := none) (by decide) rfl ?_
  intro p e s m args below meth c s₁ B9 hml hv
  obtain ⟨rfl, hsz, hP, hK, hD0, hE⟩ := hv
  have hx := B9.exec
  have hb := B9.bytes
  have hr := B9.returns
  have hts : ∀ w ∈ WW, w.before ([.ref it] : List Value).toArray s = true := fun w h => atoms_spec (ws := .code yJxd2413_init_da8c8 cJxd2413_init_da8c8 1 none :: WW) B9.pre w (List.mem_cons_of_mem _ h)
  have hown : s.vm.findClass RJxd2413 = some m.cls := findClass_of_methodNamed B9.named
  have hin : meth.name = "<init>" := (name_of_methodNamed B9.named B9.method).1
  subst hsz
  have hD := hD0.self (sz := s.heap.size)
  generalize hAe : va_A [(it, .inr (1, [.int x]))] s.heap.size = A at hD hE ⊢
  have hA : ∀ q : Nat, s.heap.size ≤ q → A q := fun q h => by rw [← hAe]; exact Or.inr h
  have hl := lv_entry ([.ref it]) (n := 1) (Nat.le_of_ble_eq_true rfl)
  rw [lg_entry_eq]
  generalize (lg_sl ([.ref it]) ++ List.replicate (1 - (lg_sl ([.ref it])).length) Slot.unset).toArray = ls at hl ⊢
  have hl : lv_has ls 1 [(0, .ref it)] := hl
  refine qgen (fun Q hQ => ?_)
  refine hgen (fun H locs hP hD hS => ?_) hP hD
  refine lv_aload_n hx hb dJxd2413_init_da8c8_0 rfl (lv_at hl 0 rfl) ?_
  refine W.objInit hx hb hown (hts _ q1191) (hts _ q86) (hts _ q87) rfl (by rw [hml]; exact hl.1) rfl dJxd2413_init_da8c8_1 (Nat.le_of_ble_eq_true rfl) (Nat.le_of_ble_eq_true rfl) ?_
  refine W.eq (g2 := F0 m 4 ls []) rfl ?_
  have hP9 := hP.sub (ws' := [(it, .inr (1, [.int x]))]) [0] rfl
  have hD9 := hD.sub (ws' := [(it, .inr (1, [.int x]))]) [0] (by decide) rfl
  subst hQ
  exact W.vret hx hb hr (fun t ht hW => ⟨⟨(), rfl, trivial, by rw [ht]; exact hP9, hD9⟩, hS.F ht⟩) hS.2.2 dJxd2413_init_da8c8_4
set_option maxHeartbeats 4000000 in
set_option maxRecDepth 100000 in
theorem c_J6_init_d00df (l : Launch) (G : GG) (it : Nat) (x : Int32) : Mv l G yJ6_init_d00df cJ6_init_d00df 2 ({ frames := 2, cells := 0, slots := 0, locals := 40 } : Room) [.ref it, .int x] [(it, .inr (1, [.int (nI 0)]))] (fun (u : Unit) => True) (fun (u : Unit) => [(it, .inr (1, [.int x]))]) := by
  intro sz
  refine Met.ofW (cc := cJ6_init_d00df) (maxL := 2) (ret := none) (by decide) rfl ?_
  intro p e s m args below meth c s₁ B9 hml hv
  obtain ⟨rfl, hsz, hP, hK, hD0, hE⟩ := hv
  have hx := B9.exec
  have hb := B9.bytes
  have hr := B9.returns
  have hts : ∀ w ∈ WW, w.before ([.ref it, .int x] : List Value).toArray s = true := fun w h => atoms_spec (ws := .code yJ6_init_d00df cJ6_init_d00df 2 none :: WW) B9.pre w (List.mem_cons_of_mem _ h)
  have hown : s.vm.findClass RJ6 = some m.cls := findClass_of_methodNamed B9.named
  have hin : meth.name = "<init>" := (name_of_methodNamed B9.named B9.method).1
  subst hsz
  have hD := hD0.self (sz := s.heap.size)
  generalize hAe : va_A [(it, .inr (1, [.int (nI 0)]))] s.heap.size = A at hD hE ⊢
  have hA : ∀ q : Nat, s.heap.size ≤ q → A q := fun q h => by rw [← hAe]; exact Or.inr h
  have hl := lv_entry ([.ref it, .int x]) (n := 2) (Nat.le_of_ble_eq_true rfl)
  rw [lg_entry_eq]
  generalize (lg_sl ([.ref it, .int x]) ++ List.replicate (2 - (lg_sl ([.ref it, .int x])).length) Slot.unset).toArray = ls at hl ⊢
  have hl : lv_has ls 2 [(0, .ref it), (1, .int x)] := hl
  refine qgen (fun Q hQ => ?_)
  refine hgen (fun H locs hP hD hS => ?_) hP hD
  refine lv_aload_n hx hb dJ6_init_d00df_0 rfl (lv_at hl 0 rfl) ?_
  refine fin_v hP hD hS hA [0] [] (wr := []) rfl rfl (by decide) (by decide) (va_runI (As := []) (rest := []) ⟨hx, hb, hml, hown, hts⟩ (c_Jxd2413_init_da8c8 l G it (nI 0) H.size) (cwI 0 hts (gI q1190) rfl rfl rfl (hts _ q69) (hts _ q1188) (hts _ q1189) rfl (by decide +kernel) ⟨Nat.le_of_ble_eq_true rfl, Nat.le_of_ble_eq_true rfl⟩) (preS hK hE hP hD hS hA [0] rfl (by decide)) rfl rfl hl.1 rfl (lv_room (Nat.le_of_ble_eq_true rfl)) dJ6_init_d00df_1 ⟨Nat.le_of_ble_eq_true rfl, Nat.le_of_ble_eq_true rfl⟩) (fun u9 hw_1 H locs hP hD hS => ?_)
  have hP : va_P (gD G) vwCl [(it, .inr (1, [.int (nI 0)]))] H := hP
  have hD : va_D A [(it, .inr (1, [.int (nI 0)]))] := hD
  refine lv_aload_n hx hb dJ6_init_d00df_4 rfl (lv_at hl 0 rfl) ?_
  refine lv_iload_n hx hb dJ6_init_d00df_5 rfl (lv_at hl 1 rfl) ?_
  refine va_putF (D := gD G) (ci := 1) (v := .int x) (ty := .int) (C := RJ6) (T := TJ6) (N := 1) hx hb hts fwJ6 tyJ6 tyJ6_ok nmJ6 hown hK hP hD hS 0 rfl rfl 0 (by decide) (hts _ q1192) (fun _ h9 => h9) rfl hin rfl (by decide +kernel) rfl rfl (Nat.le_of_ble_eq_true rfl) dJ6_init_d00df_6 (fun H locs hP hD hS => ?_)
  have hP : va_P (gD G) vwCl [(it, .inr (1, [.int x]))] H := hP
  have hD : va_D A [(it, .inr (1, [.int x]))] := hD
  have hP9 := hP.sub (ws' := [(it, .inr (1, [.int x]))]) [0] rfl
  have hD9 := hD.sub (ws' := [(it, .inr (1, [.int x]))]) [0] (by decide) rfl
  subst hQ
  exact W.vret hx hb hr (fun t ht hW => ⟨⟨(), rfl, trivial, by rw [ht]; exact hP9, hD9⟩, hS.F ht⟩) hS.2.2 dJ6_init_d00df_9
set_option maxHeartbeats 4000000 in
set_option maxRecDepth 100000 in
theorem c_J6_valueOf_2dffe (l : Launch) (G : GG) (n : Nat) (hn : n < 512) : Mr l G yJ6_valueOf_2dffe cJ6_valueOf_2dffe 1 (some (.object "java/lang/Integer")) ({ frames := 3, cells := 1, slots := 1, locals := 61 } : Room) [.int (nI n)] [] (fun (u : va_W) (r : Nat) => bxI G u r) (fun (u : va_W) (r : Nat) => u) := by
  intro sz
  refine Met.ofW (cc := cJ6_valueOf_2dffe) (maxL := 1) (ret := (some (.object "java/lang/Integer"))) (by decide) rfl ?_
  intro p e s m args below meth c s₁ B9 hml hv
  obtain ⟨rfl, hsz, hP, hK, hD0, hE⟩ := hv
  have hx := B9.exec
  have hb := B9.bytes
  have hr := B9.returns
  have hts : ∀ w ∈ WW, w.before ([.int (nI n)] : List Value).toArray s = true := fun w h => atoms_spec (ws := .code yJ6_valueOf_2dffe cJ6_valueOf_2dffe 1 (some (.object "java/lang/Integer")) :: WW) B9.pre w (List.mem_cons_of_mem _ h)
  have hown : s.vm.findClass RJ6 = some m.cls := findClass_of_methodNamed B9.named
  subst hsz
  have hD := hD0.self (sz := s.heap.size)
  generalize hAe : va_A [] s.heap.size = A at hD hE ⊢
  have hA : ∀ q : Nat, s.heap.size ≤ q → A q := fun q h => by rw [← hAe]; exact Or.inr h
  have hl := lv_entry ([.int (nI n)]) (n := 1) (Nat.le_of_ble_eq_true rfl)
  rw [lg_entry_eq]
  generalize (lg_sl ([.int (nI n)]) ++ List.replicate (1 - (lg_sl ([.int (nI n)])).length) Slot.unset).toArray = ls at hl ⊢
  have hl : lv_has ls 1 [(0, .int (nI n))] := hl
  refine qgen (fun Q hQ => ?_)
  refine hgen (fun H locs hP hD hS => ?_) hP hD
  refine lv_iload_n hx hb dJ6_valueOf_2dffe_0 rfl (lv_at hl 0 rfl) ?_
  refine lv_bipush (v := -128) hx hb dJ6_valueOf_2dffe_1 (by decide) ?_
  refine lv_icmp_lt (tgt := 23) hx hb dJ6_valueOf_2dffe_3 (by decide) (fun c_1 => ?_) (fun c_1 => ?_)
  · skip
    refine va_new (D := gD G) (ci := 1) (fs := [.int 0]) (C := RJ6) (T := TJ6) (N := 1) hx hb hts fwJ6 tyJ6 tyJ6_ok hown (hts _ q1183) (hts _ q1184) (hts _ q70) hK hP hD hS hA rfl (fun j hj => by rcases (show j = 0 by omega) with rfl <;> rfl) (Nat.le_of_ble_eq_true rfl) (Nat.le_of_ble_eq_true rfl) dJ6_valueOf_2dffe_23 (fun q_2 H hP hD hS => ?_)
    have hP : va_P (gD G) vwCl [(q_2, .inr (1, [.int (nI 0)]))] H := hP
    have hD : va_D A [(q_2, .inr (1, [.int (nI 0)]))] := hD
    refine lv_dup hx hb dJ6_valueOf_2dffe_26 rfl ?_
    refine lv_iload_n hx hb dJ6_valueOf_2dffe_27 rfl (lv_at hl 0 rfl) ?_
    refine fin_v hP hD hS hA [0] [] (wr := []) rfl rfl (by decide) (by decide) (va_runI (As := [.int (nI n)]) (rest := [.ref q_2]) ⟨hx, hb, hml, hown, hts⟩ (c_J6_init_d00df l G q_2 (nI n) H.size) (cwI 1 hts (gI q1187) rfl rfl rfl (hts _ q70) (hts _ q1185) (hts _ q1186) rfl (by decide +kernel) ⟨Nat.le_of_ble_eq_true rfl, Nat.le_of_ble_eq_true rfl⟩) (preS hK hE hP hD hS hA [0] rfl (by decide)) rfl rfl hl.1 rfl (lv_room (Nat.le_of_ble_eq_true rfl)) dJ6_valueOf_2dffe_28 ⟨Nat.le_of_ble_eq_true rfl, Nat.le_of_ble_eq_true rfl⟩) (fun u9 hw_3 H locs hP hD hS => ?_)
    have hP : va_P (gD G) vwCl [(q_2, .inr (1, [.int (nI n)]))] H := hP
    have hD : va_D A [(q_2, .inr (1, [.int (nI n)]))] := hD
    have hP9 := hP.sub (ws' := [(q_2, .inr (1, [.int (nI n)]))]) [0] rfl
    have hD9 := hD.sub (ws' := [(q_2, .inr (1, [.int (nI n)]))]) [0] (by decide) rfl
    subst hQ
    exact W.aret (v := .ref q_2) hx hb hr (Or.inl ⟨_, rfl⟩) (Or.inr ⟨_, rfl⟩) (fun t ht hW => ⟨⟨([(q_2, .inr (1, [.int (nI n)]))]), q_2, rfl, trivial, Or.inr ⟨_, rfl⟩, by rw [ht]; exact hP9, hD9⟩, hS.F ht⟩) hS.2.2 dJ6_valueOf_2dffe_31
  · skip
    refine lv_iload_n hx hb dJ6_valueOf_2dffe_6 rfl (lv_at hl 0 rfl) ?_
    refine va_gets (v := .int (nI 127)) hx hb hE.2.2.2.1 hS hown (hts _ q1179) (fun _ h9 => h9) dJ6_valueOf_2dffe_7 ?_
    refine lv_icmp_gt (tgt := 23) hx hb dJ6_valueOf_2dffe_10 (by decide) (fun c_5 => ?_) (fun c_5 => ?_)
    · skip
      have c_5 : 127 < n := (nI_ltI (a := 127) (b := n) (by omega) (by omega)).mp c_5
      refine va_new (D := gD G) (ci := 1) (fs := [.int 0]) (C := RJ6) (T := TJ6) (N := 1) hx hb hts fwJ6 tyJ6 tyJ6_ok hown (hts _ q1183) (hts _ q1184) (hts _ q70) hK hP hD hS hA rfl (fun j hj => by rcases (show j = 0 by omega) with rfl <;> rfl) (Nat.le_of_ble_eq_true rfl) (Nat.le_of_ble_eq_true rfl) dJ6_valueOf_2dffe_23 (fun q_6 H hP hD hS => ?_)
      have hP : va_P (gD G) vwCl [(q_6, .inr (1, [.int (nI 0)]))] H := hP
      have hD : va_D A [(q_6, .inr (1, [.int (nI 0)]))] := hD
      refine lv_dup hx hb dJ6_valueOf_2dffe_26 rfl ?_
      refine lv_iload_n hx hb dJ6_valueOf_2dffe_27 rfl (lv_at hl 0 rfl) ?_
      refine fin_v hP hD hS hA [0] [] (wr := []) rfl rfl (by decide) (by decide) (va_runI (As := [.int (nI n)]) (rest := [.ref q_6]) ⟨hx, hb, hml, hown, hts⟩ (c_J6_init_d00df l G q_6 (nI n) H.size) (cwI 1 hts (gI q1187) rfl rfl rfl (hts _ q70) (hts _ q1185) (hts _ q1186) rfl (by decide +kernel) ⟨Nat.le_of_ble_eq_true rfl, Nat.le_of_ble_eq_true rfl⟩) (preS hK hE hP hD hS hA [0] rfl (by decide)) rfl rfl hl.1 rfl (lv_room (Nat.le_of_ble_eq_true rfl)) dJ6_valueOf_2dffe_28 ⟨Nat.le_of_ble_eq_true rfl, Nat.le_of_ble_eq_true rfl⟩) (fun u9 hw_7 H locs hP hD hS => ?_)
      have hP : va_P (gD G) vwCl [(q_6, .inr (1, [.int (nI n)]))] H := hP
      have hD : va_D A [(q_6, .inr (1, [.int (nI n)]))] := hD
      have hP9 := hP.sub (ws' := [(q_6, .inr (1, [.int (nI n)]))]) [0] rfl
      have hD9 := hD.sub (ws' := [(q_6, .inr (1, [.int (nI n)]))]) [0] (by decide) rfl
      subst hQ
      exact W.aret (v := .ref q_6) hx hb hr (Or.inl ⟨_, rfl⟩) (Or.inr ⟨_, rfl⟩) (fun t ht hW => ⟨⟨([(q_6, .inr (1, [.int (nI n)]))]), q_6, rfl, trivial, Or.inr ⟨_, rfl⟩, by rw [ht]; exact hP9, hD9⟩, hS.F ht⟩) hS.2.2 dJ6_valueOf_2dffe_31
    · skip
      have c_5 : ¬ 127 < n := fun z => c_5 ((nI_ltI (a := 127) (b := n) (by omega) (by omega)).mpr z)
      refine va_gets (v := .ref (gC G)) hx hb hE.2.2.2.2.1 hS hown (hts _ q1181) (fun _ h9 => h9) dJ6_valueOf_2dffe_13 ?_
      refine lv_iload_n hx hb dJ6_valueOf_2dffe_16 rfl (lv_at hl 0 rfl) ?_
      refine lv_sipush (v := nI 128) hx hb dJ6_valueOf_2dffe_17 (by decide) ?_
      refine lv_iadd hx hb dJ6_valueOf_2dffe_20 ?_
      refine lv_toe (nI_add n 128) ?_
      refine vb_tq (v := .ref (gA G (n + 128))) hx hb hE.2.2.2.2.2.1 hS (vp_in_nI (n := n + 128) (N := 256) (by omega) (by omega)) (show Value.ref (gA G (nI (n + 128)).toNatClampNeg) = _ by rw [nI_clamp (by omega)]) dJ6_valueOf_2dffe_21 ?_
      have hP9 := hP.sub (ws' := []) [] rfl
      have hD9 := hD.sub (ws' := []) [] (by decide) rfl
      refine W.widen (k := 1) (n := 1) (Nat.le_of_ble_eq_true rfl) (Nat.le_of_ble_eq_true rfl) ?_
      subst hQ
      exact W.aret (v := .ref (gA G (n + 128))) hx hb hr (Or.inl ⟨_, rfl⟩) (Or.inr ⟨_, rfl⟩) (fun t ht hW => ⟨⟨([]), gA G (n + 128), rfl, trivial, Or.inl ⟨rfl, _, by omega, rfl⟩, by rw [ht]; exact hP9, hD9⟩, hS.F ht⟩) hS.2.2 dJ6_valueOf_2dffe_22
