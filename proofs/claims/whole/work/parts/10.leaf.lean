theorem q4 : (Jvm.Cond.selects "Pegboardry$Board" ({ cls := "Pegboardry$Board", name := "holds", desc := "(II)Z" } : Jvm.MethodName) ({ cls := "Pegboardry$Board", name := "holds", desc := "(II)Z" } : Jvm.MethodName)) ∈ WW := inW 4 (by decide +kernel) rfl
theorem q45 : (Jvm.Cond.initialized "Pegboardry") ∈ WW := inW 45 (by decide +kernel) rfl
theorem q50 : (Jvm.Cond.initialized "Pegboardry$Board") ∈ WW := inW 50 (by decide +kernel) rfl
theorem q70 : (Jvm.Cond.initialized "java/lang/Integer") ∈ WW := inW 70 (by decide +kernel) rfl
theorem q129 : (Jvm.Cond.fieldLink "Pegboardry$Board" (9 : Nat) "Pegboardry$Board" "masks" "[I") ∈ WW := inW 129 (by decide +kernel) rfl
theorem q251 : (Jvm.Cond.instanceMethod ({ cls := "Pegboardry$Board", name := "holds", desc := "(II)Z" } : Jvm.MethodName)) ∈ WW := inW 251 (by decide +kernel) rfl
theorem q252 : (Jvm.Cond.code ({ cls := "Pegboardry$Board", name := "holds", desc := "(II)Z" } : Jvm.MethodName) prog_2_method_3_code (3 : Nat) (Option.some Jvm.ClassFile.FieldType.boolean)) ∈ WW := inW 252 (by decide +kernel) rfl
theorem nq261 : (Jvm.Cond.methodLinkNest "Pegboardry$Board" (46 : Nat) ({ cls := "Pegboardry", name := "cellOfLine", desc := "(II)I" } : Jvm.MethodName) "Pegboardry") ∈ NWs := inN 261 (by decide +kernel) rfl
theorem q262 : (Jvm.Cond.static ({ cls := "Pegboardry", name := "cellOfLine", desc := "(II)I" } : Jvm.MethodName)) ∈ WW := inW 262 (by decide +kernel) rfl
theorem q263 : (Jvm.Cond.code ({ cls := "Pegboardry", name := "cellOfLine", desc := "(II)I" } : Jvm.MethodName) prog_1_method_37_code (2 : Nat) (Option.some Jvm.ClassFile.FieldType.int)) ∈ WW := inW 263 (by decide +kernel) rfl
theorem nq264 : (Jvm.Cond.methodLinkNest "Pegboardry$Board" (15 : Nat) ({ cls := "Pegboardry", name := "bitOf", desc := "(I)I" } : Jvm.MethodName) "Pegboardry") ∈ NWs := inN 264 (by decide +kernel) rfl
theorem q265 : (Jvm.Cond.static ({ cls := "Pegboardry", name := "bitOf", desc := "(I)I" } : Jvm.MethodName)) ∈ WW := inW 265 (by decide +kernel) rfl
theorem q266 : (Jvm.Cond.code ({ cls := "Pegboardry", name := "bitOf", desc := "(I)I" } : Jvm.MethodName) prog_1_method_35_code (1 : Nat) (Option.some Jvm.ClassFile.FieldType.int)) ∈ WW := inW 266 (by decide +kernel) rfl
theorem q275 : (Jvm.Cond.methodLink "Pegboardry$Board" (50 : Nat) ({ cls := "Pegboardry$Board", name := "holds", desc := "(II)Z" } : Jvm.MethodName)) ∈ WW := inW 275 (by decide +kernel) rfl
theorem q276 : (Jvm.Cond.methodLink "Pegboardry$Board" (19 : Nat) ({ cls := "java/lang/Integer", name := "bitCount", desc := "(I)I" } : Jvm.MethodName)) ∈ WW := inW 276 (by decide +kernel) rfl
theorem q277 : (Jvm.Cond.static ({ cls := "java/lang/Integer", name := "bitCount", desc := "(I)I" } : Jvm.MethodName)) ∈ WW := inW 277 (by decide +kernel) rfl
theorem q278 : (Jvm.Cond.code ({ cls := "java/lang/Integer", name := "bitCount", desc := "(I)I" } : Jvm.MethodName) prog_22_method_49_code (1 : Nat) (Option.some Jvm.ClassFile.FieldType.int)) ∈ WW := inW 278 (by decide +kernel) rfl
theorem q279 : (Jvm.Cond.constant "java/lang/Integer" (265 : Nat) (1431655765 : Int32)) ∈ WW := inW 279 (by decide +kernel) rfl
theorem q280 : (Jvm.Cond.constant "java/lang/Integer" (266 : Nat) (858993459 : Int32)) ∈ WW := inW 280 (by decide +kernel) rfl
theorem q281 : (Jvm.Cond.constant "java/lang/Integer" (267 : Nat) (252645135 : Int32)) ∈ WW := inW 281 (by decide +kernel) rfl
theorem dJ6_bitCount_0f7a4_0 : decode cJ6_bitCount_0f7a4 0 = .ok (.iload_n 0, 1) := by decide +kernel
theorem dJ6_bitCount_0f7a4_1 : decode cJ6_bitCount_0f7a4 1 = .ok (.iload_n 0, 1) := by decide +kernel
theorem dJ6_bitCount_0f7a4_2 : decode cJ6_bitCount_0f7a4 2 = .ok (.iconst 1, 1) := by decide +kernel
theorem dJ6_bitCount_0f7a4_3 : decode cJ6_bitCount_0f7a4 3 = .ok (.iushr, 1) := by decide +kernel
theorem dJ6_bitCount_0f7a4_4 : decode cJ6_bitCount_0f7a4 4 = .ok (.ldc_w 265, 3) := by decide +kernel
theorem dJ6_bitCount_0f7a4_7 : decode cJ6_bitCount_0f7a4 7 = .ok (.iand, 1) := by decide +kernel
theorem dJ6_bitCount_0f7a4_8 : decode cJ6_bitCount_0f7a4 8 = .ok (.isub, 1) := by decide +kernel
theorem dJ6_bitCount_0f7a4_9 : decode cJ6_bitCount_0f7a4 9 = .ok (.istore_n 0, 1) := by decide +kernel
theorem dJ6_bitCount_0f7a4_10 : decode cJ6_bitCount_0f7a4 10 = .ok (.iload_n 0, 1) := by decide +kernel
theorem dJ6_bitCount_0f7a4_11 : decode cJ6_bitCount_0f7a4 11 = .ok (.ldc_w 266, 3) := by decide +kernel
theorem dJ6_bitCount_0f7a4_14 : decode cJ6_bitCount_0f7a4 14 = .ok (.iand, 1) := by decide +kernel
theorem dJ6_bitCount_0f7a4_15 : decode cJ6_bitCount_0f7a4 15 = .ok (.iload_n 0, 1) := by decide +kernel
theorem dJ6_bitCount_0f7a4_16 : decode cJ6_bitCount_0f7a4 16 = .ok (.iconst 2, 1) := by decide +kernel
theorem dJ6_bitCount_0f7a4_17 : decode cJ6_bitCount_0f7a4 17 = .ok (.iushr, 1) := by decide +kernel
theorem dJ6_bitCount_0f7a4_18 : decode cJ6_bitCount_0f7a4 18 = .ok (.ldc_w 266, 3) := by decide +kernel
theorem dJ6_bitCount_0f7a4_21 : decode cJ6_bitCount_0f7a4 21 = .ok (.iand, 1) := by decide +kernel
theorem dJ6_bitCount_0f7a4_22 : decode cJ6_bitCount_0f7a4 22 = .ok (.iadd, 1) := by decide +kernel
theorem dJ6_bitCount_0f7a4_23 : decode cJ6_bitCount_0f7a4 23 = .ok (.istore_n 0, 1) := by decide +kernel
theorem dJ6_bitCount_0f7a4_24 : decode cJ6_bitCount_0f7a4 24 = .ok (.iload_n 0, 1) := by decide +kernel
theorem dJ6_bitCount_0f7a4_25 : decode cJ6_bitCount_0f7a4 25 = .ok (.iload_n 0, 1) := by decide +kernel
theorem dJ6_bitCount_0f7a4_26 : decode cJ6_bitCount_0f7a4 26 = .ok (.iconst 4, 1) := by decide +kernel
theorem dJ6_bitCount_0f7a4_27 : decode cJ6_bitCount_0f7a4 27 = .ok (.iushr, 1) := by decide +kernel
theorem dJ6_bitCount_0f7a4_28 : decode cJ6_bitCount_0f7a4 28 = .ok (.iadd, 1) := by decide +kernel
theorem dJ6_bitCount_0f7a4_29 : decode cJ6_bitCount_0f7a4 29 = .ok (.ldc_w 267, 3) := by decide +kernel
theorem dJ6_bitCount_0f7a4_32 : decode cJ6_bitCount_0f7a4 32 = .ok (.iand, 1) := by decide +kernel
theorem dJ6_bitCount_0f7a4_33 : decode cJ6_bitCount_0f7a4 33 = .ok (.istore_n 0, 1) := by decide +kernel
theorem dJ6_bitCount_0f7a4_34 : decode cJ6_bitCount_0f7a4 34 = .ok (.iload_n 0, 1) := by decide +kernel
theorem dJ6_bitCount_0f7a4_35 : decode cJ6_bitCount_0f7a4 35 = .ok (.iload_n 0, 1) := by decide +kernel
theorem dJ6_bitCount_0f7a4_36 : decode cJ6_bitCount_0f7a4 36 = .ok (.bipush 8, 2) := by decide +kernel
theorem dJ6_bitCount_0f7a4_38 : decode cJ6_bitCount_0f7a4 38 = .ok (.iushr, 1) := by decide +kernel
theorem dJ6_bitCount_0f7a4_39 : decode cJ6_bitCount_0f7a4 39 = .ok (.iadd, 1) := by decide +kernel
theorem dJ6_bitCount_0f7a4_40 : decode cJ6_bitCount_0f7a4 40 = .ok (.istore_n 0, 1) := by decide +kernel
theorem dJ6_bitCount_0f7a4_41 : decode cJ6_bitCount_0f7a4 41 = .ok (.iload_n 0, 1) := by decide +kernel
theorem dJ6_bitCount_0f7a4_42 : decode cJ6_bitCount_0f7a4 42 = .ok (.iload_n 0, 1) := by decide +kernel
theorem dJ6_bitCount_0f7a4_43 : decode cJ6_bitCount_0f7a4 43 = .ok (.bipush 16, 2) := by decide +kernel
theorem dJ6_bitCount_0f7a4_45 : decode cJ6_bitCount_0f7a4 45 = .ok (.iushr, 1) := by decide +kernel
theorem dJ6_bitCount_0f7a4_46 : decode cJ6_bitCount_0f7a4 46 = .ok (.iadd, 1) := by decide +kernel
theorem dJ6_bitCount_0f7a4_47 : decode cJ6_bitCount_0f7a4 47 = .ok (.istore_n 0, 1) := by decide +kernel
theorem dJ6_bitCount_0f7a4_48 : decode cJ6_bitCount_0f7a4 48 = .ok (.iload_n 0, 1) := by decide +kernel
theorem dJ6_bitCount_0f7a4_49 : decode cJ6_bitCount_0f7a4 49 = .ok (.bipush 63, 2) := by decide +kernel
theorem dJ6_bitCount_0f7a4_51 : decode cJ6_bitCount_0f7a4 51 = .ok (.iand, 1) := by decide +kernel
theorem dJ6_bitCount_0f7a4_52 : decode cJ6_bitCount_0f7a4 52 = .ok (.ireturn, 1) := by decide +kernel
theorem dX6_bitOf_0 : decode cX6_bitOf 0 = .ok (.iconst 1, 1) := by decide +kernel
theorem dX6_bitOf_1 : decode cX6_bitOf 1 = .ok (.iload_n 0, 1) := by decide +kernel
theorem dX6_bitOf_2 : decode cX6_bitOf 2 = .ok (.iconst 1, 1) := by decide +kernel
theorem dX6_bitOf_3 : decode cX6_bitOf 3 = .ok (.isub, 1) := by decide +kernel
theorem dX6_bitOf_4 : decode cX6_bitOf 4 = .ok (.ishl, 1) := by decide +kernel
theorem dX6_bitOf_5 : decode cX6_bitOf 5 = .ok (.ireturn, 1) := by decide +kernel
theorem dX6_cellOfLine_0 : decode cX6_cellOfLine 0 = .ok (.iload_n 0, 1) := by decide +kernel
theorem dX6_cellOfLine_1 : decode cX6_cellOfLine 1 = .ok (.iconst 4, 1) := by decide +kernel
theorem dX6_cellOfLine_2 : decode cX6_cellOfLine 2 = .ok (.if_icmp .ge 11, 3) := by decide +kernel
theorem dX6_cellOfLine_13 : decode cX6_cellOfLine 13 = .ok (.iload_n 1, 1) := by decide +kernel
theorem dX6_cellOfLine_14 : decode cX6_cellOfLine 14 = .ok (.iconst 4, 1) := by decide +kernel
theorem dX6_cellOfLine_15 : decode cX6_cellOfLine 15 = .ok (.imul, 1) := by decide +kernel
theorem dX6_cellOfLine_16 : decode cX6_cellOfLine 16 = .ok (.iload_n 0, 1) := by decide +kernel
theorem dX6_cellOfLine_17 : decode cX6_cellOfLine 17 = .ok (.iadd, 1) := by decide +kernel
theorem dX6_cellOfLine_18 : decode cX6_cellOfLine 18 = .ok (.iconst 4, 1) := by decide +kernel
theorem dX6_cellOfLine_19 : decode cX6_cellOfLine 19 = .ok (.isub, 1) := by decide +kernel
theorem dX6_cellOfLine_20 : decode cX6_cellOfLine 20 = .ok (.ireturn, 1) := by decide +kernel
theorem dX6_cellOfLine_5 : decode cX6_cellOfLine 5 = .ok (.iload_n 0, 1) := by decide +kernel
theorem dX6_cellOfLine_6 : decode cX6_cellOfLine 6 = .ok (.iconst 4, 1) := by decide +kernel
theorem dX6_cellOfLine_7 : decode cX6_cellOfLine 7 = .ok (.imul, 1) := by decide +kernel
theorem dX6_cellOfLine_8 : decode cX6_cellOfLine 8 = .ok (.iload_n 1, 1) := by decide +kernel
theorem dX6_cellOfLine_9 : decode cX6_cellOfLine 9 = .ok (.iadd, 1) := by decide +kernel
theorem dX6_cellOfLine_10 : decode cX6_cellOfLine 10 = .ok (.goto 10, 3) := by decide +kernel
theorem dX6_lineBits_0 : decode cX6_lineBits 0 = .ok (.iconst 4, 1) := by decide +kernel
theorem dX6_lineBits_1 : decode cX6_lineBits 1 = .ok (.iload_n 0, 1) := by decide +kernel
theorem dX6_lineBits_2 : decode cX6_lineBits 2 = .ok (.iconst 4, 1) := by decide +kernel
theorem dX6_lineBits_3 : decode cX6_lineBits 3 = .ok (.idiv, 1) := by decide +kernel
theorem dX6_lineBits_4 : decode cX6_lineBits 4 = .ok (.imul, 1) := by decide +kernel
theorem dX6_lineBits_5 : decode cX6_lineBits 5 = .ok (.iload_n 1, 1) := by decide +kernel
theorem dX6_lineBits_6 : decode cX6_lineBits 6 = .ok (.iadd, 1) := by decide +kernel
theorem dX6_lineBits_7 : decode cX6_lineBits 7 = .ok (.iconst 1, 1) := by decide +kernel
theorem dX6_lineBits_8 : decode cX6_lineBits 8 = .ok (.isub, 1) := by decide +kernel
theorem dX6_lineBits_9 : decode cX6_lineBits 9 = .ok (.istore_n 2, 1) := by decide +kernel
theorem dX6_lineBits_10 : decode cX6_lineBits 10 = .ok (.bipush 16, 2) := by decide +kernel
theorem dX6_lineBits_12 : decode cX6_lineBits 12 = .ok (.iconst 4, 1) := by decide +kernel
theorem dX6_lineBits_13 : decode cX6_lineBits 13 = .ok (.iload_n 0, 1) := by decide +kernel
theorem dX6_lineBits_14 : decode cX6_lineBits 14 = .ok (.iconst 4, 1) := by decide +kernel
theorem dX6_lineBits_15 : decode cX6_lineBits 15 = .ok (.irem, 1) := by decide +kernel
theorem dX6_lineBits_16 : decode cX6_lineBits 16 = .ok (.imul, 1) := by decide +kernel
theorem dX6_lineBits_17 : decode cX6_lineBits 17 = .ok (.iadd, 1) := by decide +kernel
theorem dX6_lineBits_18 : decode cX6_lineBits 18 = .ok (.iload_n 1, 1) := by decide +kernel
theorem dX6_lineBits_19 : decode cX6_lineBits 19 = .ok (.iadd, 1) := by decide +kernel
theorem dX6_lineBits_20 : decode cX6_lineBits 20 = .ok (.iconst 1, 1) := by decide +kernel
theorem dX6_lineBits_21 : decode cX6_lineBits 21 = .ok (.isub, 1) := by decide +kernel
theorem dX6_lineBits_22 : decode cX6_lineBits 22 = .ok (.istore_n 3, 1) := by decide +kernel
theorem dX6_lineBits_23 : decode cX6_lineBits 23 = .ok (.iconst 1, 1) := by decide +kernel
theorem dX6_lineBits_24 : decode cX6_lineBits 24 = .ok (.iload_n 2, 1) := by decide +kernel
theorem dX6_lineBits_25 : decode cX6_lineBits 25 = .ok (.ishl, 1) := by decide +kernel
theorem dX6_lineBits_26 : decode cX6_lineBits 26 = .ok (.iconst 1, 1) := by decide +kernel
theorem dX6_lineBits_27 : decode cX6_lineBits 27 = .ok (.iload_n 3, 1) := by decide +kernel
theorem dX6_lineBits_28 : decode cX6_lineBits 28 = .ok (.ishl, 1) := by decide +kernel
theorem dX6_lineBits_29 : decode cX6_lineBits 29 = .ok (.ior, 1) := by decide +kernel
theorem dX6_lineBits_30 : decode cX6_lineBits 30 = .ok (.ireturn, 1) := by decide +kernel
theorem dX0_holds_0 : decode cX0_holds 0 = .ok (.aload_n 0, 1) := by decide +kernel
theorem dX0_holds_1 : decode cX0_holds 1 = .ok (.getfield 9, 3) := by decide +kernel
theorem dX0_holds_4 : decode cX0_holds 4 = .ok (.iload_n 1, 1) := by decide +kernel
theorem dX0_holds_5 : decode cX0_holds 5 = .ok (.iaload, 1) := by decide +kernel
theorem dX0_holds_6 : decode cX0_holds 6 = .ok (.iload_n 2, 1) := by decide +kernel
theorem dX0_holds_7 : decode cX0_holds 7 = .ok (.iconst 1, 1) := by decide +kernel
theorem dX0_holds_8 : decode cX0_holds 8 = .ok (.isub, 1) := by decide +kernel
theorem dX0_holds_9 : decode cX0_holds 9 = .ok (.ishr, 1) := by decide +kernel
theorem dX0_holds_10 : decode cX0_holds 10 = .ok (.iconst 1, 1) := by decide +kernel
theorem dX0_holds_11 : decode cX0_holds 11 = .ok (.iand, 1) := by decide +kernel
theorem dX0_holds_12 : decode cX0_holds 12 = .ok (.ifCond .eq 7, 3) := by decide +kernel
theorem dX0_holds_19 : decode cX0_holds 19 = .ok (.iconst 0, 1) := by decide +kernel
theorem dX0_holds_20 : decode cX0_holds 20 = .ok (.ireturn, 1) := by decide +kernel
theorem dX0_holds_15 : decode cX0_holds 15 = .ok (.iconst 1, 1) := by decide +kernel
theorem dX0_holds_16 : decode cX0_holds 16 = .ok (.goto 4, 3) := by decide +kernel
theorem dX0_fill_0 : decode cX0_fill 0 = .ok (.iconst 0, 1) := by decide +kernel
theorem dX0_fill_1 : decode cX0_fill 1 = .ok (.istore_n 1, 1) := by decide +kernel
theorem dX0_fill_2 : decode cX0_fill 2 = .ok (.iload_n 1, 1) := by decide +kernel
theorem dX0_fill_3 : decode cX0_fill 3 = .ok (.bipush 16, 2) := by decide +kernel
theorem dX0_fill_5 : decode cX0_fill 5 = .ok (.if_icmp .ge 17, 3) := by decide +kernel
theorem dX0_fill_22 : decode cX0_fill 22 = .ok (.return_, 1) := by decide +kernel
theorem dX0_fill_8 : decode cX0_fill 8 = .ok (.aload_n 0, 1) := by decide +kernel
theorem dX0_fill_9 : decode cX0_fill 9 = .ok (.getfield 9, 3) := by decide +kernel
theorem dX0_fill_12 : decode cX0_fill 12 = .ok (.iload_n 1, 1) := by decide +kernel
theorem dX0_fill_13 : decode cX0_fill 13 = .ok (.bipush 15, 2) := by decide +kernel
theorem dX0_fill_15 : decode cX0_fill 15 = .ok (.iastore, 1) := by decide +kernel
theorem dX0_fill_16 : decode cX0_fill 16 = .ok (.iinc 1 1, 3) := by decide +kernel
theorem dX0_fill_19 : decode cX0_fill 19 = .ok (.goto (-17), 3) := by decide +kernel
theorem dX0_takeAway_0 : decode cX0_takeAway 0 = .ok (.aload_n 0, 1) := by decide +kernel
theorem dX0_takeAway_1 : decode cX0_takeAway 1 = .ok (.getfield 9, 3) := by decide +kernel
theorem dX0_takeAway_4 : decode cX0_takeAway 4 = .ok (.iload_n 1, 1) := by decide +kernel
theorem dX0_takeAway_5 : decode cX0_takeAway 5 = .ok (.dup2, 1) := by decide +kernel
theorem dX0_takeAway_6 : decode cX0_takeAway 6 = .ok (.iaload, 1) := by decide +kernel
theorem dX0_takeAway_7 : decode cX0_takeAway 7 = .ok (.iload_n 2, 1) := by decide +kernel
theorem dX0_takeAway_8 : decode cX0_takeAway 8 = .ok (.invokestatic 15, 3) := by decide +kernel
theorem dX0_takeAway_11 : decode cX0_takeAway 11 = .ok (.iconst (-1), 1) := by decide +kernel
theorem dX0_takeAway_12 : decode cX0_takeAway 12 = .ok (.ixor, 1) := by decide +kernel
theorem dX0_takeAway_13 : decode cX0_takeAway 13 = .ok (.iand, 1) := by decide +kernel
theorem dX0_takeAway_14 : decode cX0_takeAway 14 = .ok (.iastore, 1) := by decide +kernel
theorem dX0_takeAway_15 : decode cX0_takeAway 15 = .ok (.return_, 1) := by decide +kernel
theorem dX0_isBroken_0 : decode cX0_isBroken 0 = .ok (.iconst 0, 1) := by decide +kernel
theorem dX0_isBroken_1 : decode cX0_isBroken 1 = .ok (.istore_n 1, 1) := by decide +kernel
theorem dX0_isBroken_2 : decode cX0_isBroken 2 = .ok (.iload_n 1, 1) := by decide +kernel
theorem dX0_isBroken_3 : decode cX0_isBroken 3 = .ok (.bipush 16, 2) := by decide +kernel
theorem dX0_isBroken_5 : decode cX0_isBroken 5 = .ok (.if_icmp .ge 20, 3) := by decide +kernel
theorem dX0_isBroken_25 : decode cX0_isBroken 25 = .ok (.iconst 0, 1) := by decide +kernel
theorem dX0_isBroken_26 : decode cX0_isBroken 26 = .ok (.ireturn, 1) := by decide +kernel
theorem dX0_isBroken_8 : decode cX0_isBroken 8 = .ok (.aload_n 0, 1) := by decide +kernel
theorem dX0_isBroken_9 : decode cX0_isBroken 9 = .ok (.getfield 9, 3) := by decide +kernel
theorem dX0_isBroken_12 : decode cX0_isBroken 12 = .ok (.iload_n 1, 1) := by decide +kernel
theorem dX0_isBroken_13 : decode cX0_isBroken 13 = .ok (.iaload, 1) := by decide +kernel
theorem dX0_isBroken_14 : decode cX0_isBroken 14 = .ok (.ifCond .ne 5, 3) := by decide +kernel
theorem dX0_isBroken_19 : decode cX0_isBroken 19 = .ok (.iinc 1 1, 3) := by decide +kernel
theorem dX0_isBroken_22 : decode cX0_isBroken 22 = .ok (.goto (-20), 3) := by decide +kernel
theorem dX0_isBroken_17 : decode cX0_isBroken 17 = .ok (.iconst 1, 1) := by decide +kernel
theorem dX0_isBroken_18 : decode cX0_isBroken 18 = .ok (.ireturn, 1) := by decide +kernel
theorem dX0_isSettled_0 : decode cX0_isSettled 0 = .ok (.iconst 0, 1) := by decide +kernel
theorem dX0_isSettled_1 : decode cX0_isSettled 1 = .ok (.istore_n 1, 1) := by decide +kernel
theorem dX0_isSettled_2 : decode cX0_isSettled 2 = .ok (.iload_n 1, 1) := by decide +kernel
theorem dX0_isSettled_3 : decode cX0_isSettled 3 = .ok (.bipush 16, 2) := by decide +kernel
theorem dX0_isSettled_5 : decode cX0_isSettled 5 = .ok (.if_icmp .ge 24, 3) := by decide +kernel
theorem dX0_isSettled_29 : decode cX0_isSettled 29 = .ok (.iconst 1, 1) := by decide +kernel
theorem dX0_isSettled_30 : decode cX0_isSettled 30 = .ok (.ireturn, 1) := by decide +kernel
theorem dX0_isSettled_8 : decode cX0_isSettled 8 = .ok (.aload_n 0, 1) := by decide +kernel
theorem dX0_isSettled_9 : decode cX0_isSettled 9 = .ok (.getfield 9, 3) := by decide +kernel
theorem dX0_isSettled_12 : decode cX0_isSettled 12 = .ok (.iload_n 1, 1) := by decide +kernel
theorem dX0_isSettled_13 : decode cX0_isSettled 13 = .ok (.iaload, 1) := by decide +kernel
theorem dX0_isSettled_14 : decode cX0_isSettled 14 = .ok (.invokestatic 19, 3) := by decide +kernel
theorem dX0_isSettled_17 : decode cX0_isSettled 17 = .ok (.iconst 1, 1) := by decide +kernel
theorem dX0_isSettled_18 : decode cX0_isSettled 18 = .ok (.if_icmp .eq 5, 3) := by decide +kernel
theorem dX0_isSettled_23 : decode cX0_isSettled 23 = .ok (.iinc 1 1, 3) := by decide +kernel
theorem dX0_isSettled_26 : decode cX0_isSettled 26 = .ok (.goto (-24), 3) := by decide +kernel
theorem dX0_isSettled_21 : decode cX0_isSettled 21 = .ok (.iconst 0, 1) := by decide +kernel
theorem dX0_isSettled_22 : decode cX0_isSettled 22 = .ok (.ireturn, 1) := by decide +kernel
theorem dX0_isOnlyCandidateElsewhere_0 : decode cX0_isOnlyCandidateElsewhere 0 = .ok (.iconst 0, 1) := by decide +kernel
theorem dX0_isOnlyCandidateElsewhere_1 : decode cX0_isOnlyCandidateElsewhere 1 = .ok (.istore 4, 2) := by decide +kernel
theorem dX0_isOnlyCandidateElsewhere_3 : decode cX0_isOnlyCandidateElsewhere 3 = .ok (.iload 4, 2) := by decide +kernel
theorem dX0_isOnlyCandidateElsewhere_5 : decode cX0_isOnlyCandidateElsewhere 5 = .ok (.iconst 4, 1) := by decide +kernel
theorem dX0_isOnlyCandidateElsewhere_6 : decode cX0_isOnlyCandidateElsewhere 6 = .ok (.if_icmp .ge 39, 3) := by decide +kernel
theorem dX0_isOnlyCandidateElsewhere_45 : decode cX0_isOnlyCandidateElsewhere 45 = .ok (.iconst 0, 1) := by decide +kernel
theorem dX0_isOnlyCandidateElsewhere_46 : decode cX0_isOnlyCandidateElsewhere 46 = .ok (.ireturn, 1) := by decide +kernel
theorem dX0_isOnlyCandidateElsewhere_9 : decode cX0_isOnlyCandidateElsewhere 9 = .ok (.iload_n 1, 1) := by decide +kernel
theorem dX0_isOnlyCandidateElsewhere_10 : decode cX0_isOnlyCandidateElsewhere 10 = .ok (.iload 4, 2) := by decide +kernel
theorem dX0_isOnlyCandidateElsewhere_12 : decode cX0_isOnlyCandidateElsewhere 12 = .ok (.invokestatic 46, 3) := by decide +kernel
theorem dX0_isOnlyCandidateElsewhere_15 : decode cX0_isOnlyCandidateElsewhere 15 = .ok (.istore 5, 2) := by decide +kernel
theorem dX0_isOnlyCandidateElsewhere_17 : decode cX0_isOnlyCandidateElsewhere 17 = .ok (.iload 5, 2) := by decide +kernel
theorem dX0_isOnlyCandidateElsewhere_19 : decode cX0_isOnlyCandidateElsewhere 19 = .ok (.iload_n 2, 1) := by decide +kernel
theorem dX0_isOnlyCandidateElsewhere_20 : decode cX0_isOnlyCandidateElsewhere 20 = .ok (.if_icmp .eq 19, 3) := by decide +kernel
theorem dX0_isOnlyCandidateElsewhere_39 : decode cX0_isOnlyCandidateElsewhere 39 = .ok (.iinc 4 1, 3) := by decide +kernel
theorem dX0_isOnlyCandidateElsewhere_42 : decode cX0_isOnlyCandidateElsewhere 42 = .ok (.goto (-39), 3) := by decide +kernel
theorem dX0_isOnlyCandidateElsewhere_23 : decode cX0_isOnlyCandidateElsewhere 23 = .ok (.aload_n 0, 1) := by decide +kernel
theorem dX0_isOnlyCandidateElsewhere_24 : decode cX0_isOnlyCandidateElsewhere 24 = .ok (.getfield 9, 3) := by decide +kernel
theorem dX0_isOnlyCandidateElsewhere_27 : decode cX0_isOnlyCandidateElsewhere 27 = .ok (.iload 5, 2) := by decide +kernel
theorem dX0_isOnlyCandidateElsewhere_29 : decode cX0_isOnlyCandidateElsewhere 29 = .ok (.iaload, 1) := by decide +kernel
theorem dX0_isOnlyCandidateElsewhere_30 : decode cX0_isOnlyCandidateElsewhere 30 = .ok (.iload_n 3, 1) := by decide +kernel
theorem dX0_isOnlyCandidateElsewhere_31 : decode cX0_isOnlyCandidateElsewhere 31 = .ok (.invokestatic 15, 3) := by decide +kernel
theorem dX0_isOnlyCandidateElsewhere_34 : decode cX0_isOnlyCandidateElsewhere 34 = .ok (.if_icmp .ne 5, 3) := by decide +kernel
theorem dX0_isOnlyCandidateElsewhere_37 : decode cX0_isOnlyCandidateElsewhere 37 = .ok (.iconst 1, 1) := by decide +kernel
theorem dX0_isOnlyCandidateElsewhere_38 : decode cX0_isOnlyCandidateElsewhere 38 = .ok (.ireturn, 1) := by decide +kernel
theorem dX0_isOnlyPlaceOfOther_0 : decode cX0_isOnlyPlaceOfOther 0 = .ok (.iconst 0, 1) := by decide +kernel
theorem dX0_isOnlyPlaceOfOther_1 : decode cX0_isOnlyPlaceOfOther 1 = .ok (.istore 4, 2) := by decide +kernel
theorem dX0_isOnlyPlaceOfOther_3 : decode cX0_isOnlyPlaceOfOther 3 = .ok (.iconst 0, 1) := by decide +kernel
theorem dX0_isOnlyPlaceOfOther_4 : decode cX0_isOnlyPlaceOfOther 4 = .ok (.istore 5, 2) := by decide +kernel
theorem dX0_isOnlyPlaceOfOther_6 : decode cX0_isOnlyPlaceOfOther 6 = .ok (.iload 5, 2) := by decide +kernel
theorem dX0_isOnlyPlaceOfOther_8 : decode cX0_isOnlyPlaceOfOther 8 = .ok (.iconst 4, 1) := by decide +kernel
theorem dX0_isOnlyPlaceOfOther_9 : decode cX0_isOnlyPlaceOfOther 9 = .ok (.if_icmp .ge 35, 3) := by decide +kernel
theorem dX0_isOnlyPlaceOfOther_44 : decode cX0_isOnlyPlaceOfOther 44 = .ok (.aload_n 0, 1) := by decide +kernel
theorem dX0_isOnlyPlaceOfOther_45 : decode cX0_isOnlyPlaceOfOther 45 = .ok (.getfield 9, 3) := by decide +kernel
theorem dX0_isOnlyPlaceOfOther_48 : decode cX0_isOnlyPlaceOfOther 48 = .ok (.iload_n 2, 1) := by decide +kernel
theorem dX0_isOnlyPlaceOfOther_49 : decode cX0_isOnlyPlaceOfOther 49 = .ok (.iaload, 1) := by decide +kernel
theorem dX0_isOnlyPlaceOfOther_50 : decode cX0_isOnlyPlaceOfOther 50 = .ok (.iload 4, 2) := by decide +kernel
theorem dX0_isOnlyPlaceOfOther_52 : decode cX0_isOnlyPlaceOfOther 52 = .ok (.iconst (-1), 1) := by decide +kernel
theorem dX0_isOnlyPlaceOfOther_53 : decode cX0_isOnlyPlaceOfOther 53 = .ok (.ixor, 1) := by decide +kernel
theorem dX0_isOnlyPlaceOfOther_54 : decode cX0_isOnlyPlaceOfOther 54 = .ok (.iand, 1) := by decide +kernel
theorem dX0_isOnlyPlaceOfOther_55 : decode cX0_isOnlyPlaceOfOther 55 = .ok (.iload_n 3, 1) := by decide +kernel
theorem dX0_isOnlyPlaceOfOther_56 : decode cX0_isOnlyPlaceOfOther 56 = .ok (.invokestatic 15, 3) := by decide +kernel
theorem dX0_isOnlyPlaceOfOther_59 : decode cX0_isOnlyPlaceOfOther 59 = .ok (.iconst (-1), 1) := by decide +kernel
theorem dX0_isOnlyPlaceOfOther_60 : decode cX0_isOnlyPlaceOfOther 60 = .ok (.ixor, 1) := by decide +kernel
theorem dX0_isOnlyPlaceOfOther_61 : decode cX0_isOnlyPlaceOfOther 61 = .ok (.iand, 1) := by decide +kernel
theorem dX0_isOnlyPlaceOfOther_62 : decode cX0_isOnlyPlaceOfOther 62 = .ok (.ifCond .eq 7, 3) := by decide +kernel
theorem dX0_isOnlyPlaceOfOther_69 : decode cX0_isOnlyPlaceOfOther 69 = .ok (.iconst 0, 1) := by decide +kernel
theorem dX0_isOnlyPlaceOfOther_70 : decode cX0_isOnlyPlaceOfOther 70 = .ok (.ireturn, 1) := by decide +kernel
theorem dX0_isOnlyPlaceOfOther_65 : decode cX0_isOnlyPlaceOfOther 65 = .ok (.iconst 1, 1) := by decide +kernel
theorem dX0_isOnlyPlaceOfOther_66 : decode cX0_isOnlyPlaceOfOther 66 = .ok (.goto 4, 3) := by decide +kernel
theorem dX0_isOnlyPlaceOfOther_12 : decode cX0_isOnlyPlaceOfOther 12 = .ok (.iload_n 1, 1) := by decide +kernel
theorem dX0_isOnlyPlaceOfOther_13 : decode cX0_isOnlyPlaceOfOther 13 = .ok (.iload 5, 2) := by decide +kernel
theorem dX0_isOnlyPlaceOfOther_15 : decode cX0_isOnlyPlaceOfOther 15 = .ok (.invokestatic 46, 3) := by decide +kernel
theorem dX0_isOnlyPlaceOfOther_18 : decode cX0_isOnlyPlaceOfOther 18 = .ok (.istore 6, 2) := by decide +kernel
theorem dX0_isOnlyPlaceOfOther_20 : decode cX0_isOnlyPlaceOfOther 20 = .ok (.iload 6, 2) := by decide +kernel
theorem dX0_isOnlyPlaceOfOther_22 : decode cX0_isOnlyPlaceOfOther 22 = .ok (.iload_n 2, 1) := by decide +kernel
theorem dX0_isOnlyPlaceOfOther_23 : decode cX0_isOnlyPlaceOfOther 23 = .ok (.if_icmp .eq 15, 3) := by decide +kernel
theorem dX0_isOnlyPlaceOfOther_38 : decode cX0_isOnlyPlaceOfOther 38 = .ok (.iinc 5 1, 3) := by decide +kernel
theorem dX0_isOnlyPlaceOfOther_41 : decode cX0_isOnlyPlaceOfOther 41 = .ok (.goto (-35), 3) := by decide +kernel
theorem dX0_isOnlyPlaceOfOther_26 : decode cX0_isOnlyPlaceOfOther 26 = .ok (.iload 4, 2) := by decide +kernel
theorem dX0_isOnlyPlaceOfOther_28 : decode cX0_isOnlyPlaceOfOther 28 = .ok (.aload_n 0, 1) := by decide +kernel
theorem dX0_isOnlyPlaceOfOther_29 : decode cX0_isOnlyPlaceOfOther 29 = .ok (.getfield 9, 3) := by decide +kernel
theorem dX0_isOnlyPlaceOfOther_32 : decode cX0_isOnlyPlaceOfOther 32 = .ok (.iload 6, 2) := by decide +kernel
theorem dX0_isOnlyPlaceOfOther_34 : decode cX0_isOnlyPlaceOfOther 34 = .ok (.iaload, 1) := by decide +kernel
theorem dX0_isOnlyPlaceOfOther_35 : decode cX0_isOnlyPlaceOfOther 35 = .ok (.ior, 1) := by decide +kernel
theorem dX0_isOnlyPlaceOfOther_36 : decode cX0_isOnlyPlaceOfOther 36 = .ok (.istore 4, 2) := by decide +kernel
theorem dX0_isInPairElsewhere_0 : decode cX0_isInPairElsewhere 0 = .ok (.iconst 1, 1) := by decide +kernel
theorem dX0_isInPairElsewhere_1 : decode cX0_isInPairElsewhere 1 = .ok (.istore 4, 2) := by decide +kernel
theorem dX0_isInPairElsewhere_3 : decode cX0_isInPairElsewhere 3 = .ok (.iload 4, 2) := by decide +kernel
theorem dX0_isInPairElsewhere_5 : decode cX0_isInPairElsewhere 5 = .ok (.iconst 4, 1) := by decide +kernel
theorem dX0_isInPairElsewhere_6 : decode cX0_isInPairElsewhere 6 = .ok (.if_icmp .ge 96, 3) := by decide +kernel
theorem dX0_isInPairElsewhere_102 : decode cX0_isInPairElsewhere 102 = .ok (.iconst 0, 1) := by decide +kernel
theorem dX0_isInPairElsewhere_103 : decode cX0_isInPairElsewhere 103 = .ok (.ireturn, 1) := by decide +kernel
theorem dX0_isInPairElsewhere_9 : decode cX0_isInPairElsewhere 9 = .ok (.iload_n 1, 1) := by decide +kernel
theorem dX0_isInPairElsewhere_10 : decode cX0_isInPairElsewhere 10 = .ok (.iload 4, 2) := by decide +kernel
theorem dX0_isInPairElsewhere_12 : decode cX0_isInPairElsewhere 12 = .ok (.invokestatic 46, 3) := by decide +kernel
theorem dX0_isInPairElsewhere_15 : decode cX0_isInPairElsewhere 15 = .ok (.istore 5, 2) := by decide +kernel
theorem dX0_isInPairElsewhere_17 : decode cX0_isInPairElsewhere 17 = .ok (.iload 5, 2) := by decide +kernel
theorem dX0_isInPairElsewhere_19 : decode cX0_isInPairElsewhere 19 = .ok (.iload_n 2, 1) := by decide +kernel
theorem dX0_isInPairElsewhere_20 : decode cX0_isInPairElsewhere 20 = .ok (.if_icmp .eq 76, 3) := by decide +kernel
theorem dX0_isInPairElsewhere_96 : decode cX0_isInPairElsewhere 96 = .ok (.iinc 4 1, 3) := by decide +kernel
theorem dX0_isInPairElsewhere_99 : decode cX0_isInPairElsewhere 99 = .ok (.goto (-96), 3) := by decide +kernel
theorem dX0_isInPairElsewhere_23 : decode cX0_isInPairElsewhere 23 = .ok (.aload_n 0, 1) := by decide +kernel
theorem dX0_isInPairElsewhere_24 : decode cX0_isInPairElsewhere 24 = .ok (.iload 5, 2) := by decide +kernel
theorem dX0_isInPairElsewhere_26 : decode cX0_isInPairElsewhere 26 = .ok (.iload_n 3, 1) := by decide +kernel
theorem dX0_isInPairElsewhere_27 : decode cX0_isInPairElsewhere 27 = .ok (.invokevirtual 50, 3) := by decide +kernel
theorem dX0_isInPairElsewhere_30 : decode cX0_isInPairElsewhere 30 = .ok (.ifCond .eq 66, 3) := by decide +kernel
theorem dX0_isInPairElsewhere_33 : decode cX0_isInPairElsewhere 33 = .ok (.aload_n 0, 1) := by decide +kernel
theorem dX0_isInPairElsewhere_34 : decode cX0_isInPairElsewhere 34 = .ok (.getfield 9, 3) := by decide +kernel
theorem dX0_isInPairElsewhere_37 : decode cX0_isInPairElsewhere 37 = .ok (.iload 5, 2) := by decide +kernel
theorem dX0_isInPairElsewhere_39 : decode cX0_isInPairElsewhere 39 = .ok (.iaload, 1) := by decide +kernel
theorem dX0_isInPairElsewhere_40 : decode cX0_isInPairElsewhere 40 = .ok (.invokestatic 19, 3) := by decide +kernel
theorem dX0_isInPairElsewhere_43 : decode cX0_isInPairElsewhere 43 = .ok (.iconst 2, 1) := by decide +kernel
theorem dX0_isInPairElsewhere_44 : decode cX0_isInPairElsewhere 44 = .ok (.if_icmp .ne 52, 3) := by decide +kernel
theorem dX0_isInPairElsewhere_47 : decode cX0_isInPairElsewhere 47 = .ok (.iconst 0, 1) := by decide +kernel
theorem dX0_isInPairElsewhere_48 : decode cX0_isInPairElsewhere 48 = .ok (.istore 6, 2) := by decide +kernel
theorem dX0_isInPairElsewhere_50 : decode cX0_isInPairElsewhere 50 = .ok (.iload 6, 2) := by decide +kernel
theorem dX0_isInPairElsewhere_52 : decode cX0_isInPairElsewhere 52 = .ok (.iload 4, 2) := by decide +kernel
theorem dX0_isInPairElsewhere_54 : decode cX0_isInPairElsewhere 54 = .ok (.if_icmp .ge 42, 3) := by decide +kernel
theorem dX0_isInPairElsewhere_57 : decode cX0_isInPairElsewhere 57 = .ok (.iload_n 1, 1) := by decide +kernel
theorem dX0_isInPairElsewhere_58 : decode cX0_isInPairElsewhere 58 = .ok (.iload 6, 2) := by decide +kernel
theorem dX0_isInPairElsewhere_60 : decode cX0_isInPairElsewhere 60 = .ok (.invokestatic 46, 3) := by decide +kernel
theorem dX0_isInPairElsewhere_63 : decode cX0_isInPairElsewhere 63 = .ok (.istore 7, 2) := by decide +kernel
theorem dX0_isInPairElsewhere_65 : decode cX0_isInPairElsewhere 65 = .ok (.iload 7, 2) := by decide +kernel
theorem dX0_isInPairElsewhere_67 : decode cX0_isInPairElsewhere 67 = .ok (.iload_n 2, 1) := by decide +kernel
theorem dX0_isInPairElsewhere_68 : decode cX0_isInPairElsewhere 68 = .ok (.if_icmp .eq 22, 3) := by decide +kernel
theorem dX0_isInPairElsewhere_90 : decode cX0_isInPairElsewhere 90 = .ok (.iinc 6 1, 3) := by decide +kernel
theorem dX0_isInPairElsewhere_93 : decode cX0_isInPairElsewhere 93 = .ok (.goto (-43), 3) := by decide +kernel
theorem dX0_isInPairElsewhere_71 : decode cX0_isInPairElsewhere 71 = .ok (.aload_n 0, 1) := by decide +kernel
theorem dX0_isInPairElsewhere_72 : decode cX0_isInPairElsewhere 72 = .ok (.getfield 9, 3) := by decide +kernel
theorem dX0_isInPairElsewhere_75 : decode cX0_isInPairElsewhere 75 = .ok (.iload 7, 2) := by decide +kernel
theorem dX0_isInPairElsewhere_77 : decode cX0_isInPairElsewhere 77 = .ok (.iaload, 1) := by decide +kernel
theorem dX0_isInPairElsewhere_78 : decode cX0_isInPairElsewhere 78 = .ok (.aload_n 0, 1) := by decide +kernel
theorem dX0_isInPairElsewhere_79 : decode cX0_isInPairElsewhere 79 = .ok (.getfield 9, 3) := by decide +kernel
theorem dX0_isInPairElsewhere_82 : decode cX0_isInPairElsewhere 82 = .ok (.iload 5, 2) := by decide +kernel
theorem dX0_isInPairElsewhere_84 : decode cX0_isInPairElsewhere 84 = .ok (.iaload, 1) := by decide +kernel
theorem dX0_isInPairElsewhere_85 : decode cX0_isInPairElsewhere 85 = .ok (.if_icmp .ne 5, 3) := by decide +kernel
theorem dX0_isInPairElsewhere_88 : decode cX0_isInPairElsewhere 88 = .ok (.iconst 1, 1) := by decide +kernel
theorem dX0_isInPairElsewhere_89 : decode cX0_isInPairElsewhere 89 = .ok (.ireturn, 1) := by decide +kernel
set_option maxHeartbeats 4000000 in
set_option maxRecDepth 100000 in
theorem c_bits_15 (l : Launch) (G : GG) : Mi l G yJ6_bitCount_0f7a4 cJ6_bitCount_0f7a4 1 (some .int) ({ frames := 0, cells := 0, slots := 0, locals := 0 } : Room) [.int (nI 15)] [] (fun (r : Int32) (u : Unit) => r = nI 4) (fun (u : Unit) => []) := by
  intro sz
  refine Met.ofW (cc := cJ6_bitCount_0f7a4) (maxL := 1) (ret := (some .int)) (by decide) rfl ?_
  intro p e s m args below meth c s₁ B9 hml hv
  obtain ⟨rfl, hsz, hP, hK, hD0, hE⟩ := hv
  have hx := B9.exec
  have hb := B9.bytes
  have hr := B9.returns
  have hts : ∀ w ∈ WW, w.before ([.int (nI 15)] : List Value).toArray s = true := fun w h => atoms_spec (ws := .code yJ6_bitCount_0f7a4 cJ6_bitCount_0f7a4 1 (some .int) :: WW) B9.pre w (List.mem_cons_of_mem _ h)
  have hown : s.vm.findClass RJ6 = some m.cls := findClass_of_methodNamed B9.named
  subst hsz
  have hD := hD0.self (sz := s.heap.size)
  generalize hAe : va_A [] s.heap.size = A at hD hE ⊢
  have hA : ∀ q : Nat, s.heap.size ≤ q → A q := fun q h => by rw [← hAe]; exact Or.inr h
  have hl := lv_entry ([.int (nI 15)]) (n := 1) (Nat.le_of_ble_eq_true rfl)
  rw [lg_entry_eq]
  generalize (lg_sl ([.int (nI 15)]) ++ List.replicate (1 - (lg_sl ([.int (nI 15)])).length) Slot.unset).toArray = ls at hl ⊢
  have hl : lv_has ls 1 [(0, .int (nI 15))] := hl
  refine qgen (fun Q hQ => ?_)
  refine hgen (fun H locs hP hD hS => ?_) hP hD
  refine lv_iload_n hx hb dJ6_bitCount_0f7a4_0 rfl (lv_at hl 0 rfl) ?_
  refine lv_iload_n hx hb dJ6_bitCount_0f7a4_1 rfl (lv_at hl 0 rfl) ?_
  refine lv_iconst (v := nI 1) hx hb dJ6_bitCount_0f7a4_2 (by decide) ?_
  refine lv_iushr hx hb dJ6_bitCount_0f7a4_3 rfl ?_
  refine lv_toe (show _ = nI 7 by decide) ?_
  refine lv_ldcw (v := nI 1431655765) hx hb hown (hts _ q279) dJ6_bitCount_0f7a4_4 ?_
  refine lv_iand hx hb dJ6_bitCount_0f7a4_7 ?_
  refine lv_toe (show _ = nI 5 by decide) ?_
  refine lv_isub hx hb dJ6_bitCount_0f7a4_8 ?_
  refine lv_toe (show _ = nI 10 by decide) ?_
  refine lv_istore_n (lv' := [(0, .int (nI 10))]) hx hb dJ6_bitCount_0f7a4_9 rfl hl (by decide) rfl (fun ls hl => ?_)
  refine lv_iload_n hx hb dJ6_bitCount_0f7a4_10 rfl (lv_at hl 0 rfl) ?_
  refine lv_ldcw (v := nI 858993459) hx hb hown (hts _ q280) dJ6_bitCount_0f7a4_11 ?_
  refine lv_iand hx hb dJ6_bitCount_0f7a4_14 ?_
  refine lv_toe (show _ = nI 2 by decide) ?_
  refine lv_iload_n hx hb dJ6_bitCount_0f7a4_15 rfl (lv_at hl 0 rfl) ?_
  refine lv_iconst (v := nI 2) hx hb dJ6_bitCount_0f7a4_16 (by decide) ?_
  refine lv_iushr hx hb dJ6_bitCount_0f7a4_17 rfl ?_
  refine lv_toe (show _ = nI 2 by decide) ?_
  refine lv_ldcw (v := nI 858993459) hx hb hown (hts _ q280) dJ6_bitCount_0f7a4_18 ?_
  refine lv_iand hx hb dJ6_bitCount_0f7a4_21 ?_
  refine lv_toe (show _ = nI 2 by decide) ?_
  refine lv_iadd hx hb dJ6_bitCount_0f7a4_22 ?_
  refine lv_toe (show _ = nI 4 by decide) ?_
  refine lv_istore_n (lv' := [(0, .int (nI 4))]) hx hb dJ6_bitCount_0f7a4_23 rfl hl (by decide) rfl (fun ls hl => ?_)
  refine lv_iload_n hx hb dJ6_bitCount_0f7a4_24 rfl (lv_at hl 0 rfl) ?_
  refine lv_iload_n hx hb dJ6_bitCount_0f7a4_25 rfl (lv_at hl 0 rfl) ?_
  refine lv_iconst (v := nI 4) hx hb dJ6_bitCount_0f7a4_26 (by decide) ?_
  refine lv_iushr hx hb dJ6_bitCount_0f7a4_27 rfl ?_
  refine lv_toe (show _ = nI 0 by decide) ?_
  refine lv_iadd hx hb dJ6_bitCount_0f7a4_28 ?_
  refine lv_toe (show _ = nI 4 by decide) ?_
  refine lv_ldcw (v := nI 252645135) hx hb hown (hts _ q281) dJ6_bitCount_0f7a4_29 ?_
  refine lv_iand hx hb dJ6_bitCount_0f7a4_32 ?_
  refine lv_toe (show _ = nI 4 by decide) ?_
  refine lv_istore_n (lv' := [(0, .int (nI 4))]) hx hb dJ6_bitCount_0f7a4_33 rfl hl (by decide) rfl (fun ls hl => ?_)
  refine lv_iload_n hx hb dJ6_bitCount_0f7a4_34 rfl (lv_at hl 0 rfl) ?_
  refine lv_iload_n hx hb dJ6_bitCount_0f7a4_35 rfl (lv_at hl 0 rfl) ?_
  refine lv_bipush (v := nI 8) hx hb dJ6_bitCount_0f7a4_36 (by decide) ?_
  refine lv_iushr hx hb dJ6_bitCount_0f7a4_38 rfl ?_
  refine lv_toe (show _ = nI 0 by decide) ?_
  refine lv_iadd hx hb dJ6_bitCount_0f7a4_39 ?_
  refine lv_toe (show _ = nI 4 by decide) ?_
  refine lv_istore_n (lv' := [(0, .int (nI 4))]) hx hb dJ6_bitCount_0f7a4_40 rfl hl (by decide) rfl (fun ls hl => ?_)
  refine lv_iload_n hx hb dJ6_bitCount_0f7a4_41 rfl (lv_at hl 0 rfl) ?_
  refine lv_iload_n hx hb dJ6_bitCount_0f7a4_42 rfl (lv_at hl 0 rfl) ?_
  refine lv_bipush (v := nI 16) hx hb dJ6_bitCount_0f7a4_43 (by decide) ?_
  refine lv_iushr hx hb dJ6_bitCount_0f7a4_45 rfl ?_
  refine lv_toe (show _ = nI 0 by decide) ?_
  refine lv_iadd hx hb dJ6_bitCount_0f7a4_46 ?_
  refine lv_toe (show _ = nI 4 by decide) ?_
  refine lv_istore_n (lv' := [(0, .int (nI 4))]) hx hb dJ6_bitCount_0f7a4_47 rfl hl (by decide) rfl (fun ls hl => ?_)
  refine lv_iload_n hx hb dJ6_bitCount_0f7a4_48 rfl (lv_at hl 0 rfl) ?_
  refine lv_bipush (v := nI 63) hx hb dJ6_bitCount_0f7a4_49 (by decide) ?_
  refine lv_iand hx hb dJ6_bitCount_0f7a4_51 ?_
  refine lv_toe (show _ = nI 4 by decide) ?_
  have hP9 := hP.sub (ws' := []) [] rfl
  have hD9 := hD.sub (ws' := []) [] (by decide) rfl
  subst hQ
  exact W.iret (v := nI 4) hx hb hr (fun t ht hW => ⟨⟨nI 4, (), rfl, rfl, by rw [ht]; exact hP9, hD9⟩, hS.F ht⟩) hS.2.2 dJ6_bitCount_0f7a4_52
set_option maxHeartbeats 4000000 in
set_option maxRecDepth 100000 in
theorem c_bits_14 (l : Launch) (G : GG) : Mi l G yJ6_bitCount_0f7a4 cJ6_bitCount_0f7a4 1 (some .int) ({ frames := 0, cells := 0, slots := 0, locals := 0 } : Room) [.int (nI 14)] [] (fun (r : Int32) (u : Unit) => r = nI 3) (fun (u : Unit) => []) := by
  intro sz
  refine Met.ofW (cc := cJ6_bitCount_0f7a4) (maxL := 1) (ret := (some .int)) (by decide) rfl ?_
  intro p e s m args below meth c s₁ B9 hml hv
  obtain ⟨rfl, hsz, hP, hK, hD0, hE⟩ := hv
  have hx := B9.exec
  have hb := B9.bytes
  have hr := B9.returns
  have hts : ∀ w ∈ WW, w.before ([.int (nI 14)] : List Value).toArray s = true := fun w h => atoms_spec (ws := .code yJ6_bitCount_0f7a4 cJ6_bitCount_0f7a4 1 (some .int) :: WW) B9.pre w (List.mem_cons_of_mem _ h)
  have hown : s.vm.findClass RJ6 = some m.cls := findClass_of_methodNamed B9.named
  subst hsz
  have hD := hD0.self (sz := s.heap.size)
  generalize hAe : va_A [] s.heap.size = A at hD hE ⊢
  have hA : ∀ q : Nat, s.heap.size ≤ q → A q := fun q h => by rw [← hAe]; exact Or.inr h
  have hl := lv_entry ([.int (nI 14)]) (n := 1) (Nat.le_of_ble_eq_true rfl)
  rw [lg_entry_eq]
  generalize (lg_sl ([.int (nI 14)]) ++ List.replicate (1 - (lg_sl ([.int (nI 14)])).length) Slot.unset).toArray = ls at hl ⊢
  have hl : lv_has ls 1 [(0, .int (nI 14))] := hl
  refine qgen (fun Q hQ => ?_)
  refine hgen (fun H locs hP hD hS => ?_) hP hD
  refine lv_iload_n hx hb dJ6_bitCount_0f7a4_0 rfl (lv_at hl 0 rfl) ?_
  refine lv_iload_n hx hb dJ6_bitCount_0f7a4_1 rfl (lv_at hl 0 rfl) ?_
  refine lv_iconst (v := nI 1) hx hb dJ6_bitCount_0f7a4_2 (by decide) ?_
  refine lv_iushr hx hb dJ6_bitCount_0f7a4_3 rfl ?_
  refine lv_toe (show _ = nI 7 by decide) ?_
  refine lv_ldcw (v := nI 1431655765) hx hb hown (hts _ q279) dJ6_bitCount_0f7a4_4 ?_
  refine lv_iand hx hb dJ6_bitCount_0f7a4_7 ?_
  refine lv_toe (show _ = nI 5 by decide) ?_
  refine lv_isub hx hb dJ6_bitCount_0f7a4_8 ?_
  refine lv_toe (show _ = nI 9 by decide) ?_
  refine lv_istore_n (lv' := [(0, .int (nI 9))]) hx hb dJ6_bitCount_0f7a4_9 rfl hl (by decide) rfl (fun ls hl => ?_)
  refine lv_iload_n hx hb dJ6_bitCount_0f7a4_10 rfl (lv_at hl 0 rfl) ?_
  refine lv_ldcw (v := nI 858993459) hx hb hown (hts _ q280) dJ6_bitCount_0f7a4_11 ?_
  refine lv_iand hx hb dJ6_bitCount_0f7a4_14 ?_
  refine lv_toe (show _ = nI 1 by decide) ?_
  refine lv_iload_n hx hb dJ6_bitCount_0f7a4_15 rfl (lv_at hl 0 rfl) ?_
  refine lv_iconst (v := nI 2) hx hb dJ6_bitCount_0f7a4_16 (by decide) ?_
  refine lv_iushr hx hb dJ6_bitCount_0f7a4_17 rfl ?_
  refine lv_toe (show _ = nI 2 by decide) ?_
  refine lv_ldcw (v := nI 858993459) hx hb hown (hts _ q280) dJ6_bitCount_0f7a4_18 ?_
  refine lv_iand hx hb dJ6_bitCount_0f7a4_21 ?_
  refine lv_toe (show _ = nI 2 by decide) ?_
  refine lv_iadd hx hb dJ6_bitCount_0f7a4_22 ?_
  refine lv_toe (show _ = nI 3 by decide) ?_
  refine lv_istore_n (lv' := [(0, .int (nI 3))]) hx hb dJ6_bitCount_0f7a4_23 rfl hl (by decide) rfl (fun ls hl => ?_)
  refine lv_iload_n hx hb dJ6_bitCount_0f7a4_24 rfl (lv_at hl 0 rfl) ?_
  refine lv_iload_n hx hb dJ6_bitCount_0f7a4_25 rfl (lv_at hl 0 rfl) ?_
  refine lv_iconst (v := nI 4) hx hb dJ6_bitCount_0f7a4_26 (by decide) ?_
  refine lv_iushr hx hb dJ6_bitCount_0f7a4_27 rfl ?_
  refine lv_toe (show _ = nI 0 by decide) ?_
  refine lv_iadd hx hb dJ6_bitCount_0f7a4_28 ?_
  refine lv_toe (show _ = nI 3 by decide) ?_
  refine lv_ldcw (v := nI 252645135) hx hb hown (hts _ q281) dJ6_bitCount_0f7a4_29 ?_
  refine lv_iand hx hb dJ6_bitCount_0f7a4_32 ?_
  refine lv_toe (show _ = nI 3 by decide) ?_
  refine lv_istore_n (lv' := [(0, .int (nI 3))]) hx hb dJ6_bitCount_0f7a4_33 rfl hl (by decide) rfl (fun ls hl => ?_)
  refine lv_iload_n hx hb dJ6_bitCount_0f7a4_34 rfl (lv_at hl 0 rfl) ?_
  refine lv_iload_n hx hb dJ6_bitCount_0f7a4_35 rfl (lv_at hl 0 rfl) ?_
  refine lv_bipush (v := nI 8) hx hb dJ6_bitCount_0f7a4_36 (by decide) ?_
  refine lv_iushr hx hb dJ6_bitCount_0f7a4_38 rfl ?_
  refine lv_toe (show _ = nI 0 by decide) ?_
  refine lv_iadd hx hb dJ6_bitCount_0f7a4_39 ?_
  refine lv_toe (show _ = nI 3 by decide) ?_
  refine lv_istore_n (lv' := [(0, .int (nI 3))]) hx hb dJ6_bitCount_0f7a4_40 rfl hl (by decide) rfl (fun ls hl => ?_)
  refine lv_iload_n hx hb dJ6_bitCount_0f7a4_41 rfl (lv_at hl 0 rfl) ?_
  refine lv_iload_n hx hb dJ6_bitCount_0f7a4_42 rfl (lv_at hl 0 rfl) ?_
  refine lv_bipush (v := nI 16) hx hb dJ6_bitCount_0f7a4_43 (by decide) ?_
  refine lv_iushr hx hb dJ6_bitCount_0f7a4_45 rfl ?_
  refine lv_toe (show _ = nI 0 by decide) ?_
  refine lv_iadd hx hb dJ6_bitCount_0f7a4_46 ?_
  refine lv_toe (show _ = nI 3 by decide) ?_
  refine lv_istore_n (lv' := [(0, .int (nI 3))]) hx hb dJ6_bitCount_0f7a4_47 rfl hl (by decide) rfl (fun ls hl => ?_)
  refine lv_iload_n hx hb dJ6_bitCount_0f7a4_48 rfl (lv_at hl 0 rfl) ?_
  refine lv_bipush (v := nI 63) hx hb dJ6_bitCount_0f7a4_49 (by decide) ?_
  refine lv_iand hx hb dJ6_bitCount_0f7a4_51 ?_
  refine lv_toe (show _ = nI 3 by decide) ?_
  have hP9 := hP.sub (ws' := []) [] rfl
  have hD9 := hD.sub (ws' := []) [] (by decide) rfl
  subst hQ
  exact W.iret (v := nI 3) hx hb hr (fun t ht hW => ⟨⟨nI 3, (), rfl, rfl, by rw [ht]; exact hP9, hD9⟩, hS.F ht⟩) hS.2.2 dJ6_bitCount_0f7a4_52
set_option maxHeartbeats 4000000 in
set_option maxRecDepth 100000 in
theorem c_bits_12 (l : Launch) (G : GG) : Mi l G yJ6_bitCount_0f7a4 cJ6_bitCount_0f7a4 1 (some .int) ({ frames := 0, cells := 0, slots := 0, locals := 0 } : Room) [.int (nI 12)] [] (fun (r : Int32) (u : Unit) => r = nI 2) (fun (u : Unit) => []) := by
  intro sz
  refine Met.ofW (cc := cJ6_bitCount_0f7a4) (maxL := 1) (ret := (some .int)) (by decide) rfl ?_
  intro p e s m args below meth c s₁ B9 hml hv
  obtain ⟨rfl, hsz, hP, hK, hD0, hE⟩ := hv
  have hx := B9.exec
  have hb := B9.bytes
  have hr := B9.returns
  have hts : ∀ w ∈ WW, w.before ([.int (nI 12)] : List Value).toArray s = true := fun w h => atoms_spec (ws := .code yJ6_bitCount_0f7a4 cJ6_bitCount_0f7a4 1 (some .int) :: WW) B9.pre w (List.mem_cons_of_mem _ h)
  have hown : s.vm.findClass RJ6 = some m.cls := findClass_of_methodNamed B9.named
  subst hsz
  have hD := hD0.self (sz := s.heap.size)
  generalize hAe : va_A [] s.heap.size = A at hD hE ⊢
  have hA : ∀ q : Nat, s.heap.size ≤ q → A q := fun q h => by rw [← hAe]; exact Or.inr h
  have hl := lv_entry ([.int (nI 12)]) (n := 1) (Nat.le_of_ble_eq_true rfl)
  rw [lg_entry_eq]
  generalize (lg_sl ([.int (nI 12)]) ++ List.replicate (1 - (lg_sl ([.int (nI 12)])).length) Slot.unset).toArray = ls at hl ⊢
  have hl : lv_has ls 1 [(0, .int (nI 12))] := hl
  refine qgen (fun Q hQ => ?_)
  refine hgen (fun H locs hP hD hS => ?_) hP hD
  refine lv_iload_n hx hb dJ6_bitCount_0f7a4_0 rfl (lv_at hl 0 rfl) ?_
  refine lv_iload_n hx hb dJ6_bitCount_0f7a4_1 rfl (lv_at hl 0 rfl) ?_
  refine lv_iconst (v := nI 1) hx hb dJ6_bitCount_0f7a4_2 (by decide) ?_
  refine lv_iushr hx hb dJ6_bitCount_0f7a4_3 rfl ?_
  refine lv_toe (show _ = nI 6 by decide) ?_
  refine lv_ldcw (v := nI 1431655765) hx hb hown (hts _ q279) dJ6_bitCount_0f7a4_4 ?_
  refine lv_iand hx hb dJ6_bitCount_0f7a4_7 ?_
  refine lv_toe (show _ = nI 4 by decide) ?_
  refine lv_isub hx hb dJ6_bitCount_0f7a4_8 ?_
  refine lv_toe (show _ = nI 8 by decide) ?_
  refine lv_istore_n (lv' := [(0, .int (nI 8))]) hx hb dJ6_bitCount_0f7a4_9 rfl hl (by decide) rfl (fun ls hl => ?_)
  refine lv_iload_n hx hb dJ6_bitCount_0f7a4_10 rfl (lv_at hl 0 rfl) ?_
  refine lv_ldcw (v := nI 858993459) hx hb hown (hts _ q280) dJ6_bitCount_0f7a4_11 ?_
  refine lv_iand hx hb dJ6_bitCount_0f7a4_14 ?_
  refine lv_toe (show _ = nI 0 by decide) ?_
  refine lv_iload_n hx hb dJ6_bitCount_0f7a4_15 rfl (lv_at hl 0 rfl) ?_
  refine lv_iconst (v := nI 2) hx hb dJ6_bitCount_0f7a4_16 (by decide) ?_
  refine lv_iushr hx hb dJ6_bitCount_0f7a4_17 rfl ?_
  refine lv_toe (show _ = nI 2 by decide) ?_
  refine lv_ldcw (v := nI 858993459) hx hb hown (hts _ q280) dJ6_bitCount_0f7a4_18 ?_
  refine lv_iand hx hb dJ6_bitCount_0f7a4_21 ?_
  refine lv_toe (show _ = nI 2 by decide) ?_
  refine lv_iadd hx hb dJ6_bitCount_0f7a4_22 ?_
  refine lv_toe (show _ = nI 2 by decide) ?_
  refine lv_istore_n (lv' := [(0, .int (nI 2))]) hx hb dJ6_bitCount_0f7a4_23 rfl hl (by decide) rfl (fun ls hl => ?_)
  refine lv_iload_n hx hb dJ6_bitCount_0f7a4_24 rfl (lv_at hl 0 rfl) ?_
  refine lv_iload_n hx hb dJ6_bitCount_0f7a4_25 rfl (lv_at hl 0 rfl) ?_
  refine lv_iconst (v := nI 4) hx hb dJ6_bitCount_0f7a4_26 (by decide) ?_
  refine lv_iushr hx hb dJ6_bitCount_0f7a4_27 rfl ?_
  refine lv_toe (show _ = nI 0 by decide) ?_
  refine lv_iadd hx hb dJ6_bitCount_0f7a4_28 ?_
  refine lv_toe (show _ = nI 2 by decide) ?_
  refine lv_ldcw (v := nI 252645135) hx hb hown (hts _ q281) dJ6_bitCount_0f7a4_29 ?_
  refine lv_iand hx hb dJ6_bitCount_0f7a4_32 ?_
  refine lv_toe (show _ = nI 2 by decide) ?_
  refine lv_istore_n (lv' := [(0, .int (nI 2))]) hx hb dJ6_bitCount_0f7a4_33 rfl hl (by decide) rfl (fun ls hl => ?_)
  refine lv_iload_n hx hb dJ6_bitCount_0f7a4_34 rfl (lv_at hl 0 rfl) ?_
  refine lv_iload_n hx hb dJ6_bitCount_0f7a4_35 rfl (lv_at hl 0 rfl) ?_
  refine lv_bipush (v := nI 8) hx hb dJ6_bitCount_0f7a4_36 (by decide) ?_
  refine lv_iushr hx hb dJ6_bitCount_0f7a4_38 rfl ?_
  refine lv_toe (show _ = nI 0 by decide) ?_
  refine lv_iadd hx hb dJ6_bitCount_0f7a4_39 ?_
  refine lv_toe (show _ = nI 2 by decide) ?_
  refine lv_istore_n (lv' := [(0, .int (nI 2))]) hx hb dJ6_bitCount_0f7a4_40 rfl hl (by decide) rfl (fun ls hl => ?_)
  refine lv_iload_n hx hb dJ6_bitCount_0f7a4_41 rfl (lv_at hl 0 rfl) ?_
  refine lv_iload_n hx hb dJ6_bitCount_0f7a4_42 rfl (lv_at hl 0 rfl) ?_
  refine lv_bipush (v := nI 16) hx hb dJ6_bitCount_0f7a4_43 (by decide) ?_
  refine lv_iushr hx hb dJ6_bitCount_0f7a4_45 rfl ?_
  refine lv_toe (show _ = nI 0 by decide) ?_
  refine lv_iadd hx hb dJ6_bitCount_0f7a4_46 ?_
  refine lv_toe (show _ = nI 2 by decide) ?_
  refine lv_istore_n (lv' := [(0, .int (nI 2))]) hx hb dJ6_bitCount_0f7a4_47 rfl hl (by decide) rfl (fun ls hl => ?_)
  refine lv_iload_n hx hb dJ6_bitCount_0f7a4_48 rfl (lv_at hl 0 rfl) ?_
  refine lv_bipush (v := nI 63) hx hb dJ6_bitCount_0f7a4_49 (by decide) ?_
  refine lv_iand hx hb dJ6_bitCount_0f7a4_51 ?_
  refine lv_toe (show _ = nI 2 by decide) ?_
  have hP9 := hP.sub (ws' := []) [] rfl
  have hD9 := hD.sub (ws' := []) [] (by decide) rfl
  subst hQ
  exact W.iret (v := nI 2) hx hb hr (fun t ht hW => ⟨⟨nI 2, (), rfl, rfl, by rw [ht]; exact hP9, hD9⟩, hS.F ht⟩) hS.2.2 dJ6_bitCount_0f7a4_52
set_option maxHeartbeats 4000000 in
set_option maxRecDepth 100000 in
theorem c_bits_8 (l : Launch) (G : GG) : Mi l G yJ6_bitCount_0f7a4 cJ6_bitCount_0f7a4 1 (some .int) ({ frames := 0, cells := 0, slots := 0, locals := 0 } : Room) [.int (nI 8)] [] (fun (r : Int32) (u : Unit) => r = nI 1) (fun (u : Unit) => []) := by
  intro sz
  refine Met.ofW (cc := cJ6_bitCount_0f7a4) (maxL := 1) (ret := (some .int)) (by decide) rfl ?_
  intro p e s m args below meth c s₁ B9 hml hv
  obtain ⟨rfl, hsz, hP, hK, hD0, hE⟩ := hv
  have hx := B9.exec
  have hb := B9.bytes
  have hr := B9.returns
  have hts : ∀ w ∈ WW, w.before ([.int (nI 8)] : List Value).toArray s = true := fun w h => atoms_spec (ws := .code yJ6_bitCount_0f7a4 cJ6_bitCount_0f7a4 1 (some .int) :: WW) B9.pre w (List.mem_cons_of_mem _ h)
  have hown : s.vm.findClass RJ6 = some m.cls := findClass_of_methodNamed B9.named
  subst hsz
  have hD := hD0.self (sz := s.heap.size)
  generalize hAe : va_A [] s.heap.size = A at hD hE ⊢
  have hA : ∀ q : Nat, s.heap.size ≤ q → A q := fun q h => by rw [← hAe]; exact Or.inr h
  have hl := lv_entry ([.int (nI 8)]) (n := 1) (Nat.le_of_ble_eq_true rfl)
  rw [lg_entry_eq]
  generalize (lg_sl ([.int (nI 8)]) ++ List.replicate (1 - (lg_sl ([.int (nI 8)])).length) Slot.unset).toArray = ls at hl ⊢
  have hl : lv_has ls 1 [(0, .int (nI 8))] := hl
  refine qgen (fun Q hQ => ?_)
  refine hgen (fun H locs hP hD hS => ?_) hP hD
  refine lv_iload_n hx hb dJ6_bitCount_0f7a4_0 rfl (lv_at hl 0 rfl) ?_
  refine lv_iload_n hx hb dJ6_bitCount_0f7a4_1 rfl (lv_at hl 0 rfl) ?_
  refine lv_iconst (v := nI 1) hx hb dJ6_bitCount_0f7a4_2 (by decide) ?_
  refine lv_iushr hx hb dJ6_bitCount_0f7a4_3 rfl ?_
  refine lv_toe (show _ = nI 4 by decide) ?_
  refine lv_ldcw (v := nI 1431655765) hx hb hown (hts _ q279) dJ6_bitCount_0f7a4_4 ?_
  refine lv_iand hx hb dJ6_bitCount_0f7a4_7 ?_
  refine lv_toe (show _ = nI 4 by decide) ?_
  refine lv_isub hx hb dJ6_bitCount_0f7a4_8 ?_
  refine lv_toe (show _ = nI 4 by decide) ?_
  refine lv_istore_n (lv' := [(0, .int (nI 4))]) hx hb dJ6_bitCount_0f7a4_9 rfl hl (by decide) rfl (fun ls hl => ?_)
  refine lv_iload_n hx hb dJ6_bitCount_0f7a4_10 rfl (lv_at hl 0 rfl) ?_
  refine lv_ldcw (v := nI 858993459) hx hb hown (hts _ q280) dJ6_bitCount_0f7a4_11 ?_
  refine lv_iand hx hb dJ6_bitCount_0f7a4_14 ?_
  refine lv_toe (show _ = nI 0 by decide) ?_
  refine lv_iload_n hx hb dJ6_bitCount_0f7a4_15 rfl (lv_at hl 0 rfl) ?_
  refine lv_iconst (v := nI 2) hx hb dJ6_bitCount_0f7a4_16 (by decide) ?_
  refine lv_iushr hx hb dJ6_bitCount_0f7a4_17 rfl ?_
  refine lv_toe (show _ = nI 1 by decide) ?_
  refine lv_ldcw (v := nI 858993459) hx hb hown (hts _ q280) dJ6_bitCount_0f7a4_18 ?_
  refine lv_iand hx hb dJ6_bitCount_0f7a4_21 ?_
  refine lv_toe (show _ = nI 1 by decide) ?_
  refine lv_iadd hx hb dJ6_bitCount_0f7a4_22 ?_
  refine lv_toe (show _ = nI 1 by decide) ?_
  refine lv_istore_n (lv' := [(0, .int (nI 1))]) hx hb dJ6_bitCount_0f7a4_23 rfl hl (by decide) rfl (fun ls hl => ?_)
  refine lv_iload_n hx hb dJ6_bitCount_0f7a4_24 rfl (lv_at hl 0 rfl) ?_
  refine lv_iload_n hx hb dJ6_bitCount_0f7a4_25 rfl (lv_at hl 0 rfl) ?_
  refine lv_iconst (v := nI 4) hx hb dJ6_bitCount_0f7a4_26 (by decide) ?_
  refine lv_iushr hx hb dJ6_bitCount_0f7a4_27 rfl ?_
  refine lv_toe (show _ = nI 0 by decide) ?_
  refine lv_iadd hx hb dJ6_bitCount_0f7a4_28 ?_
  refine lv_toe (show _ = nI 1 by decide) ?_
  refine lv_ldcw (v := nI 252645135) hx hb hown (hts _ q281) dJ6_bitCount_0f7a4_29 ?_
  refine lv_iand hx hb dJ6_bitCount_0f7a4_32 ?_
  refine lv_toe (show _ = nI 1 by decide) ?_
  refine lv_istore_n (lv' := [(0, .int (nI 1))]) hx hb dJ6_bitCount_0f7a4_33 rfl hl (by decide) rfl (fun ls hl => ?_)
  refine lv_iload_n hx hb dJ6_bitCount_0f7a4_34 rfl (lv_at hl 0 rfl) ?_
  refine lv_iload_n hx hb dJ6_bitCount_0f7a4_35 rfl (lv_at hl 0 rfl) ?_
  refine lv_bipush (v := nI 8) hx hb dJ6_bitCount_0f7a4_36 (by decide) ?_
  refine lv_iushr hx hb dJ6_bitCount_0f7a4_38 rfl ?_
  refine lv_toe (show _ = nI 0 by decide) ?_
  refine lv_iadd hx hb dJ6_bitCount_0f7a4_39 ?_
  refine lv_toe (show _ = nI 1 by decide) ?_
  refine lv_istore_n (lv' := [(0, .int (nI 1))]) hx hb dJ6_bitCount_0f7a4_40 rfl hl (by decide) rfl (fun ls hl => ?_)
  refine lv_iload_n hx hb dJ6_bitCount_0f7a4_41 rfl (lv_at hl 0 rfl) ?_
  refine lv_iload_n hx hb dJ6_bitCount_0f7a4_42 rfl (lv_at hl 0 rfl) ?_
  refine lv_bipush (v := nI 16) hx hb dJ6_bitCount_0f7a4_43 (by decide) ?_
  refine lv_iushr hx hb dJ6_bitCount_0f7a4_45 rfl ?_
  refine lv_toe (show _ = nI 0 by decide) ?_
  refine lv_iadd hx hb dJ6_bitCount_0f7a4_46 ?_
  refine lv_toe (show _ = nI 1 by decide) ?_
  refine lv_istore_n (lv' := [(0, .int (nI 1))]) hx hb dJ6_bitCount_0f7a4_47 rfl hl (by decide) rfl (fun ls hl => ?_)
  refine lv_iload_n hx hb dJ6_bitCount_0f7a4_48 rfl (lv_at hl 0 rfl) ?_
  refine lv_bipush (v := nI 63) hx hb dJ6_bitCount_0f7a4_49 (by decide) ?_
  refine lv_iand hx hb dJ6_bitCount_0f7a4_51 ?_
  refine lv_toe (show _ = nI 1 by decide) ?_
  have hP9 := hP.sub (ws' := []) [] rfl
  have hD9 := hD.sub (ws' := []) [] (by decide) rfl
  subst hQ
  exact W.iret (v := nI 1) hx hb hr (fun t ht hW => ⟨⟨nI 1, (), rfl, rfl, by rw [ht]; exact hP9, hD9⟩, hS.F ht⟩) hS.2.2 dJ6_bitCount_0f7a4_52
set_option maxHeartbeats 4000000 in
set_option maxRecDepth 100000 in
theorem c_bits_49152 (l : Launch) (G : GG) : Mi l G yJ6_bitCount_0f7a4 cJ6_bitCount_0f7a4 1 (some .int) ({ frames := 0, cells := 0, slots := 0, locals := 0 } : Room) [.int (nI 49152)] [] (fun (r : Int32) (u : Unit) => r = nI 2) (fun (u : Unit) => []) := by
  intro sz
  refine Met.ofW (cc := cJ6_bitCount_0f7a4) (maxL := 1) (ret := (some .int)) (by decide) rfl ?_
  intro p e s m args below meth c s₁ B9 hml hv
  obtain ⟨rfl, hsz, hP, hK, hD0, hE⟩ := hv
  have hx := B9.exec
  have hb := B9.bytes
  have hr := B9.returns
  have hts : ∀ w ∈ WW, w.before ([.int (nI 49152)] : List Value).toArray s = true := fun w h => atoms_spec (ws := .code yJ6_bitCount_0f7a4 cJ6_bitCount_0f7a4 1 (some .int) :: WW) B9.pre w (List.mem_cons_of_mem _ h)
  have hown : s.vm.findClass RJ6 = some m.cls := findClass_of_methodNamed B9.named
  subst hsz
  have hD := hD0.self (sz := s.heap.size)
  generalize hAe : va_A [] s.heap.size = A at hD hE ⊢
  have hA : ∀ q : Nat, s.heap.size ≤ q → A q := fun q h => by rw [← hAe]; exact Or.inr h
  have hl := lv_entry ([.int (nI 49152)]) (n := 1) (Nat.le_of_ble_eq_true rfl)
  rw [lg_entry_eq]
  generalize (lg_sl ([.int (nI 49152)]) ++ List.replicate (1 - (lg_sl ([.int (nI 49152)])).length) Slot.unset).toArray = ls at hl ⊢
  have hl : lv_has ls 1 [(0, .int (nI 49152))] := hl
  refine qgen (fun Q hQ => ?_)
  refine hgen (fun H locs hP hD hS => ?_) hP hD
  refine lv_iload_n hx hb dJ6_bitCount_0f7a4_0 rfl (lv_at hl 0 rfl) ?_
  refine lv_iload_n hx hb dJ6_bitCount_0f7a4_1 rfl (lv_at hl 0 rfl) ?_
  refine lv_iconst (v := nI 1) hx hb dJ6_bitCount_0f7a4_2 (by decide) ?_
  refine lv_iushr hx hb dJ6_bitCount_0f7a4_3 rfl ?_
  refine lv_toe (show _ = nI 24576 by decide) ?_
  refine lv_ldcw (v := nI 1431655765) hx hb hown (hts _ q279) dJ6_bitCount_0f7a4_4 ?_
  refine lv_iand hx hb dJ6_bitCount_0f7a4_7 ?_
  refine lv_toe (show _ = nI 16384 by decide) ?_
  refine lv_isub hx hb dJ6_bitCount_0f7a4_8 ?_
  refine lv_toe (show _ = nI 32768 by decide) ?_
  refine lv_istore_n (lv' := [(0, .int (nI 32768))]) hx hb dJ6_bitCount_0f7a4_9 rfl hl (by decide) rfl (fun ls hl => ?_)
  refine lv_iload_n hx hb dJ6_bitCount_0f7a4_10 rfl (lv_at hl 0 rfl) ?_
  refine lv_ldcw (v := nI 858993459) hx hb hown (hts _ q280) dJ6_bitCount_0f7a4_11 ?_
  refine lv_iand hx hb dJ6_bitCount_0f7a4_14 ?_
  refine lv_toe (show _ = nI 0 by decide) ?_
  refine lv_iload_n hx hb dJ6_bitCount_0f7a4_15 rfl (lv_at hl 0 rfl) ?_
  refine lv_iconst (v := nI 2) hx hb dJ6_bitCount_0f7a4_16 (by decide) ?_
  refine lv_iushr hx hb dJ6_bitCount_0f7a4_17 rfl ?_
  refine lv_toe (show _ = nI 8192 by decide) ?_
  refine lv_ldcw (v := nI 858993459) hx hb hown (hts _ q280) dJ6_bitCount_0f7a4_18 ?_
  refine lv_iand hx hb dJ6_bitCount_0f7a4_21 ?_
  refine lv_toe (show _ = nI 8192 by decide) ?_
  refine lv_iadd hx hb dJ6_bitCount_0f7a4_22 ?_
  refine lv_toe (show _ = nI 8192 by decide) ?_
  refine lv_istore_n (lv' := [(0, .int (nI 8192))]) hx hb dJ6_bitCount_0f7a4_23 rfl hl (by decide) rfl (fun ls hl => ?_)
  refine lv_iload_n hx hb dJ6_bitCount_0f7a4_24 rfl (lv_at hl 0 rfl) ?_
  refine lv_iload_n hx hb dJ6_bitCount_0f7a4_25 rfl (lv_at hl 0 rfl) ?_
  refine lv_iconst (v := nI 4) hx hb dJ6_bitCount_0f7a4_26 (by decide) ?_
  refine lv_iushr hx hb dJ6_bitCount_0f7a4_27 rfl ?_
  refine lv_toe (show _ = nI 512 by decide) ?_
  refine lv_iadd hx hb dJ6_bitCount_0f7a4_28 ?_
  refine lv_toe (show _ = nI 8704 by decide) ?_
  refine lv_ldcw (v := nI 252645135) hx hb hown (hts _ q281) dJ6_bitCount_0f7a4_29 ?_
  refine lv_iand hx hb dJ6_bitCount_0f7a4_32 ?_
  refine lv_toe (show _ = nI 512 by decide) ?_
  refine lv_istore_n (lv' := [(0, .int (nI 512))]) hx hb dJ6_bitCount_0f7a4_33 rfl hl (by decide) rfl (fun ls hl => ?_)
  refine lv_iload_n hx hb dJ6_bitCount_0f7a4_34 rfl (lv_at hl 0 rfl) ?_
  refine lv_iload_n hx hb dJ6_bitCount_0f7a4_35 rfl (lv_at hl 0 rfl) ?_
  refine lv_bipush (v := nI 8) hx hb dJ6_bitCount_0f7a4_36 (by decide) ?_
  refine lv_iushr hx hb dJ6_bitCount_0f7a4_38 rfl ?_
  refine lv_toe (show _ = nI 2 by decide) ?_
  refine lv_iadd hx hb dJ6_bitCount_0f7a4_39 ?_
  refine lv_toe (show _ = nI 514 by decide) ?_
  refine lv_istore_n (lv' := [(0, .int (nI 514))]) hx hb dJ6_bitCount_0f7a4_40 rfl hl (by decide) rfl (fun ls hl => ?_)
  refine lv_iload_n hx hb dJ6_bitCount_0f7a4_41 rfl (lv_at hl 0 rfl) ?_
  refine lv_iload_n hx hb dJ6_bitCount_0f7a4_42 rfl (lv_at hl 0 rfl) ?_
  refine lv_bipush (v := nI 16) hx hb dJ6_bitCount_0f7a4_43 (by decide) ?_
  refine lv_iushr hx hb dJ6_bitCount_0f7a4_45 rfl ?_
  refine lv_toe (show _ = nI 0 by decide) ?_
  refine lv_iadd hx hb dJ6_bitCount_0f7a4_46 ?_
  refine lv_toe (show _ = nI 514 by decide) ?_
  refine lv_istore_n (lv' := [(0, .int (nI 514))]) hx hb dJ6_bitCount_0f7a4_47 rfl hl (by decide) rfl (fun ls hl => ?_)
  refine lv_iload_n hx hb dJ6_bitCount_0f7a4_48 rfl (lv_at hl 0 rfl) ?_
  refine lv_bipush (v := nI 63) hx hb dJ6_bitCount_0f7a4_49 (by decide) ?_
  refine lv_iand hx hb dJ6_bitCount_0f7a4_51 ?_
  refine lv_toe (show _ = nI 2 by decide) ?_
  have hP9 := hP.sub (ws' := []) [] rfl
  have hD9 := hD.sub (ws' := []) [] (by decide) rfl
  subst hQ
  exact W.iret (v := nI 2) hx hb hr (fun t ht hW => ⟨⟨nI 2, (), rfl, rfl, by rw [ht]; exact hP9, hD9⟩, hS.F ht⟩) hS.2.2 dJ6_bitCount_0f7a4_52
set_option maxHeartbeats 4000000 in
set_option maxRecDepth 100000 in
theorem c_J6_bitCount_0f7a4 (l : Launch) (G : GG) (x : Int32) : Mi l G yJ6_bitCount_0f7a4 cJ6_bitCount_0f7a4 1 (some .int) ({ frames := 0, cells := 0, slots := 0, locals := 0 } : Room) [.int x] [] (fun (r : Int32) (u : Unit) => True) (fun (u : Unit) => []) := by
  intro sz
  refine Met.ofW (cc := cJ6_bitCount_0f7a4) (maxL := 1) (ret := (some .int)) (by decide) rfl ?_
  intro p e s m args below meth c s₁ B9 hml hv
  obtain ⟨rfl, hsz, hP, hK, hD0, hE⟩ := hv
  have hx := B9.exec
  have hb := B9.bytes
  have hr := B9.returns
  have hts : ∀ w ∈ WW, w.before ([.int x] : List Value).toArray s = true := fun w h => atoms_spec (ws := .code yJ6_bitCount_0f7a4 cJ6_bitCount_0f7a4 1 (some .int) :: WW) B9.pre w (List.mem_cons_of_mem _ h)
  have hown : s.vm.findClass RJ6 = some m.cls := findClass_of_methodNamed B9.named
  subst hsz
  have hD := hD0.self (sz := s.heap.size)
  generalize hAe : va_A [] s.heap.size = A at hD hE ⊢
  have hA : ∀ q : Nat, s.heap.size ≤ q → A q := fun q h => by rw [← hAe]; exact Or.inr h
  have hl := lv_entry ([.int x]) (n := 1) (Nat.le_of_ble_eq_true rfl)
  rw [lg_entry_eq]
  generalize (lg_sl ([.int x]) ++ List.replicate (1 - (lg_sl ([.int x])).length) Slot.unset).toArray = ls at hl ⊢
  have hl : lv_has ls 1 [(0, .int x)] := hl
  refine qgen (fun Q hQ => ?_)
  refine hgen (fun H locs hP hD hS => ?_) hP hD
  refine lv_iload_n hx hb dJ6_bitCount_0f7a4_0 rfl (lv_at hl 0 rfl) ?_
  refine lv_iload_n hx hb dJ6_bitCount_0f7a4_1 rfl (lv_at hl 0 rfl) ?_
  refine lv_iconst (v := nI 1) hx hb dJ6_bitCount_0f7a4_2 (by decide) ?_
  refine lv_iushr hx hb dJ6_bitCount_0f7a4_3 rfl ?_
  refine lv_topi (fun w_1 ew_1 => ?_)
  refine lv_ldcw (v := nI 1431655765) hx hb hown (hts _ q279) dJ6_bitCount_0f7a4_4 ?_
  refine lv_iand hx hb dJ6_bitCount_0f7a4_7 ?_
  refine lv_topi (fun w_2 ew_2 => ?_)
  refine lv_isub hx hb dJ6_bitCount_0f7a4_8 ?_
  refine lv_topi (fun w_3 ew_3 => ?_)
  refine lv_istore_n (lv' := [(0, .int w_3)]) hx hb dJ6_bitCount_0f7a4_9 rfl hl (by decide) rfl (fun ls hl => ?_)
  refine lv_iload_n hx hb dJ6_bitCount_0f7a4_10 rfl (lv_at hl 0 rfl) ?_
  refine lv_ldcw (v := nI 858993459) hx hb hown (hts _ q280) dJ6_bitCount_0f7a4_11 ?_
  refine lv_iand hx hb dJ6_bitCount_0f7a4_14 ?_
  refine lv_topi (fun w_4 ew_4 => ?_)
  refine lv_iload_n hx hb dJ6_bitCount_0f7a4_15 rfl (lv_at hl 0 rfl) ?_
  refine lv_iconst (v := nI 2) hx hb dJ6_bitCount_0f7a4_16 (by decide) ?_
  refine lv_iushr hx hb dJ6_bitCount_0f7a4_17 rfl ?_
  refine lv_topi (fun w_5 ew_5 => ?_)
  refine lv_ldcw (v := nI 858993459) hx hb hown (hts _ q280) dJ6_bitCount_0f7a4_18 ?_
  refine lv_iand hx hb dJ6_bitCount_0f7a4_21 ?_
  refine lv_topi (fun w_6 ew_6 => ?_)
  refine lv_iadd hx hb dJ6_bitCount_0f7a4_22 ?_
  refine lv_topi (fun w_7 ew_7 => ?_)
  refine lv_istore_n (lv' := [(0, .int w_7)]) hx hb dJ6_bitCount_0f7a4_23 rfl hl (by decide) rfl (fun ls hl => ?_)
  refine lv_iload_n hx hb dJ6_bitCount_0f7a4_24 rfl (lv_at hl 0 rfl) ?_
  refine lv_iload_n hx hb dJ6_bitCount_0f7a4_25 rfl (lv_at hl 0 rfl) ?_
  refine lv_iconst (v := nI 4) hx hb dJ6_bitCount_0f7a4_26 (by decide) ?_
  refine lv_iushr hx hb dJ6_bitCount_0f7a4_27 rfl ?_
  refine lv_topi (fun w_8 ew_8 => ?_)
  refine lv_iadd hx hb dJ6_bitCount_0f7a4_28 ?_
  refine lv_topi (fun w_9 ew_9 => ?_)
  refine lv_ldcw (v := nI 252645135) hx hb hown (hts _ q281) dJ6_bitCount_0f7a4_29 ?_
  refine lv_iand hx hb dJ6_bitCount_0f7a4_32 ?_
  refine lv_topi (fun w_10 ew_10 => ?_)
  refine lv_istore_n (lv' := [(0, .int w_10)]) hx hb dJ6_bitCount_0f7a4_33 rfl hl (by decide) rfl (fun ls hl => ?_)
  refine lv_iload_n hx hb dJ6_bitCount_0f7a4_34 rfl (lv_at hl 0 rfl) ?_
  refine lv_iload_n hx hb dJ6_bitCount_0f7a4_35 rfl (lv_at hl 0 rfl) ?_
  refine lv_bipush (v := nI 8) hx hb dJ6_bitCount_0f7a4_36 (by decide) ?_
  refine lv_iushr hx hb dJ6_bitCount_0f7a4_38 rfl ?_
  refine lv_topi (fun w_11 ew_11 => ?_)
  refine lv_iadd hx hb dJ6_bitCount_0f7a4_39 ?_
  refine lv_topi (fun w_12 ew_12 => ?_)
  refine lv_istore_n (lv' := [(0, .int w_12)]) hx hb dJ6_bitCount_0f7a4_40 rfl hl (by decide) rfl (fun ls hl => ?_)
  refine lv_iload_n hx hb dJ6_bitCount_0f7a4_41 rfl (lv_at hl 0 rfl) ?_
  refine lv_iload_n hx hb dJ6_bitCount_0f7a4_42 rfl (lv_at hl 0 rfl) ?_
  refine lv_bipush (v := nI 16) hx hb dJ6_bitCount_0f7a4_43 (by decide) ?_
  refine lv_iushr hx hb dJ6_bitCount_0f7a4_45 rfl ?_
  refine lv_topi (fun w_13 ew_13 => ?_)
  refine lv_iadd hx hb dJ6_bitCount_0f7a4_46 ?_
  refine lv_topi (fun w_14 ew_14 => ?_)
  refine lv_istore_n (lv' := [(0, .int w_14)]) hx hb dJ6_bitCount_0f7a4_47 rfl hl (by decide) rfl (fun ls hl => ?_)
  refine lv_iload_n hx hb dJ6_bitCount_0f7a4_48 rfl (lv_at hl 0 rfl) ?_
  refine lv_bipush (v := nI 63) hx hb dJ6_bitCount_0f7a4_49 (by decide) ?_
  refine lv_iand hx hb dJ6_bitCount_0f7a4_51 ?_
  refine lv_topi (fun w_15 ew_15 => ?_)
  have hP9 := hP.sub (ws' := []) [] rfl
  have hD9 := hD.sub (ws' := []) [] (by decide) rfl
  subst hQ
  exact W.iret (v := w_15) hx hb hr (fun t ht hW => ⟨⟨w_15, (), rfl, trivial, by rw [ht]; exact hP9, hD9⟩, hS.F ht⟩) hS.2.2 dJ6_bitCount_0f7a4_52
set_option maxHeartbeats 4000000 in
set_option maxRecDepth 100000 in
theorem c_X6_bitOf (l : Launch) (G : GG) (v : Int32) : Mi l G yX6_bitOf cX6_bitOf 1 (some .int) ({ frames := 0, cells := 0, slots := 0, locals := 0 } : Room) [.int v] [] (fun (r : Int32) (u : Unit) => True) (fun (u : Unit) => []) := by
  intro sz
  refine Met.ofW (cc := cX6_bitOf) (maxL := 1) (ret := (some .int)) (by decide) rfl ?_
  intro p e s m args below meth c s₁ B9 hml hv
  obtain ⟨rfl, hsz, hP, hK, hD0, hE⟩ := hv
  have hx := B9.exec
  have hb := B9.bytes
  have hr := B9.returns
  have hts : ∀ w ∈ WW, w.before ([.int v] : List Value).toArray s = true := fun w h => atoms_spec (ws := .code yX6_bitOf cX6_bitOf 1 (some .int) :: WW) B9.pre w (List.mem_cons_of_mem _ h)
  have hown : s.vm.findClass RX6 = some m.cls := findClass_of_methodNamed B9.named
  subst hsz
  have hD := hD0.self (sz := s.heap.size)
  generalize hAe : va_A [] s.heap.size = A at hD hE ⊢
  have hA : ∀ q : Nat, s.heap.size ≤ q → A q := fun q h => by rw [← hAe]; exact Or.inr h
  have hl := lv_entry ([.int v]) (n := 1) (Nat.le_of_ble_eq_true rfl)
  rw [lg_entry_eq]
  generalize (lg_sl ([.int v]) ++ List.replicate (1 - (lg_sl ([.int v])).length) Slot.unset).toArray = ls at hl ⊢
  have hl : lv_has ls 1 [(0, .int v)] := hl
  refine qgen (fun Q hQ => ?_)
  refine hgen (fun H locs hP hD hS => ?_) hP hD
  refine lv_iconst (v := nI 1) hx hb dX6_bitOf_0 (by decide) ?_
  refine lv_iload_n hx hb dX6_bitOf_1 rfl (lv_at hl 0 rfl) ?_
  refine lv_iconst (v := nI 1) hx hb dX6_bitOf_2 (by decide) ?_
  refine lv_isub hx hb dX6_bitOf_3 ?_
  refine lv_topi (fun w_1 ew_1 => ?_)
  refine lv_ishl hx hb dX6_bitOf_4 ?_
  refine lv_topi (fun w_2 ew_2 => ?_)
  have hP9 := hP.sub (ws' := []) [] rfl
  have hD9 := hD.sub (ws' := []) [] (by decide) rfl
  subst hQ
  exact W.iret (v := w_2) hx hb hr (fun t ht hW => ⟨⟨w_2, (), rfl, trivial, by rw [ht]; exact hP9, hD9⟩, hS.F ht⟩) hS.2.2 dX6_bitOf_5
set_option maxHeartbeats 4000000 in
set_option maxRecDepth 100000 in
theorem c_X6_cellOfLine (l : Launch) (G : GG) (ln : Nat) (pl : Nat) (hln : ln < 8) (hpl : pl < 4) : Mi l G yX6_cellOfLine cX6_cellOfLine 2 (some .int) ({ frames := 0, cells := 0, slots := 0, locals := 0 } : Room) [.int (nI ln), .int (nI pl)] [] (fun (r : Int32) (u : Nat) => r = nI u ∧ u < 16) (fun (u : Nat) => []) := by
  intro sz
  refine Met.ofW (cc := cX6_cellOfLine) (maxL := 2) (ret := (some .int)) (by decide) rfl ?_
  intro p e s m args below meth c s₁ B9 hml hv
  obtain ⟨rfl, hsz, hP, hK, hD0, hE⟩ := hv
  have hx := B9.exec
  have hb := B9.bytes
  have hr := B9.returns
  have hts : ∀ w ∈ WW, w.before ([.int (nI ln), .int (nI pl)] : List Value).toArray s = true := fun w h => atoms_spec (ws := .code yX6_cellOfLine cX6_cellOfLine 2 (some .int) :: WW) B9.pre w (List.mem_cons_of_mem _ h)
  have hown : s.vm.findClass RX6 = some m.cls := findClass_of_methodNamed B9.named
  subst hsz
  have hD := hD0.self (sz := s.heap.size)
  generalize hAe : va_A [] s.heap.size = A at hD hE ⊢
  have hA : ∀ q : Nat, s.heap.size ≤ q → A q := fun q h => by rw [← hAe]; exact Or.inr h
  have hl := lv_entry ([.int (nI ln), .int (nI pl)]) (n := 2) (Nat.le_of_ble_eq_true rfl)
  rw [lg_entry_eq]
  generalize (lg_sl ([.int (nI ln), .int (nI pl)]) ++ List.replicate (2 - (lg_sl ([.int (nI ln), .int (nI pl)])).length) Slot.unset).toArray = ls at hl ⊢
  have hl : lv_has ls 2 [(0, .int (nI ln)), (1, .int (nI pl))] := hl
  refine qgen (fun Q hQ => ?_)
  refine hgen (fun H locs hP hD hS => ?_) hP hD
  refine lv_iload_n hx hb dX6_cellOfLine_0 rfl (lv_at hl 0 rfl) ?_
  refine lv_iconst (v := nI 4) hx hb dX6_cellOfLine_1 (by decide) ?_
  refine lv_icmp_ge (tgt := 13) hx hb dX6_cellOfLine_2 (by decide) (fun c_1 => ?_) (fun c_1 => ?_)
  · skip
    have c_1 : 4 ≤ ln := (nI_leI (a := 4) (b := ln) (by omega) (by omega)).mp c_1
    refine lv_iload_n hx hb dX6_cellOfLine_13 rfl (lv_at hl 1 rfl) ?_
    refine lv_iconst (v := nI 4) hx hb dX6_cellOfLine_14 (by decide) ?_
    refine lv_imul hx hb dX6_cellOfLine_15 ?_
    refine lv_toe (pk_mul pl 4) ?_
    refine lv_iload_n hx hb dX6_cellOfLine_16 rfl (lv_at hl 0 rfl) ?_
    refine lv_iadd hx hb dX6_cellOfLine_17 ?_
    refine lv_toe (nI_add (pl * 4) ln) ?_
    refine lv_iconst (v := nI 4) hx hb dX6_cellOfLine_18 (by decide) ?_
    refine lv_isub hx hb dX6_cellOfLine_19 ?_
    refine lv_toe (pk_sub (a := pl * 4 + ln) (b := 4) (by omega)) ?_
    have hP9 := hP.sub (ws' := []) [] rfl
    have hD9 := hD.sub (ws' := []) [] (by decide) rfl
    subst hQ
    exact W.iret (v := nI (pl * 4 + ln - 4)) hx hb hr (fun t ht hW => ⟨⟨nI (pl * 4 + ln - 4), (pl * 4 + ln - 4), rfl, ⟨rfl, (show (pl * 4 + ln - 4) < 16 by omega)⟩, by rw [ht]; exact hP9, hD9⟩, hS.F ht⟩) hS.2.2 dX6_cellOfLine_20
  · skip
    have c_1 : ¬ 4 ≤ ln := fun z => c_1 ((nI_leI (a := 4) (b := ln) (by omega) (by omega)).mpr z)
    refine lv_iload_n hx hb dX6_cellOfLine_5 rfl (lv_at hl 0 rfl) ?_
    refine lv_iconst (v := nI 4) hx hb dX6_cellOfLine_6 (by decide) ?_
    refine lv_imul hx hb dX6_cellOfLine_7 ?_
    refine lv_toe (pk_mul ln 4) ?_
    refine lv_iload_n hx hb dX6_cellOfLine_8 rfl (lv_at hl 1 rfl) ?_
    refine lv_iadd hx hb dX6_cellOfLine_9 ?_
    refine lv_toe (nI_add (ln * 4) pl) ?_
    refine lv_goto (tgt := 20) hx hb dX6_cellOfLine_10 (by decide) ?_
    have hP9 := hP.sub (ws' := []) [] rfl
    have hD9 := hD.sub (ws' := []) [] (by decide) rfl
    subst hQ
    exact W.iret (v := nI (ln * 4 + pl)) hx hb hr (fun t ht hW => ⟨⟨nI (ln * 4 + pl), (ln * 4 + pl), rfl, ⟨rfl, (show (ln * 4 + pl) < 16 by omega)⟩, by rw [ht]; exact hP9, hD9⟩, hS.F ht⟩) hS.2.2 dX6_cellOfLine_20
set_option maxHeartbeats 4000000 in
set_option maxRecDepth 100000 in
theorem c_X6_lineBits (l : Launch) (G : GG) (k : Nat) (v : Int32) (hk : k < 16) : Mi l G yX6_lineBits cX6_lineBits 4 (some .int) ({ frames := 0, cells := 0, slots := 0, locals := 0 } : Room) [.int (nI k), .int v] [] (fun (r : Int32) (u : Unit) => True) (fun (u : Unit) => []) := by
  intro sz
  refine Met.ofW (cc := cX6_lineBits) (maxL := 4) (ret := (some .int)) (by decide) rfl ?_
  intro p e s m args below meth c s₁ B9 hml hv
  obtain ⟨rfl, hsz, hP, hK, hD0, hE⟩ := hv
  have hx := B9.exec
  have hb := B9.bytes
  have hr := B9.returns
  have hts : ∀ w ∈ WW, w.before ([.int (nI k), .int v] : List Value).toArray s = true := fun w h => atoms_spec (ws := .code yX6_lineBits cX6_lineBits 4 (some .int) :: WW) B9.pre w (List.mem_cons_of_mem _ h)
  have hown : s.vm.findClass RX6 = some m.cls := findClass_of_methodNamed B9.named
  subst hsz
  have hD := hD0.self (sz := s.heap.size)
  generalize hAe : va_A [] s.heap.size = A at hD hE ⊢
  have hA : ∀ q : Nat, s.heap.size ≤ q → A q := fun q h => by rw [← hAe]; exact Or.inr h
  have hl := lv_entry ([.int (nI k), .int v]) (n := 4) (Nat.le_of_ble_eq_true rfl)
  rw [lg_entry_eq]
  generalize (lg_sl ([.int (nI k), .int v]) ++ List.replicate (4 - (lg_sl ([.int (nI k), .int v])).length) Slot.unset).toArray = ls at hl ⊢
  have hl : lv_has ls 4 [(0, .int (nI k)), (1, .int v)] := hl
  refine qgen (fun Q hQ => ?_)
  refine hgen (fun H locs hP hD hS => ?_) hP hD
  refine lv_iconst (v := nI 4) hx hb dX6_lineBits_0 (by decide) ?_
  refine lv_iload_n hx hb dX6_lineBits_1 rfl (lv_at hl 0 rfl) ?_
  refine lv_iconst (v := nI 4) hx hb dX6_lineBits_2 (by decide) ?_
  refine lv_idiv hx hb dX6_lineBits_3 (nI_ne0 (by omega) (by omega)) ?_
  refine lv_toe (pk_div (a := k) (d := 4) (by omega) (by omega) (by omega)) ?_
  refine lv_imul hx hb dX6_lineBits_4 ?_
  refine lv_toe (pk_mul 4 (k / 4)) ?_
  refine lv_iload_n hx hb dX6_lineBits_5 rfl (lv_at hl 1 rfl) ?_
  refine lv_iadd hx hb dX6_lineBits_6 ?_
  refine lv_topi (fun w_1 ew_1 => ?_)
  refine lv_iconst (v := nI 1) hx hb dX6_lineBits_7 (by decide) ?_
  refine lv_isub hx hb dX6_lineBits_8 ?_
  refine lv_topi (fun w_2 ew_2 => ?_)
  refine lv_istore_n (lv' := [(2, .int w_2), (0, .int (nI k)), (1, .int v)]) hx hb dX6_lineBits_9 rfl hl (by decide) rfl (fun ls hl => ?_)
  refine lv_bipush (v := nI 16) hx hb dX6_lineBits_10 (by decide) ?_
  refine lv_iconst (v := nI 4) hx hb dX6_lineBits_12 (by decide) ?_
  refine lv_iload_n hx hb dX6_lineBits_13 rfl (lv_at hl 1 rfl) ?_
  refine lv_iconst (v := nI 4) hx hb dX6_lineBits_14 (by decide) ?_
  refine lv_irem hx hb dX6_lineBits_15 (nI_ne0 (by omega) (by omega)) ?_
  refine lv_toe (pk_rem (a := k) (d := 4) (by omega) (by omega) (by omega)) ?_
  refine lv_imul hx hb dX6_lineBits_16 ?_
  refine lv_toe (pk_mul 4 (k % 4)) ?_
  refine lv_iadd hx hb dX6_lineBits_17 ?_
  refine lv_toe (nI_add 16 (4 * (k % 4))) ?_
  refine lv_iload_n hx hb dX6_lineBits_18 rfl (lv_at hl 2 rfl) ?_
  refine lv_iadd hx hb dX6_lineBits_19 ?_
  refine lv_topi (fun w_3 ew_3 => ?_)
  refine lv_iconst (v := nI 1) hx hb dX6_lineBits_20 (by decide) ?_
  refine lv_isub hx hb dX6_lineBits_21 ?_
  refine lv_topi (fun w_4 ew_4 => ?_)
  refine lv_istore_n (lv' := [(3, .int w_4), (2, .int w_2), (0, .int (nI k)), (1, .int v)]) hx hb dX6_lineBits_22 rfl hl (by decide) rfl (fun ls hl => ?_)
  refine lv_iconst (v := nI 1) hx hb dX6_lineBits_23 (by decide) ?_
  refine lv_iload_n hx hb dX6_lineBits_24 rfl (lv_at hl 1 rfl) ?_
  refine lv_ishl hx hb dX6_lineBits_25 ?_
  refine lv_topi (fun w_5 ew_5 => ?_)
  refine lv_iconst (v := nI 1) hx hb dX6_lineBits_26 (by decide) ?_
  refine lv_iload_n hx hb dX6_lineBits_27 rfl (lv_at hl 0 rfl) ?_
  refine lv_ishl hx hb dX6_lineBits_28 ?_
  refine lv_topi (fun w_6 ew_6 => ?_)
  refine lv_ior hx hb dX6_lineBits_29 ?_
  refine lv_topi (fun w_7 ew_7 => ?_)
  have hP9 := hP.sub (ws' := []) [] rfl
  have hD9 := hD.sub (ws' := []) [] (by decide) rfl
  subst hQ
  exact W.iret (v := w_7) hx hb hr (fun t ht hW => ⟨⟨w_7, (), rfl, trivial, by rw [ht]; exact hP9, hD9⟩, hS.F ht⟩) hS.2.2 dX6_lineBits_30
set_option maxHeartbeats 4000000 in
set_option maxRecDepth 100000 in
theorem c_X0_holds (l : Launch) (G : GG) (b : Nat) (mm : Nat) (f : Nat → Int32) (k : Nat) (v : Int32) (hk : k < 16) : Mi l G yX0_holds cX0_holds 3 (some .boolean) ({ frames := 0, cells := 0, slots := 0, locals := 0 } : Room) [.ref b, .int (nI k), .int v] [(b, .inr (5, [.ref mm])), (mm, .inl (gyI G, 16, .inl f))] (fun (r : Int32) (u : Unit) => True) (fun (u : Unit) => [(b, .inr (5, [.ref mm])), (mm, .inl (gyI G, 16, .inl f))]) := by
  intro sz
  refine Met.ofW (cc := cX0_holds) (maxL := 3) (ret := (some .boolean)) (by decide) rfl ?_
  intro p e s m args below meth c s₁ B9 hml hv
  obtain ⟨rfl, hsz, hP, hK, hD0, hE⟩ := hv
  have hx := B9.exec
  have hb := B9.bytes
  have hr := B9.returns
  have hts : ∀ w ∈ WW, w.before ([.ref b, .int (nI k), .int v] : List Value).toArray s = true := fun w h => atoms_spec (ws := .code yX0_holds cX0_holds 3 (some .boolean) :: WW) B9.pre w (List.mem_cons_of_mem _ h)
  have hown : s.vm.findClass RX0 = some m.cls := findClass_of_methodNamed B9.named
  subst hsz
  have hD := hD0.self (sz := s.heap.size)
  generalize hAe : va_A [(b, .inr (5, [.ref mm])), (mm, .inl (gyI G, 16, .inl f))] s.heap.size = A at hD hE ⊢
  have hA : ∀ q : Nat, s.heap.size ≤ q → A q := fun q h => by rw [← hAe]; exact Or.inr h
  have hl := lv_entry ([.ref b, .int (nI k), .int v]) (n := 3) (Nat.le_of_ble_eq_true rfl)
  rw [lg_entry_eq]
  generalize (lg_sl ([.ref b, .int (nI k), .int v]) ++ List.replicate (3 - (lg_sl ([.ref b, .int (nI k), .int v])).length) Slot.unset).toArray = ls at hl ⊢
  have hl : lv_has ls 3 [(0, .ref b), (1, .int (nI k)), (2, .int v)] := hl
  refine qgen (fun Q hQ => ?_)
  refine hgen (fun H locs hP hD hS => ?_) hP hD
  refine lv_aload_n hx hb dX0_holds_0 rfl (lv_at hl 0 rfl) ?_
  refine va_get (D := gD G) (ci := 5) (v := .ref mm) (C := RX0) (T := TX0) (N := 1) hx hb hts fwX0 hown hK hP 0 rfl rfl 0 (by decide) (hts _ q129) (fun _ h9 => h9) rfl dX0_holds_1 ?_
  refine lv_iload_n hx hb dX0_holds_4 rfl (lv_at hl 1 rfl) ?_
  refine va_iald (D := gD G) (cA := gyI G) (n := 16) (f := f) hx hb hK hP 1 0 rfl rfl (vp_in_nI (n := k) (N := 16) (by omega) (by omega)) dX0_holds_5 ?_
  refine lv_topi (fun w_1 ew_1 => ?_)
  refine lv_iload_n hx hb dX0_holds_6 rfl (lv_at hl 2 rfl) ?_
  refine lv_iconst (v := nI 1) hx hb dX0_holds_7 (by decide) ?_
  refine lv_isub hx hb dX0_holds_8 ?_
  refine lv_topi (fun w_2 ew_2 => ?_)
  refine lv_ishr hx hb dX0_holds_9 ?_
  refine lv_topi (fun w_3 ew_3 => ?_)
  refine lv_iconst (v := nI 1) hx hb dX0_holds_10 (by decide) ?_
  refine lv_iand hx hb dX0_holds_11 ?_
  refine lv_topi (fun w_4 ew_4 => ?_)
  refine lv_if_eq (tgt := 19) hx hb dX0_holds_12 (by decide) (fun c_5 => ?_) (fun c_5 => ?_)
  · skip
    refine lv_iconst (v := nI 0) hx hb dX0_holds_19 (by decide) ?_
    have hP9 := hP.sub (ws' := [(b, .inr (5, [.ref mm])), (mm, .inl (gyI G, 16, .inl f))]) [0, 1] rfl
    have hD9 := hD.sub (ws' := [(b, .inr (5, [.ref mm])), (mm, .inl (gyI G, 16, .inl f))]) [0, 1] (by decide) rfl
    subst hQ
    exact W.zret (v := nI 0) hx hb hr (by decide) (fun t ht hW => ⟨⟨nI 0, (), rfl, trivial, by rw [ht]; exact hP9, hD9⟩, hS.F ht⟩) hS.2.2 dX0_holds_20
  · skip
    refine lv_iconst (v := nI 1) hx hb dX0_holds_15 (by decide) ?_
    refine lv_goto (tgt := 20) hx hb dX0_holds_16 (by decide) ?_
    have hP9 := hP.sub (ws' := [(b, .inr (5, [.ref mm])), (mm, .inl (gyI G, 16, .inl f))]) [0, 1] rfl
    have hD9 := hD.sub (ws' := [(b, .inr (5, [.ref mm])), (mm, .inl (gyI G, 16, .inl f))]) [0, 1] (by decide) rfl
    subst hQ
    exact W.zret (v := nI 1) hx hb hr (by decide) (fun t ht hW => ⟨⟨nI 1, (), rfl, trivial, by rw [ht]; exact hP9, hD9⟩, hS.F ht⟩) hS.2.2 dX0_holds_20
set_option maxHeartbeats 4000000 in
set_option maxRecDepth 100000 in
theorem c_X0_fill (l : Launch) (G : GG) (b : Nat) (mm : Nat) (f : Nat → Int32) : Mv l G yX0_fill cX0_fill 2 ({ frames := 0, cells := 0, slots := 0, locals := 0 } : Room) [.ref b] [(b, .inr (5, [.ref mm])), (mm, .inl (gyI G, 16, .inl f))] (fun (u : (Nat → Int32)) => True) (fun (u : (Nat → Int32)) => [(b, .inr (5, [.ref mm])), (mm, .inl (gyI G, 16, .inl u))]) := by
  intro sz
  refine Met.ofW (cc := cX0_fill) (maxL := 2) (ret := none) (by decide) rfl ?_
  intro p e s m args below meth c s₁ B9 hml hv
  obtain ⟨rfl, hsz, hP, hK, hD0, hE⟩ := hv
  have hx := B9.exec
  have hb := B9.bytes
  have hr := B9.returns
  have hts : ∀ w ∈ WW, w.before ([.ref b] : List Value).toArray s = true := fun w h => atoms_spec (ws := .code yX0_fill cX0_fill 2 none :: WW) B9.pre w (List.mem_cons_of_mem _ h)
  have hown : s.vm.findClass RX0 = some m.cls := findClass_of_methodNamed B9.named
  subst hsz
  have hD := hD0.self (sz := s.heap.size)
  generalize hAe : va_A [(b, .inr (5, [.ref mm])), (mm, .inl (gyI G, 16, .inl f))] s.heap.size = A at hD hE ⊢
  have hA : ∀ q : Nat, s.heap.size ≤ q → A q := fun q h => by rw [← hAe]; exact Or.inr h
  have hl := lv_entry ([.ref b]) (n := 2) (Nat.le_of_ble_eq_true rfl)
  rw [lg_entry_eq]
  generalize (lg_sl ([.ref b]) ++ List.replicate (2 - (lg_sl ([.ref b])).length) Slot.unset).toArray = ls at hl ⊢
  have hl : lv_has ls 2 [(0, .ref b)] := hl
  refine qgen (fun Q hQ => ?_)
  refine hgen (fun H locs hP hD hS => ?_) hP hD
  refine lv_iconst (v := nI 0) hx hb dX0_fill_0 (by decide) ?_
  refine lv_istore_n (lv' := [(1, .int (nI 0)), (0, .ref b)]) hx hb dX0_fill_1 rfl hl (by decide) rfl (fun ls hl => ?_)
  have cut_2_1 : ∀ (n9 : Nat) (i : Nat) (g : Nat → Int32) (hi : i ≤ 16) (hm9 : 16 - i < n9) (H : Heap) (locs : List Loc), va_P (gD G) vwCl [(b, .inr (5, [.ref mm])), (mm, .inl (gyI G, 16, .inl g))] H → va_D A [(b, .inr (5, [.ref mm])), (mm, .inl (gyI G, 16, .inl g))] → va_S A s.heap H locs → ∀ (ls : Array Slot), lv_has ls 2 [(0, .ref b), (1, .int (nI i))] → W p l e ({ frames := 0, cells := 0, slots := 0, locals := 0 } : Room) s m ([.ref b] : List Value).toArray below meth c H locs 0 0 Q (F0 m 2 ls []) := by
    intro n9
    induction n9 with
    | zero =>
      intro i g hi hm9
      exact absurd hm9 (Nat.not_lt_zero _)
    | succ n9 ih_2_1 =>
      intro i g hi hm9 H locs hP hD hS ls hl
      refine lv_iload_n hx hb dX0_fill_2 rfl (lv_at hl 1 rfl) ?_
      refine lv_bipush (v := nI 16) hx hb dX0_fill_3 (by decide) ?_
      refine lv_icmp_ge (tgt := 22) hx hb dX0_fill_5 (by decide) (fun c_1 => ?_) (fun c_1 => ?_)
      · skip
        have c_1 : 16 ≤ i := (nI_leI (a := 16) (b := i) (by omega) (by omega)).mp c_1
        have hP9 := hP.sub (ws' := [(b, .inr (5, [.ref mm])), (mm, .inl (gyI G, 16, .inl g))]) [0, 1] rfl
        have hD9 := hD.sub (ws' := [(b, .inr (5, [.ref mm])), (mm, .inl (gyI G, 16, .inl g))]) [0, 1] (by decide) rfl
        subst hQ
        exact W.vret hx hb hr (fun t ht hW => ⟨⟨g, rfl, trivial, by rw [ht]; exact hP9, hD9⟩, hS.F ht⟩) hS.2.2 dX0_fill_22
      · skip
        have c_1 : ¬ 16 ≤ i := fun z => c_1 ((nI_leI (a := 16) (b := i) (by omega) (by omega)).mpr z)
        refine lv_aload_n hx hb dX0_fill_8 rfl (lv_at hl 0 rfl) ?_
        refine va_get (D := gD G) (ci := 5) (v := .ref mm) (C := RX0) (T := TX0) (N := 1) hx hb hts fwX0 hown hK hP 0 rfl rfl 0 (by decide) (hts _ q129) (fun _ h9 => h9) rfl dX0_fill_9 ?_
        refine lv_iload_n hx hb dX0_fill_12 rfl (lv_at hl 1 rfl) ?_
        refine lv_bipush (v := nI 15) hx hb dX0_fill_13 (by decide) ?_
        refine va_iast (D := gD G) (cA := gyI G) (n := 16) (f := g) hx hb hK hP hD hS 1 0 rfl rfl (vp_in_nI (n := i) (N := 16) (by omega) (by omega)) dX0_fill_15 (fun H locs hP hD hS => ?_)
        generalize upd g (nI i).toNatClampNeg (nI 15) = f_2 at hP hD
        have hP : va_P (gD G) vwCl [(b, .inr (5, [.ref mm])), (mm, .inl (gyI G, 16, .inl f_2))] H := hP
        have hD : va_D A [(b, .inr (5, [.ref mm])), (mm, .inl (gyI G, 16, .inl f_2))] := hD
        refine lv_iinc (v := nI (i + 1)) (lv' := [(1, .int (nI (i + 1))), (0, .ref b)]) hx hb dX0_fill_16 hl (k := 1) rfl (nI_add i 1) (by decide) rfl (fun ls hl => ?_)
        refine lv_goto (tgt := 2) hx hb dX0_fill_19 (by decide) ?_
        exact ih_2_1 (i + 1) f_2 (by omega) (by omega) _ _ (hP.sub [0, 1] rfl) (hD.sub [0, 1] (by decide) rfl) hS ls (lv_sub hl [1, 0] rfl)
  exact cut_2_1 (16 - 0 + 1) 0 f (by omega) (Nat.lt_succ_self _) _ _ (hP.sub [0, 1] rfl) (hD.sub [0, 1] (by decide) rfl) hS ls (lv_sub hl [1, 0] rfl)
set_option maxHeartbeats 4000000 in
set_option maxRecDepth 100000 in
theorem c_X0_takeAway (l : Launch) (G : GG) (b : Nat) (mm : Nat) (f : Nat → Int32) (k : Nat) (v : Int32) (hk : k < 16) : Mv l G yX0_takeAway cX0_takeAway 3 ({ frames := 1, cells := 0, slots := 0, locals := 20 } : Room) [.ref b, .int (nI k), .int v] [(b, .inr (5, [.ref mm])), (mm, .inl (gyI G, 16, .inl f))] (fun (u : (Nat → Int32)) => True) (fun (u : (Nat → Int32)) => [(b, .inr (5, [.ref mm])), (mm, .inl (gyI G, 16, .inl u))]) := by
  intro sz
  refine Met.ofW (cc := cX0_takeAway) (maxL := 3) (ret := none) (by decide) rfl ?_
  intro p e s m args below meth c s₁ B9 hml hv
  obtain ⟨rfl, hsz, hP, hK, hD0, hE⟩ := hv
  have hx := B9.exec
  have hb := B9.bytes
  have hr := B9.returns
  have hts : ∀ w ∈ WW, w.before ([.ref b, .int (nI k), .int v] : List Value).toArray s = true := fun w h => atoms_spec (ws := .code yX0_takeAway cX0_takeAway 3 none :: WW) B9.pre w (List.mem_cons_of_mem _ h)
  have hown : s.vm.findClass RX0 = some m.cls := findClass_of_methodNamed B9.named
  subst hsz
  have hD := hD0.self (sz := s.heap.size)
  generalize hAe : va_A [(b, .inr (5, [.ref mm])), (mm, .inl (gyI G, 16, .inl f))] s.heap.size = A at hD hE ⊢
  have hA : ∀ q : Nat, s.heap.size ≤ q → A q := fun q h => by rw [← hAe]; exact Or.inr h
  have hl := lv_entry ([.ref b, .int (nI k), .int v]) (n := 3) (Nat.le_of_ble_eq_true rfl)
  rw [lg_entry_eq]
  generalize (lg_sl ([.ref b, .int (nI k), .int v]) ++ List.replicate (3 - (lg_sl ([.ref b, .int (nI k), .int v])).length) Slot.unset).toArray = ls at hl ⊢
  have hl : lv_has ls 3 [(0, .ref b), (1, .int (nI k)), (2, .int v)] := hl
  refine qgen (fun Q hQ => ?_)
  refine hgen (fun H locs hP hD hS => ?_) hP hD
  refine lv_aload_n hx hb dX0_takeAway_0 rfl (lv_at hl 0 rfl) ?_
  refine va_get (D := gD G) (ci := 5) (v := .ref mm) (C := RX0) (T := TX0) (N := 1) hx hb hts fwX0 hown hK hP 0 rfl rfl 0 (by decide) (hts _ q129) (fun _ h9 => h9) rfl dX0_takeAway_1 ?_
  refine lv_iload_n hx hb dX0_takeAway_4 rfl (lv_at hl 1 rfl) ?_
  refine lv_dup2_11 hx hb dX0_takeAway_5 rfl rfl ?_
  refine va_iald (D := gD G) (cA := gyI G) (n := 16) (f := f) hx hb hK hP 1 0 rfl rfl (vp_in_nI (n := k) (N := 16) (by omega) (by omega)) dX0_takeAway_6 ?_
  refine lv_topi (fun w_1 ew_1 => ?_)
  refine lv_iload_n hx hb dX0_takeAway_7 rfl (lv_at hl 2 rfl) ?_
  refine fin_i hP hD hS hA [] [0, 1] (wr := [(b, .inr (5, [.ref mm])), (mm, .inl (gyI G, 16, .inl f))]) rfl rfl (by decide) (by decide) (va_runSN (As := [.int v]) (rest := [.int w_1, .int (nI k), .ref mm]) ⟨hx, hb, hml, hown, hts⟩ (c_X6_bitOf l G v H.size) ⟨(va_cnB 1 hts (gI q266) rfl rfl rfl (hE.1.1 _ nq264) (hts _ q45) (by decide +kernel) ⟨Nat.le_of_ble_eq_true rfl, Nat.le_of_ble_eq_true rfl⟩), hts _ q265, trivial⟩ (preS hK hE hP hD hS hA [] rfl (by decide)) rfl rfl hl.1 rfl (lv_room (Nat.le_of_ble_eq_true rfl)) dX0_takeAway_8 ⟨Nat.le_of_ble_eq_true rfl, Nat.le_of_ble_eq_true rfl⟩) (fun r_3 u9 hw_2 H locs hP hD hS => ?_)
  have hP : va_P (gD G) vwCl [(b, .inr (5, [.ref mm])), (mm, .inl (gyI G, 16, .inl f))] H := hP
  have hD : va_D A [(b, .inr (5, [.ref mm])), (mm, .inl (gyI G, 16, .inl f))] := hD
  refine lv_iconst (v := -1) hx hb dX0_takeAway_11 (by decide) ?_
  refine lv_ixor hx hb dX0_takeAway_12 ?_
  refine lv_topi (fun w_4 ew_4 => ?_)
  refine lv_iand hx hb dX0_takeAway_13 ?_
  refine lv_topi (fun w_5 ew_5 => ?_)
  refine va_iast (D := gD G) (cA := gyI G) (n := 16) (f := f) hx hb hK hP hD hS 1 0 rfl rfl (vp_in_nI (n := k) (N := 16) (by omega) (by omega)) dX0_takeAway_14 (fun H locs hP hD hS => ?_)
  generalize upd f (nI k).toNatClampNeg w_5 = f_6 at hP hD
  have hP : va_P (gD G) vwCl [(b, .inr (5, [.ref mm])), (mm, .inl (gyI G, 16, .inl f_6))] H := hP
  have hD : va_D A [(b, .inr (5, [.ref mm])), (mm, .inl (gyI G, 16, .inl f_6))] := hD
  have hP9 := hP.sub (ws' := [(b, .inr (5, [.ref mm])), (mm, .inl (gyI G, 16, .inl f_6))]) [0, 1] rfl
  have hD9 := hD.sub (ws' := [(b, .inr (5, [.ref mm])), (mm, .inl (gyI G, 16, .inl f_6))]) [0, 1] (by decide) rfl
  subst hQ
  exact W.vret hx hb hr (fun t ht hW => ⟨⟨f_6, rfl, trivial, by rw [ht]; exact hP9, hD9⟩, hS.F ht⟩) hS.2.2 dX0_takeAway_15
set_option maxHeartbeats 4000000 in
set_option maxRecDepth 100000 in
theorem c_X0_isBroken (l : Launch) (G : GG) (b : Nat) (mm : Nat) (f : Nat → Int32) : Mi l G yX0_isBroken cX0_isBroken 2 (some .boolean) ({ frames := 0, cells := 0, slots := 0, locals := 0 } : Room) [.ref b] [(b, .inr (5, [.ref mm])), (mm, .inl (gyI G, 16, .inl f))] (fun (r : Int32) (u : Unit) => True) (fun (u : Unit) => [(b, .inr (5, [.ref mm])), (mm, .inl (gyI G, 16, .inl f))]) := by
  intro sz
  refine Met.ofW (cc := cX0_isBroken) (maxL := 2) (ret := (some .boolean)) (by decide) rfl ?_
  intro p e s m args below meth c s₁ B9 hml hv
  obtain ⟨rfl, hsz, hP, hK, hD0, hE⟩ := hv
  have hx := B9.exec
  have hb := B9.bytes
  have hr := B9.returns
  have hts : ∀ w ∈ WW, w.before ([.ref b] : List Value).toArray s = true := fun w h => atoms_spec (ws := .code yX0_isBroken cX0_isBroken 2 (some .boolean) :: WW) B9.pre w (List.mem_cons_of_mem _ h)
  have hown : s.vm.findClass RX0 = some m.cls := findClass_of_methodNamed B9.named
  subst hsz
  have hD := hD0.self (sz := s.heap.size)
  generalize hAe : va_A [(b, .inr (5, [.ref mm])), (mm, .inl (gyI G, 16, .inl f))] s.heap.size = A at hD hE ⊢
  have hA : ∀ q : Nat, s.heap.size ≤ q → A q := fun q h => by rw [← hAe]; exact Or.inr h
  have hl := lv_entry ([.ref b]) (n := 2) (Nat.le_of_ble_eq_true rfl)
  rw [lg_entry_eq]
  generalize (lg_sl ([.ref b]) ++ List.replicate (2 - (lg_sl ([.ref b])).length) Slot.unset).toArray = ls at hl ⊢
  have hl : lv_has ls 2 [(0, .ref b)] := hl
  refine qgen (fun Q hQ => ?_)
  refine hgen (fun H locs hP hD hS => ?_) hP hD
  refine lv_iconst (v := nI 0) hx hb dX0_isBroken_0 (by decide) ?_
  refine lv_istore_n (lv' := [(1, .int (nI 0)), (0, .ref b)]) hx hb dX0_isBroken_1 rfl hl (by decide) rfl (fun ls hl => ?_)
  have cut_2_1 : ∀ (n9 : Nat) (i : Nat) (hi : i ≤ 16) (hm9 : 16 - i < n9) (H : Heap) (locs : List Loc), va_P (gD G) vwCl [(b, .inr (5, [.ref mm])), (mm, .inl (gyI G, 16, .inl f))] H → va_D A [(b, .inr (5, [.ref mm])), (mm, .inl (gyI G, 16, .inl f))] → va_S A s.heap H locs → ∀ (ls : Array Slot), lv_has ls 2 [(0, .ref b), (1, .int (nI i))] → W p l e ({ frames := 0, cells := 0, slots := 0, locals := 0 } : Room) s m ([.ref b] : List Value).toArray below meth c H locs 0 0 Q (F0 m 2 ls []) := by
    intro n9
    induction n9 with
    | zero =>
      intro i hi hm9
      exact absurd hm9 (Nat.not_lt_zero _)
    | succ n9 ih_2_1 =>
      intro i hi hm9 H locs hP hD hS ls hl
      refine lv_iload_n hx hb dX0_isBroken_2 rfl (lv_at hl 1 rfl) ?_
      refine lv_bipush (v := nI 16) hx hb dX0_isBroken_3 (by decide) ?_
      refine lv_icmp_ge (tgt := 25) hx hb dX0_isBroken_5 (by decide) (fun c_1 => ?_) (fun c_1 => ?_)
      · skip
        have c_1 : 16 ≤ i := (nI_leI (a := 16) (b := i) (by omega) (by omega)).mp c_1
        refine lv_iconst (v := nI 0) hx hb dX0_isBroken_25 (by decide) ?_
        have hP9 := hP.sub (ws' := [(b, .inr (5, [.ref mm])), (mm, .inl (gyI G, 16, .inl f))]) [0, 1] rfl
        have hD9 := hD.sub (ws' := [(b, .inr (5, [.ref mm])), (mm, .inl (gyI G, 16, .inl f))]) [0, 1] (by decide) rfl
        subst hQ
        exact W.zret (v := nI 0) hx hb hr (by decide) (fun t ht hW => ⟨⟨nI 0, (), rfl, trivial, by rw [ht]; exact hP9, hD9⟩, hS.F ht⟩) hS.2.2 dX0_isBroken_26
      · skip
        have c_1 : ¬ 16 ≤ i := fun z => c_1 ((nI_leI (a := 16) (b := i) (by omega) (by omega)).mpr z)
        refine lv_aload_n hx hb dX0_isBroken_8 rfl (lv_at hl 0 rfl) ?_
        refine va_get (D := gD G) (ci := 5) (v := .ref mm) (C := RX0) (T := TX0) (N := 1) hx hb hts fwX0 hown hK hP 0 rfl rfl 0 (by decide) (hts _ q129) (fun _ h9 => h9) rfl dX0_isBroken_9 ?_
        refine lv_iload_n hx hb dX0_isBroken_12 rfl (lv_at hl 1 rfl) ?_
        refine va_iald (D := gD G) (cA := gyI G) (n := 16) (f := f) hx hb hK hP 1 0 rfl rfl (vp_in_nI (n := i) (N := 16) (by omega) (by omega)) dX0_isBroken_13 ?_
        refine lv_topi (fun w_2 ew_2 => ?_)
        refine lv_if_ne (tgt := 19) hx hb dX0_isBroken_14 (by decide) (fun c_3 => ?_) (fun c_3 => ?_)
        · skip
          refine lv_iinc (v := nI (i + 1)) (lv' := [(1, .int (nI (i + 1))), (0, .ref b)]) hx hb dX0_isBroken_19 hl (k := 1) rfl (nI_add i 1) (by decide) rfl (fun ls hl => ?_)
          refine lv_goto (tgt := 2) hx hb dX0_isBroken_22 (by decide) ?_
          exact ih_2_1 (i + 1) (by omega) (by omega) _ _ (hP.sub [0, 1] rfl) (hD.sub [0, 1] (by decide) rfl) hS ls (lv_sub hl [1, 0] rfl)
        · skip
          refine lv_iconst (v := nI 1) hx hb dX0_isBroken_17 (by decide) ?_
          have hP9 := hP.sub (ws' := [(b, .inr (5, [.ref mm])), (mm, .inl (gyI G, 16, .inl f))]) [0, 1] rfl
          have hD9 := hD.sub (ws' := [(b, .inr (5, [.ref mm])), (mm, .inl (gyI G, 16, .inl f))]) [0, 1] (by decide) rfl
          subst hQ
          exact W.zret (v := nI 1) hx hb hr (by decide) (fun t ht hW => ⟨⟨nI 1, (), rfl, trivial, by rw [ht]; exact hP9, hD9⟩, hS.F ht⟩) hS.2.2 dX0_isBroken_18
  exact cut_2_1 (16 - 0 + 1) 0 (by omega) (Nat.lt_succ_self _) _ _ (hP.sub [0, 1] rfl) (hD.sub [0, 1] (by decide) rfl) hS ls (lv_sub hl [1, 0] rfl)
set_option maxHeartbeats 4000000 in
set_option maxRecDepth 100000 in
theorem c_X0_isSettled (l : Launch) (G : GG) (b : Nat) (mm : Nat) (f : Nat → Int32) : Mi l G yX0_isSettled cX0_isSettled 2 (some .boolean) ({ frames := 1, cells := 0, slots := 0, locals := 20 } : Room) [.ref b] [(b, .inr (5, [.ref mm])), (mm, .inl (gyI G, 16, .inl f))] (fun (r : Int32) (u : Unit) => True) (fun (u : Unit) => [(b, .inr (5, [.ref mm])), (mm, .inl (gyI G, 16, .inl f))]) := by
  intro sz
  refine Met.ofW (cc := cX0_isSettled) (maxL := 2) (ret := (some .boolean)) (by decide) rfl ?_
  intro p e s m args below meth c s₁ B9 hml hv
  obtain ⟨rfl, hsz, hP, hK, hD0, hE⟩ := hv
  have hx := B9.exec
  have hb := B9.bytes
  have hr := B9.returns
  have hts : ∀ w ∈ WW, w.before ([.ref b] : List Value).toArray s = true := fun w h => atoms_spec (ws := .code yX0_isSettled cX0_isSettled 2 (some .boolean) :: WW) B9.pre w (List.mem_cons_of_mem _ h)
  have hown : s.vm.findClass RX0 = some m.cls := findClass_of_methodNamed B9.named
  subst hsz
  have hD := hD0.self (sz := s.heap.size)
  generalize hAe : va_A [(b, .inr (5, [.ref mm])), (mm, .inl (gyI G, 16, .inl f))] s.heap.size = A at hD hE ⊢
  have hA : ∀ q : Nat, s.heap.size ≤ q → A q := fun q h => by rw [← hAe]; exact Or.inr h
  have hl := lv_entry ([.ref b]) (n := 2) (Nat.le_of_ble_eq_true rfl)
  rw [lg_entry_eq]
  generalize (lg_sl ([.ref b]) ++ List.replicate (2 - (lg_sl ([.ref b])).length) Slot.unset).toArray = ls at hl ⊢
  have hl : lv_has ls 2 [(0, .ref b)] := hl
  refine qgen (fun Q hQ => ?_)
  refine hgen (fun H locs hP hD hS => ?_) hP hD
  refine lv_iconst (v := nI 0) hx hb dX0_isSettled_0 (by decide) ?_
  refine lv_istore_n (lv' := [(1, .int (nI 0)), (0, .ref b)]) hx hb dX0_isSettled_1 rfl hl (by decide) rfl (fun ls hl => ?_)
  have cut_2_1 : ∀ (n9 : Nat) (i : Nat) (hi : i ≤ 16) (hm9 : 16 - i < n9) (H : Heap) (locs : List Loc), va_P (gD G) vwCl [(b, .inr (5, [.ref mm])), (mm, .inl (gyI G, 16, .inl f))] H → va_D A [(b, .inr (5, [.ref mm])), (mm, .inl (gyI G, 16, .inl f))] → va_S A s.heap H locs → ∀ (ls : Array Slot), lv_has ls 2 [(0, .ref b), (1, .int (nI i))] → W p l e ({ frames := 1, cells := 0, slots := 0, locals := 20 } : Room) s m ([.ref b] : List Value).toArray below meth c H locs 0 0 Q (F0 m 2 ls []) := by
    intro n9
    induction n9 with
    | zero =>
      intro i hi hm9
      exact absurd hm9 (Nat.not_lt_zero _)
    | succ n9 ih_2_1 =>
      intro i hi hm9 H locs hP hD hS ls hl
      refine lv_iload_n hx hb dX0_isSettled_2 rfl (lv_at hl 1 rfl) ?_
      refine lv_bipush (v := nI 16) hx hb dX0_isSettled_3 (by decide) ?_
      refine lv_icmp_ge (tgt := 29) hx hb dX0_isSettled_5 (by decide) (fun c_1 => ?_) (fun c_1 => ?_)
      · skip
        have c_1 : 16 ≤ i := (nI_leI (a := 16) (b := i) (by omega) (by omega)).mp c_1
        refine lv_iconst (v := nI 1) hx hb dX0_isSettled_29 (by decide) ?_
        have hP9 := hP.sub (ws' := [(b, .inr (5, [.ref mm])), (mm, .inl (gyI G, 16, .inl f))]) [0, 1] rfl
        have hD9 := hD.sub (ws' := [(b, .inr (5, [.ref mm])), (mm, .inl (gyI G, 16, .inl f))]) [0, 1] (by decide) rfl
        subst hQ
        exact W.zret (v := nI 1) hx hb hr (by decide) (fun t ht hW => ⟨⟨nI 1, (), rfl, trivial, by rw [ht]; exact hP9, hD9⟩, hS.F ht⟩) hS.2.2 dX0_isSettled_30
      · skip
        have c_1 : ¬ 16 ≤ i := fun z => c_1 ((nI_leI (a := 16) (b := i) (by omega) (by omega)).mpr z)
        refine lv_aload_n hx hb dX0_isSettled_8 rfl (lv_at hl 0 rfl) ?_
        refine va_get (D := gD G) (ci := 5) (v := .ref mm) (C := RX0) (T := TX0) (N := 1) hx hb hts fwX0 hown hK hP 0 rfl rfl 0 (by decide) (hts _ q129) (fun _ h9 => h9) rfl dX0_isSettled_9 ?_
        refine lv_iload_n hx hb dX0_isSettled_12 rfl (lv_at hl 1 rfl) ?_
        refine va_iald (D := gD G) (cA := gyI G) (n := 16) (f := f) hx hb hK hP 1 0 rfl rfl (vp_in_nI (n := i) (N := 16) (by omega) (by omega)) dX0_isSettled_13 ?_
        refine lv_topi (fun w_2 ew_2 => ?_)
        refine fin_i hP hD hS hA [] [0, 1] (wr := [(b, .inr (5, [.ref mm])), (mm, .inl (gyI G, 16, .inl f))]) rfl rfl (by decide) (by decide) (va_runS (As := [.int w_2]) (rest := []) ⟨hx, hb, hml, hown, hts⟩ (c_J6_bitCount_0f7a4 l G w_2 H.size) (va_cwS 1 hts (gSt q276 q277 q70 q278) rfl rfl rfl (by decide +kernel) ⟨Nat.le_of_ble_eq_true rfl, Nat.le_of_ble_eq_true rfl⟩) (preS hK hE hP hD hS hA [] rfl (by decide)) rfl rfl hl.1 rfl (lv_room (Nat.le_of_ble_eq_true rfl)) dX0_isSettled_14 ⟨Nat.le_of_ble_eq_true rfl, Nat.le_of_ble_eq_true rfl⟩) (fun r_4 u9 hw_3 H locs hP hD hS => ?_)
        have hP : va_P (gD G) vwCl [(b, .inr (5, [.ref mm])), (mm, .inl (gyI G, 16, .inl f))] H := hP
        have hD : va_D A [(b, .inr (5, [.ref mm])), (mm, .inl (gyI G, 16, .inl f))] := hD
        refine lv_iconst (v := nI 1) hx hb dX0_isSettled_17 (by decide) ?_
        refine lv_icmp_eq (tgt := 23) hx hb dX0_isSettled_18 (by decide) (fun c_5 => ?_) (fun c_5 => ?_)
        · skip
          refine lv_iinc (v := nI (i + 1)) (lv' := [(1, .int (nI (i + 1))), (0, .ref b)]) hx hb dX0_isSettled_23 hl (k := 1) rfl (nI_add i 1) (by decide) rfl (fun ls hl => ?_)
          refine lv_goto (tgt := 2) hx hb dX0_isSettled_26 (by decide) ?_
          exact ih_2_1 (i + 1) (by omega) (by omega) _ _ (hP.sub [0, 1] rfl) (hD.sub [0, 1] (by decide) rfl) hS ls (lv_sub hl [1, 0] rfl)
        · skip
          refine lv_iconst (v := nI 0) hx hb dX0_isSettled_21 (by decide) ?_
          have hP9 := hP.sub (ws' := [(b, .inr (5, [.ref mm])), (mm, .inl (gyI G, 16, .inl f))]) [0, 1] rfl
          have hD9 := hD.sub (ws' := [(b, .inr (5, [.ref mm])), (mm, .inl (gyI G, 16, .inl f))]) [0, 1] (by decide) rfl
          subst hQ
          exact W.zret (v := nI 0) hx hb hr (by decide) (fun t ht hW => ⟨⟨nI 0, (), rfl, trivial, by rw [ht]; exact hP9, hD9⟩, hS.F ht⟩) hS.2.2 dX0_isSettled_22
  exact cut_2_1 (16 - 0 + 1) 0 (by omega) (Nat.lt_succ_self _) _ _ (hP.sub [0, 1] rfl) (hD.sub [0, 1] (by decide) rfl) hS ls (lv_sub hl [1, 0] rfl)
set_option maxHeartbeats 4000000 in
set_option maxRecDepth 100000 in
theorem c_X0_isOnlyCandidateElsewhere (l : Launch) (G : GG) (b : Nat) (mm : Nat) (f : Nat → Int32) (ln : Nat) (k : Nat) (v : Int32) (hln : ln < 8) (hk : k < 16) : Mi l G yX0_isOnlyCandidateElsewhere cX0_isOnlyCandidateElsewhere 6 (some .boolean) ({ frames := 1, cells := 0, slots := 0, locals := 21 } : Room) [.ref b, .int (nI ln), .int (nI k), .int v] [(b, .inr (5, [.ref mm])), (mm, .inl (gyI G, 16, .inl f))] (fun (r : Int32) (u : Unit) => True) (fun (u : Unit) => [(b, .inr (5, [.ref mm])), (mm, .inl (gyI G, 16, .inl f))]) := by
  intro sz
  refine Met.ofW (cc := cX0_isOnlyCandidateElsewhere) (maxL := 6) (ret := (some .boolean)) (by decide) rfl ?_
  intro p e s m args below meth c s₁ B9 hml hv
  obtain ⟨rfl, hsz, hP, hK, hD0, hE⟩ := hv
  have hx := B9.exec
  have hb := B9.bytes
  have hr := B9.returns
  have hts : ∀ w ∈ WW, w.before ([.ref b, .int (nI ln), .int (nI k), .int v] : List Value).toArray s = true := fun w h => atoms_spec (ws := .code yX0_isOnlyCandidateElsewhere cX0_isOnlyCandidateElsewhere 6 (some .boolean) :: WW) B9.pre w (List.mem_cons_of_mem _ h)
  have hown : s.vm.findClass RX0 = some m.cls := findClass_of_methodNamed B9.named
  subst hsz
  have hD := hD0.self (sz := s.heap.size)
  generalize hAe : va_A [(b, .inr (5, [.ref mm])), (mm, .inl (gyI G, 16, .inl f))] s.heap.size = A at hD hE ⊢
  have hA : ∀ q : Nat, s.heap.size ≤ q → A q := fun q h => by rw [← hAe]; exact Or.inr h
  have hl := lv_entry ([.ref b, .int (nI ln), .int (nI k), .int v]) (n := 6) (Nat.le_of_ble_eq_true rfl)
  rw [lg_entry_eq]
  generalize (lg_sl ([.ref b, .int (nI ln), .int (nI k), .int v]) ++ List.replicate (6 - (lg_sl ([.ref b, .int (nI ln), .int (nI k), .int v])).length) Slot.unset).toArray = ls at hl ⊢
  have hl : lv_has ls 6 [(0, .ref b), (1, .int (nI ln)), (2, .int (nI k)), (3, .int v)] := hl
  refine qgen (fun Q hQ => ?_)
  refine hgen (fun H locs hP hD hS => ?_) hP hD
  refine lv_iconst (v := nI 0) hx hb dX0_isOnlyCandidateElsewhere_0 (by decide) ?_
  refine lv_istore (lv' := [(4, .int (nI 0)), (0, .ref b), (1, .int (nI ln)), (2, .int (nI k)), (3, .int v)]) hx hb dX0_isOnlyCandidateElsewhere_1 hl (by decide) rfl (fun ls hl => ?_)
  have cut_3_1 : ∀ (n9 : Nat) (i : Nat) (hi : i ≤ 4) (hm9 : 4 - i < n9) (H : Heap) (locs : List Loc), va_P (gD G) vwCl [(b, .inr (5, [.ref mm])), (mm, .inl (gyI G, 16, .inl f))] H → va_D A [(b, .inr (5, [.ref mm])), (mm, .inl (gyI G, 16, .inl f))] → va_S A s.heap H locs → ∀ (ls : Array Slot), lv_has ls 6 [(0, .ref b), (1, .int (nI ln)), (2, .int (nI k)), (3, .int v), (4, .int (nI i))] → W p l e ({ frames := 1, cells := 0, slots := 0, locals := 21 } : Room) s m ([.ref b, .int (nI ln), .int (nI k), .int v] : List Value).toArray below meth c H locs 0 0 Q (F0 m 3 ls []) := by
    intro n9
    induction n9 with
    | zero =>
      intro i hi hm9
      exact absurd hm9 (Nat.not_lt_zero _)
    | succ n9 ih_3_1 =>
      intro i hi hm9 H locs hP hD hS ls hl
      refine lv_iload hx hb dX0_isOnlyCandidateElsewhere_3 (lv_at hl 4 rfl) ?_
      refine lv_iconst (v := nI 4) hx hb dX0_isOnlyCandidateElsewhere_5 (by decide) ?_
      refine lv_icmp_ge (tgt := 45) hx hb dX0_isOnlyCandidateElsewhere_6 (by decide) (fun c_1 => ?_) (fun c_1 => ?_)
      · skip
        have c_1 : 4 ≤ i := (nI_leI (a := 4) (b := i) (by omega) (by omega)).mp c_1
        refine lv_iconst (v := nI 0) hx hb dX0_isOnlyCandidateElsewhere_45 (by decide) ?_
        have hP9 := hP.sub (ws' := [(b, .inr (5, [.ref mm])), (mm, .inl (gyI G, 16, .inl f))]) [0, 1] rfl
        have hD9 := hD.sub (ws' := [(b, .inr (5, [.ref mm])), (mm, .inl (gyI G, 16, .inl f))]) [0, 1] (by decide) rfl
        subst hQ
        exact W.zret (v := nI 0) hx hb hr (by decide) (fun t ht hW => ⟨⟨nI 0, (), rfl, trivial, by rw [ht]; exact hP9, hD9⟩, hS.F ht⟩) hS.2.2 dX0_isOnlyCandidateElsewhere_46
      · skip
        have c_1 : ¬ 4 ≤ i := fun z => c_1 ((nI_leI (a := 4) (b := i) (by omega) (by omega)).mpr z)
        refine lv_iload_n hx hb dX0_isOnlyCandidateElsewhere_9 rfl (lv_at hl 1 rfl) ?_
        refine lv_iload hx hb dX0_isOnlyCandidateElsewhere_10 (lv_at hl 4 rfl) ?_
        refine fin_i hP hD hS hA [] [0, 1] (wr := [(b, .inr (5, [.ref mm])), (mm, .inl (gyI G, 16, .inl f))]) rfl rfl (by decide) (by decide) (va_runSN (As := [.int (nI ln), .int (nI i)]) (rest := []) ⟨hx, hb, hml, hown, hts⟩ (c_X6_cellOfLine l G ln i (by omega) (by omega) H.size) ⟨(va_cnB 2 hts (gI q263) rfl rfl rfl (hE.1.1 _ nq261) (hts _ q45) (by decide +kernel) ⟨Nat.le_of_ble_eq_true rfl, Nat.le_of_ble_eq_true rfl⟩), hts _ q262, trivial⟩ (preS hK hE hP hD hS hA [] rfl (by decide)) rfl rfl hl.1 rfl (lv_room (Nat.le_of_ble_eq_true rfl)) dX0_isOnlyCandidateElsewhere_12 ⟨Nat.le_of_ble_eq_true rfl, Nat.le_of_ble_eq_true rfl⟩) (fun r_4 u9 hw_3 H locs hP hD hS => ?_)
        obtain ⟨rn_2, rfl⟩ : ∃ z, z = u9 := ⟨_, rfl⟩
        obtain ⟨rfl, hrn_5⟩ := hw_3
        have hrn_5 : rn_2 < 16 := hrn_5
        have hP : va_P (gD G) vwCl [(b, .inr (5, [.ref mm])), (mm, .inl (gyI G, 16, .inl f))] H := hP
        have hD : va_D A [(b, .inr (5, [.ref mm])), (mm, .inl (gyI G, 16, .inl f))] := hD
        refine lv_istore (lv' := [(5, .int (nI rn_2)), (0, .ref b), (1, .int (nI ln)), (2, .int (nI k)), (3, .int v), (4, .int (nI i))]) hx hb dX0_isOnlyCandidateElsewhere_15 hl (by decide) rfl (fun ls hl => ?_)
        refine lv_iload hx hb dX0_isOnlyCandidateElsewhere_17 (lv_at hl 0 rfl) ?_
        refine lv_iload_n hx hb dX0_isOnlyCandidateElsewhere_19 rfl (lv_at hl 3 rfl) ?_
        refine lv_icmp_eq (tgt := 39) hx hb dX0_isOnlyCandidateElsewhere_20 (by decide) (fun c_6 => ?_) (fun c_6 => ?_)
        · skip
          have c_6 : rn_2 = k := (nI_eq (a := rn_2) (b := k) (by omega) (by omega)).mp c_6
          refine lv_iinc (v := nI (i + 1)) (lv' := [(4, .int (nI (i + 1))), (5, .int (nI rn_2)), (0, .ref b), (1, .int (nI ln)), (2, .int (nI k)), (3, .int v)]) hx hb dX0_isOnlyCandidateElsewhere_39 hl (k := 5) rfl (nI_add i 1) (by decide) rfl (fun ls hl => ?_)
          refine lv_goto (tgt := 3) hx hb dX0_isOnlyCandidateElsewhere_42 (by decide) ?_
          exact ih_3_1 (i + 1) (by omega) (by omega) _ _ (hP.sub [0, 1] rfl) (hD.sub [0, 1] (by decide) rfl) hS ls (lv_sub hl [2, 3, 4, 5, 0] rfl)
        · skip
          have c_6 : ¬ rn_2 = k := fun z => c_6 ((nI_eq (a := rn_2) (b := k) (by omega) (by omega)).mpr z)
          refine lv_aload_n hx hb dX0_isOnlyCandidateElsewhere_23 rfl (lv_at hl 1 rfl) ?_
          refine va_get (D := gD G) (ci := 5) (v := .ref mm) (C := RX0) (T := TX0) (N := 1) hx hb hts fwX0 hown hK hP 0 rfl rfl 0 (by decide) (hts _ q129) (fun _ h9 => h9) rfl dX0_isOnlyCandidateElsewhere_24 ?_
          refine lv_iload hx hb dX0_isOnlyCandidateElsewhere_27 (lv_at hl 0 rfl) ?_
          refine va_iald (D := gD G) (cA := gyI G) (n := 16) (f := f) hx hb hK hP 1 0 rfl rfl (vp_in_nI (n := rn_2) (N := 16) (by omega) (by omega)) dX0_isOnlyCandidateElsewhere_29 ?_
          refine lv_topi (fun w_7 ew_7 => ?_)
          refine lv_iload_n hx hb dX0_isOnlyCandidateElsewhere_30 rfl (lv_at hl 4 rfl) ?_
          refine fin_i hP hD hS hA [] [0, 1] (wr := [(b, .inr (5, [.ref mm])), (mm, .inl (gyI G, 16, .inl f))]) rfl rfl (by decide) (by decide) (va_runSN (As := [.int v]) (rest := [.int w_7]) ⟨hx, hb, hml, hown, hts⟩ (c_X6_bitOf l G v H.size) ⟨(va_cnB 1 hts (gI q266) rfl rfl rfl (hE.1.1 _ nq264) (hts _ q45) (by decide +kernel) ⟨Nat.le_of_ble_eq_true rfl, Nat.le_of_ble_eq_true rfl⟩), hts _ q265, trivial⟩ (preS hK hE hP hD hS hA [] rfl (by decide)) rfl rfl hl.1 rfl (lv_room (Nat.le_of_ble_eq_true rfl)) dX0_isOnlyCandidateElsewhere_31 ⟨Nat.le_of_ble_eq_true rfl, Nat.le_of_ble_eq_true rfl⟩) (fun r_9 u9 hw_8 H locs hP hD hS => ?_)
          have hP : va_P (gD G) vwCl [(b, .inr (5, [.ref mm])), (mm, .inl (gyI G, 16, .inl f))] H := hP
          have hD : va_D A [(b, .inr (5, [.ref mm])), (mm, .inl (gyI G, 16, .inl f))] := hD
          refine lv_icmp_ne (tgt := 39) hx hb dX0_isOnlyCandidateElsewhere_34 (by decide) (fun c_10 => ?_) (fun c_10 => ?_)
          · skip
            refine lv_iinc (v := nI (i + 1)) (lv' := [(4, .int (nI (i + 1))), (5, .int (nI rn_2)), (0, .ref b), (1, .int (nI ln)), (2, .int (nI k)), (3, .int v)]) hx hb dX0_isOnlyCandidateElsewhere_39 hl (k := 5) rfl (nI_add i 1) (by decide) rfl (fun ls hl => ?_)
            refine lv_goto (tgt := 3) hx hb dX0_isOnlyCandidateElsewhere_42 (by decide) ?_
            exact ih_3_1 (i + 1) (by omega) (by omega) _ _ (hP.sub [0, 1] rfl) (hD.sub [0, 1] (by decide) rfl) hS ls (lv_sub hl [2, 3, 4, 5, 0] rfl)
          · skip
            refine lv_iconst (v := nI 1) hx hb dX0_isOnlyCandidateElsewhere_37 (by decide) ?_
            have hP9 := hP.sub (ws' := [(b, .inr (5, [.ref mm])), (mm, .inl (gyI G, 16, .inl f))]) [0, 1] rfl
            have hD9 := hD.sub (ws' := [(b, .inr (5, [.ref mm])), (mm, .inl (gyI G, 16, .inl f))]) [0, 1] (by decide) rfl
            subst hQ
            exact W.zret (v := nI 1) hx hb hr (by decide) (fun t ht hW => ⟨⟨nI 1, (), rfl, trivial, by rw [ht]; exact hP9, hD9⟩, hS.F ht⟩) hS.2.2 dX0_isOnlyCandidateElsewhere_38
  exact cut_3_1 (4 - 0 + 1) 0 (by omega) (Nat.lt_succ_self _) _ _ (hP.sub [0, 1] rfl) (hD.sub [0, 1] (by decide) rfl) hS ls (lv_sub hl [1, 2, 3, 4, 0] rfl)
set_option maxHeartbeats 4000000 in
set_option maxRecDepth 100000 in
theorem c_X0_isOnlyPlaceOfOther (l : Launch) (G : GG) (b : Nat) (mm : Nat) (f : Nat → Int32) (ln : Nat) (k : Nat) (v : Int32) (hln : ln < 8) (hk : k < 16) : Mi l G yX0_isOnlyPlaceOfOther cX0_isOnlyPlaceOfOther 7 (some .boolean) ({ frames := 1, cells := 0, slots := 0, locals := 21 } : Room) [.ref b, .int (nI ln), .int (nI k), .int v] [(b, .inr (5, [.ref mm])), (mm, .inl (gyI G, 16, .inl f))] (fun (r : Int32) (u : Unit) => True) (fun (u : Unit) => [(b, .inr (5, [.ref mm])), (mm, .inl (gyI G, 16, .inl f))]) := by
  intro sz
  refine Met.ofW (cc := cX0_isOnlyPlaceOfOther) (maxL := 7) (ret := (some .boolean)) (by decide) rfl ?_
  intro p e s m args below meth c s₁ B9 hml hv
  obtain ⟨rfl, hsz, hP, hK, hD0, hE⟩ := hv
  have hx := B9.exec
  have hb := B9.bytes
  have hr := B9.returns
  have hts : ∀ w ∈ WW, w.before ([.ref b, .int (nI ln), .int (nI k), .int v] : List Value).toArray s = true := fun w h => atoms_spec (ws := .code yX0_isOnlyPlaceOfOther cX0_isOnlyPlaceOfOther 7 (some .boolean) :: WW) B9.pre w (List.mem_cons_of_mem _ h)
  have hown : s.vm.findClass RX0 = some m.cls := findClass_of_methodNamed B9.named
  subst hsz
  have hD := hD0.self (sz := s.heap.size)
  generalize hAe : va_A [(b, .inr (5, [.ref mm])), (mm, .inl (gyI G, 16, .inl f))] s.heap.size = A at hD hE ⊢
  have hA : ∀ q : Nat, s.heap.size ≤ q → A q := fun q h => by rw [← hAe]; exact Or.inr h
  have hl := lv_entry ([.ref b, .int (nI ln), .int (nI k), .int v]) (n := 7) (Nat.le_of_ble_eq_true rfl)
  rw [lg_entry_eq]
  generalize (lg_sl ([.ref b, .int (nI ln), .int (nI k), .int v]) ++ List.replicate (7 - (lg_sl ([.ref b, .int (nI ln), .int (nI k), .int v])).length) Slot.unset).toArray = ls at hl ⊢
  have hl : lv_has ls 7 [(0, .ref b), (1, .int (nI ln)), (2, .int (nI k)), (3, .int v)] := hl
  refine qgen (fun Q hQ => ?_)
  refine hgen (fun H locs hP hD hS => ?_) hP hD
  refine lv_iconst (v := nI 0) hx hb dX0_isOnlyPlaceOfOther_0 (by decide) ?_
  refine lv_istore (lv' := [(4, .int (nI 0)), (0, .ref b), (1, .int (nI ln)), (2, .int (nI k)), (3, .int v)]) hx hb dX0_isOnlyPlaceOfOther_1 hl (by decide) rfl (fun ls hl => ?_)
  refine lv_iconst (v := nI 0) hx hb dX0_isOnlyPlaceOfOther_3 (by decide) ?_
  refine lv_istore (lv' := [(5, .int (nI 0)), (4, .int (nI 0)), (0, .ref b), (1, .int (nI ln)), (2, .int (nI k)), (3, .int v)]) hx hb dX0_isOnlyPlaceOfOther_4 hl (by decide) rfl (fun ls hl => ?_)
  have cut_6_1 : ∀ (n9 : Nat) (el : Int32) (i : Nat) (hi : i ≤ 4) (hm9 : 4 - i < n9) (H : Heap) (locs : List Loc), va_P (gD G) vwCl [(b, .inr (5, [.ref mm])), (mm, .inl (gyI G, 16, .inl f))] H → va_D A [(b, .inr (5, [.ref mm])), (mm, .inl (gyI G, 16, .inl f))] → va_S A s.heap H locs → ∀ (ls : Array Slot), lv_has ls 7 [(0, .ref b), (1, .int (nI ln)), (2, .int (nI k)), (3, .int v), (4, .int el), (5, .int (nI i))] → W p l e ({ frames := 1, cells := 0, slots := 0, locals := 21 } : Room) s m ([.ref b, .int (nI ln), .int (nI k), .int v] : List Value).toArray below meth c H locs 0 0 Q (F0 m 6 ls []) := by
    intro n9
    induction n9 with
    | zero =>
      intro el i hi hm9
      exact absurd hm9 (Nat.not_lt_zero _)
    | succ n9 ih_6_1 =>
      intro el i hi hm9 H locs hP hD hS ls hl
      refine lv_iload hx hb dX0_isOnlyPlaceOfOther_6 (lv_at hl 5 rfl) ?_
      refine lv_iconst (v := nI 4) hx hb dX0_isOnlyPlaceOfOther_8 (by decide) ?_
      refine lv_icmp_ge (tgt := 44) hx hb dX0_isOnlyPlaceOfOther_9 (by decide) (fun c_1 => ?_) (fun c_1 => ?_)
      · skip
        have c_1 : 4 ≤ i := (nI_leI (a := 4) (b := i) (by omega) (by omega)).mp c_1
        refine lv_aload_n hx hb dX0_isOnlyPlaceOfOther_44 rfl (lv_at hl 0 rfl) ?_
        refine va_get (D := gD G) (ci := 5) (v := .ref mm) (C := RX0) (T := TX0) (N := 1) hx hb hts fwX0 hown hK hP 0 rfl rfl 0 (by decide) (hts _ q129) (fun _ h9 => h9) rfl dX0_isOnlyPlaceOfOther_45 ?_
        refine lv_iload_n hx hb dX0_isOnlyPlaceOfOther_48 rfl (lv_at hl 2 rfl) ?_
        refine va_iald (D := gD G) (cA := gyI G) (n := 16) (f := f) hx hb hK hP 1 0 rfl rfl (vp_in_nI (n := k) (N := 16) (by omega) (by omega)) dX0_isOnlyPlaceOfOther_49 ?_
        refine lv_topi (fun w_2 ew_2 => ?_)
        refine lv_iload hx hb dX0_isOnlyPlaceOfOther_50 (lv_at hl 4 rfl) ?_
        refine lv_iconst (v := -1) hx hb dX0_isOnlyPlaceOfOther_52 (by decide) ?_
        refine lv_ixor hx hb dX0_isOnlyPlaceOfOther_53 ?_
        refine lv_topi (fun w_3 ew_3 => ?_)
        refine lv_iand hx hb dX0_isOnlyPlaceOfOther_54 ?_
        refine lv_topi (fun w_4 ew_4 => ?_)
        refine lv_iload_n hx hb dX0_isOnlyPlaceOfOther_55 rfl (lv_at hl 3 rfl) ?_
        refine fin_i hP hD hS hA [] [0, 1] (wr := [(b, .inr (5, [.ref mm])), (mm, .inl (gyI G, 16, .inl f))]) rfl rfl (by decide) (by decide) (va_runSN (As := [.int v]) (rest := [.int w_4]) ⟨hx, hb, hml, hown, hts⟩ (c_X6_bitOf l G v H.size) ⟨(va_cnB 1 hts (gI q266) rfl rfl rfl (hE.1.1 _ nq264) (hts _ q45) (by decide +kernel) ⟨Nat.le_of_ble_eq_true rfl, Nat.le_of_ble_eq_true rfl⟩), hts _ q265, trivial⟩ (preS hK hE hP hD hS hA [] rfl (by decide)) rfl rfl hl.1 rfl (lv_room (Nat.le_of_ble_eq_true rfl)) dX0_isOnlyPlaceOfOther_56 ⟨Nat.le_of_ble_eq_true rfl, Nat.le_of_ble_eq_true rfl⟩) (fun r_6 u9 hw_5 H locs hP hD hS => ?_)
        have hP : va_P (gD G) vwCl [(b, .inr (5, [.ref mm])), (mm, .inl (gyI G, 16, .inl f))] H := hP
        have hD : va_D A [(b, .inr (5, [.ref mm])), (mm, .inl (gyI G, 16, .inl f))] := hD
        refine lv_iconst (v := -1) hx hb dX0_isOnlyPlaceOfOther_59 (by decide) ?_
        refine lv_ixor hx hb dX0_isOnlyPlaceOfOther_60 ?_
        refine lv_topi (fun w_7 ew_7 => ?_)
        refine lv_iand hx hb dX0_isOnlyPlaceOfOther_61 ?_
        refine lv_topi (fun w_8 ew_8 => ?_)
        refine lv_if_eq (tgt := 69) hx hb dX0_isOnlyPlaceOfOther_62 (by decide) (fun c_9 => ?_) (fun c_9 => ?_)
        · skip
          refine lv_iconst (v := nI 0) hx hb dX0_isOnlyPlaceOfOther_69 (by decide) ?_
          have hP9 := hP.sub (ws' := [(b, .inr (5, [.ref mm])), (mm, .inl (gyI G, 16, .inl f))]) [0, 1] rfl
          have hD9 := hD.sub (ws' := [(b, .inr (5, [.ref mm])), (mm, .inl (gyI G, 16, .inl f))]) [0, 1] (by decide) rfl
          subst hQ
          exact W.zret (v := nI 0) hx hb hr (by decide) (fun t ht hW => ⟨⟨nI 0, (), rfl, trivial, by rw [ht]; exact hP9, hD9⟩, hS.F ht⟩) hS.2.2 dX0_isOnlyPlaceOfOther_70
        · skip
          refine lv_iconst (v := nI 1) hx hb dX0_isOnlyPlaceOfOther_65 (by decide) ?_
          refine lv_goto (tgt := 70) hx hb dX0_isOnlyPlaceOfOther_66 (by decide) ?_
          have hP9 := hP.sub (ws' := [(b, .inr (5, [.ref mm])), (mm, .inl (gyI G, 16, .inl f))]) [0, 1] rfl
          have hD9 := hD.sub (ws' := [(b, .inr (5, [.ref mm])), (mm, .inl (gyI G, 16, .inl f))]) [0, 1] (by decide) rfl
          subst hQ
          exact W.zret (v := nI 1) hx hb hr (by decide) (fun t ht hW => ⟨⟨nI 1, (), rfl, trivial, by rw [ht]; exact hP9, hD9⟩, hS.F ht⟩) hS.2.2 dX0_isOnlyPlaceOfOther_70
      · skip
        have c_1 : ¬ 4 ≤ i := fun z => c_1 ((nI_leI (a := 4) (b := i) (by omega) (by omega)).mpr z)
        refine lv_iload_n hx hb dX0_isOnlyPlaceOfOther_12 rfl (lv_at hl 1 rfl) ?_
        refine lv_iload hx hb dX0_isOnlyPlaceOfOther_13 (lv_at hl 5 rfl) ?_
        refine fin_i hP hD hS hA [] [0, 1] (wr := [(b, .inr (5, [.ref mm])), (mm, .inl (gyI G, 16, .inl f))]) rfl rfl (by decide) (by decide) (va_runSN (As := [.int (nI ln), .int (nI i)]) (rest := []) ⟨hx, hb, hml, hown, hts⟩ (c_X6_cellOfLine l G ln i (by omega) (by omega) H.size) ⟨(va_cnB 2 hts (gI q263) rfl rfl rfl (hE.1.1 _ nq261) (hts _ q45) (by decide +kernel) ⟨Nat.le_of_ble_eq_true rfl, Nat.le_of_ble_eq_true rfl⟩), hts _ q262, trivial⟩ (preS hK hE hP hD hS hA [] rfl (by decide)) rfl rfl hl.1 rfl (lv_room (Nat.le_of_ble_eq_true rfl)) dX0_isOnlyPlaceOfOther_15 ⟨Nat.le_of_ble_eq_true rfl, Nat.le_of_ble_eq_true rfl⟩) (fun r_12 u9 hw_11 H locs hP hD hS => ?_)
        obtain ⟨rn_10, rfl⟩ : ∃ z, z = u9 := ⟨_, rfl⟩
        obtain ⟨rfl, hrn_13⟩ := hw_11
        have hrn_13 : rn_10 < 16 := hrn_13
        have hP : va_P (gD G) vwCl [(b, .inr (5, [.ref mm])), (mm, .inl (gyI G, 16, .inl f))] H := hP
        have hD : va_D A [(b, .inr (5, [.ref mm])), (mm, .inl (gyI G, 16, .inl f))] := hD
        refine lv_istore (lv' := [(6, .int (nI rn_10)), (0, .ref b), (1, .int (nI ln)), (2, .int (nI k)), (3, .int v), (4, .int el), (5, .int (nI i))]) hx hb dX0_isOnlyPlaceOfOther_18 hl (by decide) rfl (fun ls hl => ?_)
        refine lv_iload hx hb dX0_isOnlyPlaceOfOther_20 (lv_at hl 0 rfl) ?_
        refine lv_iload_n hx hb dX0_isOnlyPlaceOfOther_22 rfl (lv_at hl 3 rfl) ?_
        refine lv_icmp_eq (tgt := 38) hx hb dX0_isOnlyPlaceOfOther_23 (by decide) (fun c_14 => ?_) (fun c_14 => ?_)
        · skip
          have c_14 : rn_10 = k := (nI_eq (a := rn_10) (b := k) (by omega) (by omega)).mp c_14
          refine lv_iinc (v := nI (i + 1)) (lv' := [(5, .int (nI (i + 1))), (6, .int (nI rn_10)), (0, .ref b), (1, .int (nI ln)), (2, .int (nI k)), (3, .int v), (4, .int el)]) hx hb dX0_isOnlyPlaceOfOther_38 hl (k := 6) rfl (nI_add i 1) (by decide) rfl (fun ls hl => ?_)
          refine lv_goto (tgt := 6) hx hb dX0_isOnlyPlaceOfOther_41 (by decide) ?_
          exact ih_6_1 el (i + 1) (by omega) (by omega) _ _ (hP.sub [0, 1] rfl) (hD.sub [0, 1] (by decide) rfl) hS ls (lv_sub hl [2, 3, 4, 5, 6, 0] rfl)
        · skip
          have c_14 : ¬ rn_10 = k := fun z => c_14 ((nI_eq (a := rn_10) (b := k) (by omega) (by omega)).mpr z)
          refine lv_iload hx hb dX0_isOnlyPlaceOfOther_26 (lv_at hl 5 rfl) ?_
          refine lv_aload_n hx hb dX0_isOnlyPlaceOfOther_28 rfl (lv_at hl 1 rfl) ?_
          refine va_get (D := gD G) (ci := 5) (v := .ref mm) (C := RX0) (T := TX0) (N := 1) hx hb hts fwX0 hown hK hP 0 rfl rfl 0 (by decide) (hts _ q129) (fun _ h9 => h9) rfl dX0_isOnlyPlaceOfOther_29 ?_
          refine lv_iload hx hb dX0_isOnlyPlaceOfOther_32 (lv_at hl 0 rfl) ?_
          refine va_iald (D := gD G) (cA := gyI G) (n := 16) (f := f) hx hb hK hP 1 0 rfl rfl (vp_in_nI (n := rn_10) (N := 16) (by omega) (by omega)) dX0_isOnlyPlaceOfOther_34 ?_
          refine lv_topi (fun w_15 ew_15 => ?_)
          refine lv_ior hx hb dX0_isOnlyPlaceOfOther_35 ?_
          refine lv_topi (fun w_16 ew_16 => ?_)
          refine lv_istore (lv' := [(4, .int w_16), (6, .int (nI rn_10)), (0, .ref b), (1, .int (nI ln)), (2, .int (nI k)), (3, .int v), (5, .int (nI i))]) hx hb dX0_isOnlyPlaceOfOther_36 hl (by decide) rfl (fun ls hl => ?_)
          refine lv_iinc (v := nI (i + 1)) (lv' := [(5, .int (nI (i + 1))), (4, .int w_16), (6, .int (nI rn_10)), (0, .ref b), (1, .int (nI ln)), (2, .int (nI k)), (3, .int v)]) hx hb dX0_isOnlyPlaceOfOther_38 hl (k := 6) rfl (nI_add i 1) (by decide) rfl (fun ls hl => ?_)
          refine lv_goto (tgt := 6) hx hb dX0_isOnlyPlaceOfOther_41 (by decide) ?_
          exact ih_6_1 w_16 (i + 1) (by omega) (by omega) _ _ (hP.sub [0, 1] rfl) (hD.sub [0, 1] (by decide) rfl) hS ls (lv_sub hl [3, 4, 5, 6, 1, 0] rfl)
  exact cut_6_1 (4 - 0 + 1) (nI 0) 0 (by omega) (Nat.lt_succ_self _) _ _ (hP.sub [0, 1] rfl) (hD.sub [0, 1] (by decide) rfl) hS ls (lv_sub hl [2, 3, 4, 5, 1, 0] rfl)
set_option maxHeartbeats 4000000 in
set_option maxRecDepth 100000 in
theorem c_X0_isInPairElsewhere (l : Launch) (G : GG) (b : Nat) (mm : Nat) (f : Nat → Int32) (ln : Nat) (k : Nat) (v : Int32) (hln : ln < 8) (hk : k < 16) : Mi l G yX0_isInPairElsewhere cX0_isInPairElsewhere 8 (some .boolean) ({ frames := 1, cells := 0, slots := 0, locals := 22 } : Room) [.ref b, .int (nI ln), .int (nI k), .int v] [(b, .inr (5, [.ref mm])), (mm, .inl (gyI G, 16, .inl f))] (fun (r : Int32) (u : Unit) => True) (fun (u : Unit) => [(b, .inr (5, [.ref mm])), (mm, .inl (gyI G, 16, .inl f))]) := by
  intro sz
  refine Met.ofW (cc := cX0_isInPairElsewhere) (maxL := 8) (ret := (some .boolean)) (by decide) rfl ?_
  intro p e s m args below meth c s₁ B9 hml hv
  obtain ⟨rfl, hsz, hP, hK, hD0, hE⟩ := hv
  have hx := B9.exec
  have hb := B9.bytes
  have hr := B9.returns
  have hts : ∀ w ∈ WW, w.before ([.ref b, .int (nI ln), .int (nI k), .int v] : List Value).toArray s = true := fun w h => atoms_spec (ws := .code yX0_isInPairElsewhere cX0_isInPairElsewhere 8 (some .boolean) :: WW) B9.pre w (List.mem_cons_of_mem _ h)
  have hown : s.vm.findClass RX0 = some m.cls := findClass_of_methodNamed B9.named
  subst hsz
  have hD := hD0.self (sz := s.heap.size)
  generalize hAe : va_A [(b, .inr (5, [.ref mm])), (mm, .inl (gyI G, 16, .inl f))] s.heap.size = A at hD hE ⊢
  have hA : ∀ q : Nat, s.heap.size ≤ q → A q := fun q h => by rw [← hAe]; exact Or.inr h
  have hl := lv_entry ([.ref b, .int (nI ln), .int (nI k), .int v]) (n := 8) (Nat.le_of_ble_eq_true rfl)
  rw [lg_entry_eq]
  generalize (lg_sl ([.ref b, .int (nI ln), .int (nI k), .int v]) ++ List.replicate (8 - (lg_sl ([.ref b, .int (nI ln), .int (nI k), .int v])).length) Slot.unset).toArray = ls at hl ⊢
  have hl : lv_has ls 8 [(0, .ref b), (1, .int (nI ln)), (2, .int (nI k)), (3, .int v)] := hl
  refine qgen (fun Q hQ => ?_)
  refine hgen (fun H locs hP hD hS => ?_) hP hD
  refine lv_iconst (v := nI 1) hx hb dX0_isInPairElsewhere_0 (by decide) ?_
  refine lv_istore (lv' := [(4, .int (nI 1)), (0, .ref b), (1, .int (nI ln)), (2, .int (nI k)), (3, .int v)]) hx hb dX0_isInPairElsewhere_1 hl (by decide) rfl (fun ls hl => ?_)
  have cut_3_1 : ∀ (n9 : Nat) (i : Nat) (hi : 1 ≤ i ∧ i ≤ 4) (hm9 : 4 - i < n9) (H : Heap) (locs : List Loc), va_P (gD G) vwCl [(b, .inr (5, [.ref mm])), (mm, .inl (gyI G, 16, .inl f))] H → va_D A [(b, .inr (5, [.ref mm])), (mm, .inl (gyI G, 16, .inl f))] → va_S A s.heap H locs → ∀ (ls : Array Slot), lv_has ls 8 [(0, .ref b), (1, .int (nI ln)), (2, .int (nI k)), (3, .int v), (4, .int (nI i))] → W p l e ({ frames := 1, cells := 0, slots := 0, locals := 22 } : Room) s m ([.ref b, .int (nI ln), .int (nI k), .int v] : List Value).toArray below meth c H locs 0 0 Q (F0 m 3 ls []) := by
    intro n9
    induction n9 with
    | zero =>
      intro i hi hm9
      exact absurd hm9 (Nat.not_lt_zero _)
    | succ n9 ih_3_1 =>
      intro i hi hm9 H locs hP hD hS ls hl
      refine lv_iload hx hb dX0_isInPairElsewhere_3 (lv_at hl 4 rfl) ?_
      refine lv_iconst (v := nI 4) hx hb dX0_isInPairElsewhere_5 (by decide) ?_
      refine lv_icmp_ge (tgt := 102) hx hb dX0_isInPairElsewhere_6 (by decide) (fun c_1 => ?_) (fun c_1 => ?_)
      · skip
        have c_1 : 4 ≤ i := (nI_leI (a := 4) (b := i) (by omega) (by omega)).mp c_1
        refine lv_iconst (v := nI 0) hx hb dX0_isInPairElsewhere_102 (by decide) ?_
        have hP9 := hP.sub (ws' := [(b, .inr (5, [.ref mm])), (mm, .inl (gyI G, 16, .inl f))]) [0, 1] rfl
        have hD9 := hD.sub (ws' := [(b, .inr (5, [.ref mm])), (mm, .inl (gyI G, 16, .inl f))]) [0, 1] (by decide) rfl
        subst hQ
        exact W.zret (v := nI 0) hx hb hr (by decide) (fun t ht hW => ⟨⟨nI 0, (), rfl, trivial, by rw [ht]; exact hP9, hD9⟩, hS.F ht⟩) hS.2.2 dX0_isInPairElsewhere_103
      · skip
        have c_1 : ¬ 4 ≤ i := fun z => c_1 ((nI_leI (a := 4) (b := i) (by omega) (by omega)).mpr z)
        refine lv_iload_n hx hb dX0_isInPairElsewhere_9 rfl (lv_at hl 1 rfl) ?_
        refine lv_iload hx hb dX0_isInPairElsewhere_10 (lv_at hl 4 rfl) ?_
        refine fin_i hP hD hS hA [] [0, 1] (wr := [(b, .inr (5, [.ref mm])), (mm, .inl (gyI G, 16, .inl f))]) rfl rfl (by decide) (by decide) (va_runSN (As := [.int (nI ln), .int (nI i)]) (rest := []) ⟨hx, hb, hml, hown, hts⟩ (c_X6_cellOfLine l G ln i (by omega) (by omega) H.size) ⟨(va_cnB 2 hts (gI q263) rfl rfl rfl (hE.1.1 _ nq261) (hts _ q45) (by decide +kernel) ⟨Nat.le_of_ble_eq_true rfl, Nat.le_of_ble_eq_true rfl⟩), hts _ q262, trivial⟩ (preS hK hE hP hD hS hA [] rfl (by decide)) rfl rfl hl.1 rfl (lv_room (Nat.le_of_ble_eq_true rfl)) dX0_isInPairElsewhere_12 ⟨Nat.le_of_ble_eq_true rfl, Nat.le_of_ble_eq_true rfl⟩) (fun r_4 u9 hw_3 H locs hP hD hS => ?_)
        obtain ⟨rn_2, rfl⟩ : ∃ z, z = u9 := ⟨_, rfl⟩
        obtain ⟨rfl, hrn_5⟩ := hw_3
        have hrn_5 : rn_2 < 16 := hrn_5
        have hP : va_P (gD G) vwCl [(b, .inr (5, [.ref mm])), (mm, .inl (gyI G, 16, .inl f))] H := hP
        have hD : va_D A [(b, .inr (5, [.ref mm])), (mm, .inl (gyI G, 16, .inl f))] := hD
        refine lv_istore (lv' := [(5, .int (nI rn_2)), (0, .ref b), (1, .int (nI ln)), (2, .int (nI k)), (3, .int v), (4, .int (nI i))]) hx hb dX0_isInPairElsewhere_15 hl (by decide) rfl (fun ls hl => ?_)
        refine lv_iload hx hb dX0_isInPairElsewhere_17 (lv_at hl 0 rfl) ?_
        refine lv_iload_n hx hb dX0_isInPairElsewhere_19 rfl (lv_at hl 3 rfl) ?_
        refine lv_icmp_eq (tgt := 96) hx hb dX0_isInPairElsewhere_20 (by decide) (fun c_6 => ?_) (fun c_6 => ?_)
        · skip
          have c_6 : rn_2 = k := (nI_eq (a := rn_2) (b := k) (by omega) (by omega)).mp c_6
          refine lv_iinc (v := nI (i + 1)) (lv' := [(4, .int (nI (i + 1))), (5, .int (nI rn_2)), (0, .ref b), (1, .int (nI ln)), (2, .int (nI k)), (3, .int v)]) hx hb dX0_isInPairElsewhere_96 hl (k := 5) rfl (nI_add i 1) (by decide) rfl (fun ls hl => ?_)
          refine lv_goto (tgt := 3) hx hb dX0_isInPairElsewhere_99 (by decide) ?_
          exact ih_3_1 (i + 1) (by omega) (by omega) _ _ (hP.sub [0, 1] rfl) (hD.sub [0, 1] (by decide) rfl) hS ls (lv_sub hl [2, 3, 4, 5, 0] rfl)
        · skip
          have c_6 : ¬ rn_2 = k := fun z => c_6 ((nI_eq (a := rn_2) (b := k) (by omega) (by omega)).mpr z)
          refine lv_aload_n hx hb dX0_isInPairElsewhere_23 rfl (lv_at hl 1 rfl) ?_
          refine lv_iload hx hb dX0_isInPairElsewhere_24 (lv_at hl 0 rfl) ?_
          refine lv_iload_n hx hb dX0_isInPairElsewhere_26 rfl (lv_at hl 4 rfl) ?_
          refine fin_i hP hD hS hA [0, 1] [] (wr := []) rfl rfl (by decide) (by decide) (va_runV (As := [.int (nI rn_2), .int v]) (rest := []) ⟨hx, hb, hml, hown, hts⟩ (c_X0_holds l G b mm f rn_2 v (by omega) H.size) (cwV 2 hts (gV q275 q251 q4 q50 q252) rfl rfl rfl (by decide +kernel) ⟨Nat.le_of_ble_eq_true rfl, Nat.le_of_ble_eq_true rfl⟩) (preV (q0 := 0) (ci := 5) hK hE hP hD hS hA [0, 1] rfl (by decide) rfl rfl) rfl rfl hl.1 rfl (lv_room (Nat.le_of_ble_eq_true rfl)) dX0_isInPairElsewhere_27 ⟨Nat.le_of_ble_eq_true rfl, Nat.le_of_ble_eq_true rfl⟩) (fun r_8 u9 hw_7 H locs hP hD hS => ?_)
          have hP : va_P (gD G) vwCl [(b, .inr (5, [.ref mm])), (mm, .inl (gyI G, 16, .inl f))] H := hP
          have hD : va_D A [(b, .inr (5, [.ref mm])), (mm, .inl (gyI G, 16, .inl f))] := hD
          refine lv_if_eq (tgt := 96) hx hb dX0_isInPairElsewhere_30 (by decide) (fun c_9 => ?_) (fun c_9 => ?_)
          · skip
            refine lv_iinc (v := nI (i + 1)) (lv' := [(4, .int (nI (i + 1))), (5, .int (nI rn_2)), (0, .ref b), (1, .int (nI ln)), (2, .int (nI k)), (3, .int v)]) hx hb dX0_isInPairElsewhere_96 hl (k := 5) rfl (nI_add i 1) (by decide) rfl (fun ls hl => ?_)
            refine lv_goto (tgt := 3) hx hb dX0_isInPairElsewhere_99 (by decide) ?_
            exact ih_3_1 (i + 1) (by omega) (by omega) _ _ (hP.sub [0, 1] rfl) (hD.sub [0, 1] (by decide) rfl) hS ls (lv_sub hl [2, 3, 4, 5, 0] rfl)
          · skip
            refine lv_aload_n hx hb dX0_isInPairElsewhere_33 rfl (lv_at hl 1 rfl) ?_
            refine va_get (D := gD G) (ci := 5) (v := .ref mm) (C := RX0) (T := TX0) (N := 1) hx hb hts fwX0 hown hK hP 0 rfl rfl 0 (by decide) (hts _ q129) (fun _ h9 => h9) rfl dX0_isInPairElsewhere_34 ?_
            refine lv_iload hx hb dX0_isInPairElsewhere_37 (lv_at hl 0 rfl) ?_
            refine va_iald (D := gD G) (cA := gyI G) (n := 16) (f := f) hx hb hK hP 1 0 rfl rfl (vp_in_nI (n := rn_2) (N := 16) (by omega) (by omega)) dX0_isInPairElsewhere_39 ?_
            refine lv_topi (fun w_10 ew_10 => ?_)
            refine fin_i hP hD hS hA [] [0, 1] (wr := [(b, .inr (5, [.ref mm])), (mm, .inl (gyI G, 16, .inl f))]) rfl rfl (by decide) (by decide) (va_runS (As := [.int w_10]) (rest := []) ⟨hx, hb, hml, hown, hts⟩ (c_J6_bitCount_0f7a4 l G w_10 H.size) (va_cwS 1 hts (gSt q276 q277 q70 q278) rfl rfl rfl (by decide +kernel) ⟨Nat.le_of_ble_eq_true rfl, Nat.le_of_ble_eq_true rfl⟩) (preS hK hE hP hD hS hA [] rfl (by decide)) rfl rfl hl.1 rfl (lv_room (Nat.le_of_ble_eq_true rfl)) dX0_isInPairElsewhere_40 ⟨Nat.le_of_ble_eq_true rfl, Nat.le_of_ble_eq_true rfl⟩) (fun r_12 u9 hw_11 H locs hP hD hS => ?_)
            have hP : va_P (gD G) vwCl [(b, .inr (5, [.ref mm])), (mm, .inl (gyI G, 16, .inl f))] H := hP
            have hD : va_D A [(b, .inr (5, [.ref mm])), (mm, .inl (gyI G, 16, .inl f))] := hD
            refine lv_iconst (v := nI 2) hx hb dX0_isInPairElsewhere_43 (by decide) ?_
            refine lv_icmp_ne (tgt := 96) hx hb dX0_isInPairElsewhere_44 (by decide) (fun c_13 => ?_) (fun c_13 => ?_)
            · skip
              refine lv_iinc (v := nI (i + 1)) (lv' := [(4, .int (nI (i + 1))), (5, .int (nI rn_2)), (0, .ref b), (1, .int (nI ln)), (2, .int (nI k)), (3, .int v)]) hx hb dX0_isInPairElsewhere_96 hl (k := 5) rfl (nI_add i 1) (by decide) rfl (fun ls hl => ?_)
              refine lv_goto (tgt := 3) hx hb dX0_isInPairElsewhere_99 (by decide) ?_
              exact ih_3_1 (i + 1) (by omega) (by omega) _ _ (hP.sub [0, 1] rfl) (hD.sub [0, 1] (by decide) rfl) hS ls (lv_sub hl [2, 3, 4, 5, 0] rfl)
            · skip
              refine lv_iconst (v := nI 0) hx hb dX0_isInPairElsewhere_47 (by decide) ?_
              refine lv_istore (lv' := [(6, .int (nI 0)), (5, .int (nI rn_2)), (0, .ref b), (1, .int (nI ln)), (2, .int (nI k)), (3, .int v), (4, .int (nI i))]) hx hb dX0_isInPairElsewhere_48 hl (by decide) rfl (fun ls hl => ?_)
              have cut_50_2 : ∀ (n9 : Nat) (j : Nat) (hj : j ≤ i) (hm9 : i - j < n9) (H : Heap) (locs : List Loc), va_P (gD G) vwCl [(b, .inr (5, [.ref mm])), (mm, .inl (gyI G, 16, .inl f))] H → va_D A [(b, .inr (5, [.ref mm])), (mm, .inl (gyI G, 16, .inl f))] → va_S A s.heap H locs → ∀ (ls : Array Slot), lv_has ls 8 [(5, .int (nI rn_2)), (0, .ref b), (1, .int (nI ln)), (2, .int (nI k)), (3, .int v), (4, .int (nI i)), (6, .int (nI j))] → W p l e ({ frames := 1, cells := 0, slots := 0, locals := 22 } : Room) s m ([.ref b, .int (nI ln), .int (nI k), .int v] : List Value).toArray below meth c H locs 0 0 Q (F0 m 50 ls []) := by
                intro n9
                induction n9 with
                | zero =>
                  intro j hj hm9
                  exact absurd hm9 (Nat.not_lt_zero _)
                | succ n9 ih_50_2 =>
                  intro j hj hm9 H locs hP hD hS ls hl
                  refine lv_iload hx hb dX0_isInPairElsewhere_50 (lv_at hl 6 rfl) ?_
                  refine lv_iload hx hb dX0_isInPairElsewhere_52 (lv_at hl 5 rfl) ?_
                  refine lv_icmp_ge (tgt := 96) hx hb dX0_isInPairElsewhere_54 (by decide) (fun c_14 => ?_) (fun c_14 => ?_)
                  · skip
                    have c_14 : i ≤ j := (nI_leI (a := i) (b := j) (by omega) (by omega)).mp c_14
                    refine lv_iinc (v := nI (i + 1)) (lv' := [(4, .int (nI (i + 1))), (5, .int (nI rn_2)), (0, .ref b), (1, .int (nI ln)), (2, .int (nI k)), (3, .int v), (6, .int (nI j))]) hx hb dX0_isInPairElsewhere_96 hl (k := 5) rfl (nI_add i 1) (by decide) rfl (fun ls hl => ?_)
                    refine lv_goto (tgt := 3) hx hb dX0_isInPairElsewhere_99 (by decide) ?_
                    exact ih_3_1 (i + 1) (by omega) (by omega) _ _ (hP.sub [0, 1] rfl) (hD.sub [0, 1] (by decide) rfl) hS ls (lv_sub hl [2, 3, 4, 5, 0] rfl)
                  · skip
                    have c_14 : ¬ i ≤ j := fun z => c_14 ((nI_leI (a := i) (b := j) (by omega) (by omega)).mpr z)
                    refine lv_iload_n hx hb dX0_isInPairElsewhere_57 rfl (lv_at hl 2 rfl) ?_
                    refine lv_iload hx hb dX0_isInPairElsewhere_58 (lv_at hl 6 rfl) ?_
                    refine fin_i hP hD hS hA [] [0, 1] (wr := [(b, .inr (5, [.ref mm])), (mm, .inl (gyI G, 16, .inl f))]) rfl rfl (by decide) (by decide) (va_runSN (As := [.int (nI ln), .int (nI j)]) (rest := []) ⟨hx, hb, hml, hown, hts⟩ (c_X6_cellOfLine l G ln j (by omega) (by omega) H.size) ⟨(va_cnB 2 hts (gI q263) rfl rfl rfl (hE.1.1 _ nq261) (hts _ q45) (by decide +kernel) ⟨Nat.le_of_ble_eq_true rfl, Nat.le_of_ble_eq_true rfl⟩), hts _ q262, trivial⟩ (preS hK hE hP hD hS hA [] rfl (by decide)) rfl rfl hl.1 rfl (lv_room (Nat.le_of_ble_eq_true rfl)) dX0_isInPairElsewhere_60 ⟨Nat.le_of_ble_eq_true rfl, Nat.le_of_ble_eq_true rfl⟩) (fun r_17 u9 hw_16 H locs hP hD hS => ?_)
                    obtain ⟨rn_15, rfl⟩ : ∃ z, z = u9 := ⟨_, rfl⟩
                    obtain ⟨rfl, hrn_18⟩ := hw_16
                    have hrn_18 : rn_15 < 16 := hrn_18
                    have hP : va_P (gD G) vwCl [(b, .inr (5, [.ref mm])), (mm, .inl (gyI G, 16, .inl f))] H := hP
                    have hD : va_D A [(b, .inr (5, [.ref mm])), (mm, .inl (gyI G, 16, .inl f))] := hD
                    refine lv_istore (lv' := [(7, .int (nI rn_15)), (5, .int (nI rn_2)), (0, .ref b), (1, .int (nI ln)), (2, .int (nI k)), (3, .int v), (4, .int (nI i)), (6, .int (nI j))]) hx hb dX0_isInPairElsewhere_63 hl (by decide) rfl (fun ls hl => ?_)
                    refine lv_iload hx hb dX0_isInPairElsewhere_65 (lv_at hl 0 rfl) ?_
                    refine lv_iload_n hx hb dX0_isInPairElsewhere_67 rfl (lv_at hl 4 rfl) ?_
                    refine lv_icmp_eq (tgt := 90) hx hb dX0_isInPairElsewhere_68 (by decide) (fun c_19 => ?_) (fun c_19 => ?_)
                    · skip
                      have c_19 : rn_15 = k := (nI_eq (a := rn_15) (b := k) (by omega) (by omega)).mp c_19
                      refine lv_iinc (v := nI (j + 1)) (lv' := [(6, .int (nI (j + 1))), (7, .int (nI rn_15)), (5, .int (nI rn_2)), (0, .ref b), (1, .int (nI ln)), (2, .int (nI k)), (3, .int v), (4, .int (nI i))]) hx hb dX0_isInPairElsewhere_90 hl (k := 7) rfl (nI_add j 1) (by decide) rfl (fun ls hl => ?_)
                      refine lv_goto (tgt := 50) hx hb dX0_isInPairElsewhere_93 (by decide) ?_
                      exact ih_50_2 (j + 1) (by omega) (by omega) _ _ (hP.sub [0, 1] rfl) (hD.sub [0, 1] (by decide) rfl) hS ls (lv_sub hl [2, 3, 4, 5, 6, 7, 0] rfl)
                    · skip
                      have c_19 : ¬ rn_15 = k := fun z => c_19 ((nI_eq (a := rn_15) (b := k) (by omega) (by omega)).mpr z)
                      refine lv_aload_n hx hb dX0_isInPairElsewhere_71 rfl (lv_at hl 2 rfl) ?_
                      refine va_get (D := gD G) (ci := 5) (v := .ref mm) (C := RX0) (T := TX0) (N := 1) hx hb hts fwX0 hown hK hP 0 rfl rfl 0 (by decide) (hts _ q129) (fun _ h9 => h9) rfl dX0_isInPairElsewhere_72 ?_
                      refine lv_iload hx hb dX0_isInPairElsewhere_75 (lv_at hl 0 rfl) ?_
                      refine va_iald (D := gD G) (cA := gyI G) (n := 16) (f := f) hx hb hK hP 1 0 rfl rfl (vp_in_nI (n := rn_15) (N := 16) (by omega) (by omega)) dX0_isInPairElsewhere_77 ?_
                      refine lv_topi (fun w_20 ew_20 => ?_)
                      refine lv_aload_n hx hb dX0_isInPairElsewhere_78 rfl (lv_at hl 2 rfl) ?_
                      refine va_get (D := gD G) (ci := 5) (v := .ref mm) (C := RX0) (T := TX0) (N := 1) hx hb hts fwX0 hown hK hP 0 rfl rfl 0 (by decide) (hts _ q129) (fun _ h9 => h9) rfl dX0_isInPairElsewhere_79 ?_
                      refine lv_iload hx hb dX0_isInPairElsewhere_82 (lv_at hl 1 rfl) ?_
                      refine va_iald (D := gD G) (cA := gyI G) (n := 16) (f := f) hx hb hK hP 1 0 rfl rfl (vp_in_nI (n := rn_2) (N := 16) (by omega) (by omega)) dX0_isInPairElsewhere_84 ?_
                      refine lv_topi (fun w_21 ew_21 => ?_)
                      refine lv_icmp_ne (tgt := 90) hx hb dX0_isInPairElsewhere_85 (by decide) (fun c_22 => ?_) (fun c_22 => ?_)
                      · skip
                        refine lv_iinc (v := nI (j + 1)) (lv' := [(6, .int (nI (j + 1))), (7, .int (nI rn_15)), (5, .int (nI rn_2)), (0, .ref b), (1, .int (nI ln)), (2, .int (nI k)), (3, .int v), (4, .int (nI i))]) hx hb dX0_isInPairElsewhere_90 hl (k := 7) rfl (nI_add j 1) (by decide) rfl (fun ls hl => ?_)
                        refine lv_goto (tgt := 50) hx hb dX0_isInPairElsewhere_93 (by decide) ?_
                        exact ih_50_2 (j + 1) (by omega) (by omega) _ _ (hP.sub [0, 1] rfl) (hD.sub [0, 1] (by decide) rfl) hS ls (lv_sub hl [2, 3, 4, 5, 6, 7, 0] rfl)
                      · skip
                        refine lv_iconst (v := nI 1) hx hb dX0_isInPairElsewhere_88 (by decide) ?_
                        have hP9 := hP.sub (ws' := [(b, .inr (5, [.ref mm])), (mm, .inl (gyI G, 16, .inl f))]) [0, 1] rfl
                        have hD9 := hD.sub (ws' := [(b, .inr (5, [.ref mm])), (mm, .inl (gyI G, 16, .inl f))]) [0, 1] (by decide) rfl
                        subst hQ
                        exact W.zret (v := nI 1) hx hb hr (by decide) (fun t ht hW => ⟨⟨nI 1, (), rfl, trivial, by rw [ht]; exact hP9, hD9⟩, hS.F ht⟩) hS.2.2 dX0_isInPairElsewhere_89
              exact cut_50_2 (i - 0 + 1) 0 (by omega) (Nat.lt_succ_self _) _ _ (hP.sub [0, 1] rfl) (hD.sub [0, 1] (by decide) rfl) hS ls (lv_sub hl [1, 2, 3, 4, 5, 6, 0] rfl)
  exact cut_3_1 (4 - 1 + 1) 1 (by omega) (Nat.lt_succ_self _) _ _ (hP.sub [0, 1] rfl) (hD.sub [0, 1] (by decide) rfl) hS ls (lv_sub hl [1, 2, 3, 4, 0] rfl)
