theorem q34 : (Jvm.Cond.selects "PegboardryModel" ({ cls := "PegboardryModel", name := "isWrong", desc := "(I)Z" } : Jvm.MethodName) ({ cls := "PegboardryModel", name := "isWrong", desc := "(I)Z" } : Jvm.MethodName)) ∈ WW := inW 34 (by decide +kernel) rfl
theorem q35 : (Jvm.Cond.selects "PegboardryModel" ({ cls := "PegboardryModel", name := "isNoCell", desc := "(II)Z" } : Jvm.MethodName) ({ cls := "PegboardryModel", name := "isNoCell", desc := "(II)Z" } : Jvm.MethodName)) ∈ WW := inW 35 (by decide +kernel) rfl
theorem q36 : (Jvm.Cond.selects "PegboardryModel" ({ cls := "PegboardryModel", name := "isPuzzle", desc := "(I)Z" } : Jvm.MethodName) ({ cls := "PegboardryModel", name := "isPuzzle", desc := "(I)Z" } : Jvm.MethodName)) ∈ WW := inW 36 (by decide +kernel) rfl
theorem q40 : (Jvm.Cond.selects "PegboardryModel" ({ cls := "PegboardryModel", name := "isNone", desc := "(I)Z" } : Jvm.MethodName) ({ cls := "PegboardryModel", name := "isNone", desc := "(I)Z" } : Jvm.MethodName)) ∈ WW := inW 40 (by decide +kernel) rfl
theorem q927 : (Jvm.Cond.fieldLink "PegboardryModel" (20 : Nat) "PegboardryModel" "thrown" "I") ∈ WW := inW 927 (by decide +kernel) rfl
theorem q928 : (Jvm.Cond.fieldLink "PegboardryModel" (10 : Nat) "PegboardryModel" "puzzles" "Ljava/util/List;") ∈ WW := inW 928 (by decide +kernel) rfl
theorem q930 : (Jvm.Cond.fieldLink "PegboardryModel" (159 : Nat) "PegboardryModel" "proved" "LPegboardryModel$Puzzle;") ∈ WW := inW 930 (by decide +kernel) rfl
theorem q932 : (Jvm.Cond.fieldLink "PegboardryModel" (169 : Nat) "PegboardryModel" "reason" "I") ∈ WW := inW 932 (by decide +kernel) rfl
theorem q955 : (Jvm.Cond.methodLink "PegboardryModel" (28 : Nat) ({ cls := "java/util/List", name := "size", desc := "()I" } : Jvm.MethodName)) ∈ WW := inW 955 (by decide +kernel) rfl
theorem q959 : (Jvm.Cond.selects "java/util/ArrayList" ({ cls := "java/util/List", name := "size", desc := "()I" } : Jvm.MethodName) ({ cls := "java/util/ArrayList", name := "size", desc := "()I" } : Jvm.MethodName)) ∈ WW := inW 959 (by decide +kernel) rfl
theorem q962 : (Jvm.Cond.methodLink "PegboardryModel" (38 : Nat) ({ cls := "PegboardryModel", name := "isWrong", desc := "(I)Z" } : Jvm.MethodName)) ∈ WW := inW 962 (by decide +kernel) rfl
theorem q964 : (Jvm.Cond.instanceMethod ({ cls := "PegboardryModel", name := "isWrong", desc := "(I)Z" } : Jvm.MethodName)) ∈ WW := inW 964 (by decide +kernel) rfl
theorem q965 : (Jvm.Cond.code ({ cls := "PegboardryModel", name := "isWrong", desc := "(I)Z" } : Jvm.MethodName) prog_9_method_3_code (2 : Nat) (Option.some Jvm.ClassFile.FieldType.boolean)) ∈ WW := inW 965 (by decide +kernel) rfl
theorem q998 : (Jvm.Cond.methodLink "PegboardryModel" (60 : Nat) ({ cls := "PegboardryModel", name := "isNoCell", desc := "(II)Z" } : Jvm.MethodName)) ∈ WW := inW 998 (by decide +kernel) rfl
theorem q1000 : (Jvm.Cond.instanceMethod ({ cls := "PegboardryModel", name := "isNoCell", desc := "(II)Z" } : Jvm.MethodName)) ∈ WW := inW 1000 (by decide +kernel) rfl
theorem q1001 : (Jvm.Cond.code ({ cls := "PegboardryModel", name := "isNoCell", desc := "(II)Z" } : Jvm.MethodName) prog_9_method_10_code (3 : Nat) (Option.some Jvm.ClassFile.FieldType.boolean)) ∈ WW := inW 1001 (by decide +kernel) rfl
theorem q1002 : (Jvm.Cond.methodLink "PegboardryModel" (34 : Nat) ({ cls := "PegboardryModel", name := "isPuzzle", desc := "(I)Z" } : Jvm.MethodName)) ∈ WW := inW 1002 (by decide +kernel) rfl
theorem q1004 : (Jvm.Cond.instanceMethod ({ cls := "PegboardryModel", name := "isPuzzle", desc := "(I)Z" } : Jvm.MethodName)) ∈ WW := inW 1004 (by decide +kernel) rfl
theorem q1005 : (Jvm.Cond.code ({ cls := "PegboardryModel", name := "isPuzzle", desc := "(I)Z" } : Jvm.MethodName) prog_9_method_8_code (2 : Nat) (Option.some Jvm.ClassFile.FieldType.boolean)) ∈ WW := inW 1005 (by decide +kernel) rfl
theorem q1006 : (Jvm.Cond.methodLink "PegboardryModel" (24 : Nat) ({ cls := "PegboardryModel", name := "isBetween", desc := "(III)Z" } : Jvm.MethodName)) ∈ WW := inW 1006 (by decide +kernel) rfl
theorem q1007 : (Jvm.Cond.static ({ cls := "PegboardryModel", name := "isBetween", desc := "(III)Z" } : Jvm.MethodName)) ∈ WW := inW 1007 (by decide +kernel) rfl
theorem q1008 : (Jvm.Cond.code ({ cls := "PegboardryModel", name := "isBetween", desc := "(III)Z" } : Jvm.MethodName) prog_9_method_4_code (3 : Nat) (Option.some Jvm.ClassFile.FieldType.boolean)) ∈ WW := inW 1008 (by decide +kernel) rfl
theorem q1009 : (Jvm.Cond.methodLink "PegboardryModel" (41 : Nat) ({ cls := "PegboardryModel", name := "isCell", desc := "(I)Z" } : Jvm.MethodName)) ∈ WW := inW 1009 (by decide +kernel) rfl
theorem q1010 : (Jvm.Cond.static ({ cls := "PegboardryModel", name := "isCell", desc := "(I)Z" } : Jvm.MethodName)) ∈ WW := inW 1010 (by decide +kernel) rfl
theorem q1011 : (Jvm.Cond.code ({ cls := "PegboardryModel", name := "isCell", desc := "(I)Z" } : Jvm.MethodName) prog_9_method_5_code (1 : Nat) (Option.some Jvm.ClassFile.FieldType.boolean)) ∈ WW := inW 1011 (by decide +kernel) rfl
theorem q1023 : (Jvm.Cond.constant "PegboardryModel" (67 : Nat) (65535 : Int32)) ∈ WW := inW 1023 (by decide +kernel) rfl
theorem q1024 : (Jvm.Cond.methodLink "PegboardryModel" (68 : Nat) ({ cls := "java/lang/Integer", name := "bitCount", desc := "(I)I" } : Jvm.MethodName)) ∈ WW := inW 1024 (by decide +kernel) rfl
theorem q1225 : (Jvm.Cond.methodLink "PegboardryModel" (110 : Nat) ({ cls := "PegboardryModel", name := "isNone", desc := "(I)Z" } : Jvm.MethodName)) ∈ WW := inW 1225 (by decide +kernel) rfl
theorem q1227 : (Jvm.Cond.instanceMethod ({ cls := "PegboardryModel", name := "isNone", desc := "(I)Z" } : Jvm.MethodName)) ∈ WW := inW 1227 (by decide +kernel) rfl
theorem q1228 : (Jvm.Cond.code ({ cls := "PegboardryModel", name := "isNone", desc := "(I)Z" } : Jvm.MethodName) prog_9_method_9_code (2 : Nat) (Option.some Jvm.ClassFile.FieldType.boolean)) ∈ WW := inW 1228 (by decide +kernel) rfl
theorem dX10_thrown_0 : decode cX10_thrown 0 = .ok (.aload_n 0, 1) := by decide +kernel
theorem dX10_thrown_1 : decode cX10_thrown 1 = .ok (.getfield 20, 3) := by decide +kernel
theorem dX10_thrown_4 : decode cX10_thrown 4 = .ok (.ireturn, 1) := by decide +kernel
theorem dX10_isWrong_0 : decode cX10_isWrong 0 = .ok (.aload_n 0, 1) := by decide +kernel
theorem dX10_isWrong_1 : decode cX10_isWrong 1 = .ok (.iload_n 1, 1) := by decide +kernel
theorem dX10_isWrong_2 : decode cX10_isWrong 2 = .ok (.putfield 20, 3) := by decide +kernel
theorem dX10_isWrong_5 : decode cX10_isWrong 5 = .ok (.iload_n 1, 1) := by decide +kernel
theorem dX10_isWrong_6 : decode cX10_isWrong 6 = .ok (.ifCond .le 7, 3) := by decide +kernel
theorem dX10_isWrong_13 : decode cX10_isWrong 13 = .ok (.iconst 0, 1) := by decide +kernel
theorem dX10_isWrong_14 : decode cX10_isWrong 14 = .ok (.ireturn, 1) := by decide +kernel
theorem dX10_isWrong_9 : decode cX10_isWrong 9 = .ok (.iconst 1, 1) := by decide +kernel
theorem dX10_isWrong_10 : decode cX10_isWrong 10 = .ok (.goto 4, 3) := by decide +kernel
theorem dX10_isBetween_0 : decode cX10_isBetween 0 = .ok (.iload_n 1, 1) := by decide +kernel
theorem dX10_isBetween_1 : decode cX10_isBetween 1 = .ok (.iload_n 0, 1) := by decide +kernel
theorem dX10_isBetween_2 : decode cX10_isBetween 2 = .ok (.if_icmp .gt 12, 3) := by decide +kernel
theorem dX10_isBetween_5 : decode cX10_isBetween 5 = .ok (.iload_n 0, 1) := by decide +kernel
theorem dX10_isBetween_6 : decode cX10_isBetween 6 = .ok (.iload_n 2, 1) := by decide +kernel
theorem dX10_isBetween_7 : decode cX10_isBetween 7 = .ok (.if_icmp .gt 7, 3) := by decide +kernel
theorem dX10_isBetween_10 : decode cX10_isBetween 10 = .ok (.iconst 1, 1) := by decide +kernel
theorem dX10_isBetween_11 : decode cX10_isBetween 11 = .ok (.goto 4, 3) := by decide +kernel
theorem dX10_isBetween_15 : decode cX10_isBetween 15 = .ok (.ireturn, 1) := by decide +kernel
theorem dX10_isBetween_14 : decode cX10_isBetween 14 = .ok (.iconst 0, 1) := by decide +kernel
theorem dX10_isCell_0 : decode cX10_isCell 0 = .ok (.iload_n 0, 1) := by decide +kernel
theorem dX10_isCell_1 : decode cX10_isCell 1 = .ok (.iconst 0, 1) := by decide +kernel
theorem dX10_isCell_2 : decode cX10_isCell 2 = .ok (.bipush 15, 2) := by decide +kernel
theorem dX10_isCell_4 : decode cX10_isCell 4 = .ok (.invokestatic 24, 3) := by decide +kernel
theorem dX10_isCell_7 : decode cX10_isCell 7 = .ok (.ireturn, 1) := by decide +kernel
theorem dX10_isPuzzle_0 : decode cX10_isPuzzle 0 = .ok (.iload_n 1, 1) := by decide +kernel
theorem dX10_isPuzzle_1 : decode cX10_isPuzzle 1 = .ok (.iconst 0, 1) := by decide +kernel
theorem dX10_isPuzzle_2 : decode cX10_isPuzzle 2 = .ok (.aload_n 0, 1) := by decide +kernel
theorem dX10_isPuzzle_3 : decode cX10_isPuzzle 3 = .ok (.getfield 10, 3) := by decide +kernel
theorem dX10_isPuzzle_6 : decode cX10_isPuzzle 6 = .ok (.invokeinterface 28 1, 5) := by decide +kernel
theorem dX10_isPuzzle_11 : decode cX10_isPuzzle 11 = .ok (.iconst 1, 1) := by decide +kernel
theorem dX10_isPuzzle_12 : decode cX10_isPuzzle 12 = .ok (.isub, 1) := by decide +kernel
theorem dX10_isPuzzle_13 : decode cX10_isPuzzle 13 = .ok (.invokestatic 24, 3) := by decide +kernel
theorem dX10_isPuzzle_16 : decode cX10_isPuzzle 16 = .ok (.ireturn, 1) := by decide +kernel
theorem dX10_isNone_0 : decode cX10_isNone 0 = .ok (.aload_n 0, 1) := by decide +kernel
theorem dX10_isNone_1 : decode cX10_isNone 1 = .ok (.aload_n 0, 1) := by decide +kernel
theorem dX10_isNone_2 : decode cX10_isNone 2 = .ok (.iload_n 1, 1) := by decide +kernel
theorem dX10_isNone_3 : decode cX10_isNone 3 = .ok (.invokevirtual 34, 3) := by decide +kernel
theorem dX10_isNone_6 : decode cX10_isNone 6 = .ok (.ifCond .eq 7, 3) := by decide +kernel
theorem dX10_isNone_13 : decode cX10_isNone 13 = .ok (.iconst 1, 1) := by decide +kernel
theorem dX10_isNone_14 : decode cX10_isNone 14 = .ok (.invokevirtual 38, 3) := by decide +kernel
theorem dX10_isNone_17 : decode cX10_isNone 17 = .ok (.ireturn, 1) := by decide +kernel
theorem dX10_isNoCell_0 : decode cX10_isNoCell 0 = .ok (.aload_n 0, 1) := by decide +kernel
theorem dX10_isNoCell_1 : decode cX10_isNoCell 1 = .ok (.aload_n 0, 1) := by decide +kernel
theorem dX10_isNoCell_2 : decode cX10_isNoCell 2 = .ok (.iload_n 1, 1) := by decide +kernel
theorem dX10_isNoCell_3 : decode cX10_isNoCell 3 = .ok (.invokevirtual 34, 3) := by decide +kernel
theorem dX10_isNoCell_6 : decode cX10_isNoCell 6 = .ok (.ifCond .eq 14, 3) := by decide +kernel
theorem dX10_isNoCell_20 : decode cX10_isNoCell 20 = .ok (.iconst 1, 1) := by decide +kernel
theorem dX10_isNoCell_21 : decode cX10_isNoCell 21 = .ok (.invokevirtual 38, 3) := by decide +kernel
theorem dX10_isNoCell_24 : decode cX10_isNoCell 24 = .ok (.ireturn, 1) := by decide +kernel
theorem dX10_give_0 : decode cX10_give 0 = .ok (.aload_n 0, 1) := by decide +kernel
theorem dX10_give_1 : decode cX10_give 1 = .ok (.iload_n 1, 1) := by decide +kernel
theorem dX10_give_2 : decode cX10_give 2 = .ok (.iload_n 2, 1) := by decide +kernel
theorem dX10_give_3 : decode cX10_give 3 = .ok (.invokevirtual 60, 3) := by decide +kernel
theorem dX10_give_6 : decode cX10_give 6 = .ok (.ifCond .ne 24, 3) := by decide +kernel
theorem dX10_give_30 : decode cX10_give 30 = .ok (.iconst 0, 1) := by decide +kernel
theorem dX10_give_31 : decode cX10_give 31 = .ok (.ireturn, 1) := by decide +kernel
theorem dX10_addCage_0 : decode cX10_addCage 0 = .ok (.iload_n 3, 1) := by decide +kernel
theorem dX10_addCage_1 : decode cX10_addCage 1 = .ok (.iconst 2, 1) := by decide +kernel
theorem dX10_addCage_2 : decode cX10_addCage 2 = .ok (.bipush 16, 2) := by decide +kernel
theorem dX10_addCage_4 : decode cX10_addCage 4 = .ok (.invokestatic 24, 3) := by decide +kernel
theorem dX10_addCage_7 : decode cX10_addCage 7 = .ok (.ifCond .eq 29, 3) := by decide +kernel
theorem dX10_addCage_36 : decode cX10_addCage 36 = .ok (.iconst 0, 1) := by decide +kernel
theorem dX10_addCage_37 : decode cX10_addCage 37 = .ok (.istore 4, 2) := by decide +kernel
theorem dX10_addCage_39 : decode cX10_addCage 39 = .ok (.aload_n 0, 1) := by decide +kernel
theorem dX10_addCage_40 : decode cX10_addCage 40 = .ok (.aload_n 0, 1) := by decide +kernel
theorem dX10_addCage_41 : decode cX10_addCage 41 = .ok (.iload_n 1, 1) := by decide +kernel
theorem dX10_addCage_42 : decode cX10_addCage 42 = .ok (.invokevirtual 34, 3) := by decide +kernel
theorem dX10_addCage_45 : decode cX10_addCage 45 = .ok (.ifCond .ne 7, 3) := by decide +kernel
theorem dX10_addCage_48 : decode cX10_addCage 48 = .ok (.iconst 1, 1) := by decide +kernel
theorem dX10_addCage_49 : decode cX10_addCage 49 = .ok (.goto 43, 3) := by decide +kernel
theorem dX10_addCage_92 : decode cX10_addCage 92 = .ok (.invokevirtual 38, 3) := by decide +kernel
theorem dX10_addCage_95 : decode cX10_addCage 95 = .ok (.ifCond .eq 5, 3) := by decide +kernel
theorem dX10_addCage_98 : decode cX10_addCage 98 = .ok (.iconst 0, 1) := by decide +kernel
theorem dX10_addCage_99 : decode cX10_addCage 99 = .ok (.ireturn, 1) := by decide +kernel
theorem dX10_addCage_10 : decode cX10_addCage 10 = .ok (.iload_n 2, 1) := by decide +kernel
theorem dX10_addCage_11 : decode cX10_addCage 11 = .ok (.iconst 0, 1) := by decide +kernel
theorem dX10_addCage_12 : decode cX10_addCage 12 = .ok (.ldc 67, 2) := by decide +kernel
theorem dX10_addCage_14 : decode cX10_addCage 14 = .ok (.invokestatic 24, 3) := by decide +kernel
theorem dX10_addCage_17 : decode cX10_addCage 17 = .ok (.ifCond .eq 19, 3) := by decide +kernel
theorem dX10_addCage_20 : decode cX10_addCage 20 = .ok (.iload_n 2, 1) := by decide +kernel
theorem dX10_addCage_21 : decode cX10_addCage 21 = .ok (.invokestatic 68, 3) := by decide +kernel
theorem dX10_addCage_24 : decode cX10_addCage 24 = .ok (.iconst 2, 1) := by decide +kernel
theorem dX10_addCage_25 : decode cX10_addCage 25 = .ok (.iconst 4, 1) := by decide +kernel
theorem dX10_addCage_26 : decode cX10_addCage 26 = .ok (.invokestatic 24, 3) := by decide +kernel
theorem dX10_addCage_29 : decode cX10_addCage 29 = .ok (.ifCond .eq 7, 3) := by decide +kernel
theorem dX10_addCage_32 : decode cX10_addCage 32 = .ok (.iconst 1, 1) := by decide +kernel
theorem dX10_addCage_33 : decode cX10_addCage 33 = .ok (.goto 4, 3) := by decide +kernel
theorem dX10_given_0 : decode cX10_given 0 = .ok (.aload_n 0, 1) := by decide +kernel
theorem dX10_given_1 : decode cX10_given 1 = .ok (.iload_n 1, 1) := by decide +kernel
theorem dX10_given_2 : decode cX10_given 2 = .ok (.iload_n 2, 1) := by decide +kernel
theorem dX10_given_3 : decode cX10_given 3 = .ok (.invokevirtual 60, 3) := by decide +kernel
theorem dX10_given_6 : decode cX10_given 6 = .ok (.ifCond .eq 7, 3) := by decide +kernel
theorem dX10_given_9 : decode cX10_given 9 = .ok (.iconst 0, 1) := by decide +kernel
theorem dX10_given_10 : decode cX10_given 10 = .ok (.goto 21, 3) := by decide +kernel
theorem dX10_given_31 : decode cX10_given 31 = .ok (.ireturn, 1) := by decide +kernel
theorem dX10_givens_0 : decode cX10_givens 0 = .ok (.aload_n 0, 1) := by decide +kernel
theorem dX10_givens_1 : decode cX10_givens 1 = .ok (.iload_n 1, 1) := by decide +kernel
theorem dX10_givens_2 : decode cX10_givens 2 = .ok (.invokevirtual 110, 3) := by decide +kernel
theorem dX10_givens_5 : decode cX10_givens 5 = .ok (.ifCond .eq 7, 3) := by decide +kernel
theorem dX10_givens_8 : decode cX10_givens 8 = .ok (.iconst 0, 1) := by decide +kernel
theorem dX10_givens_9 : decode cX10_givens 9 = .ok (.goto 22, 3) := by decide +kernel
theorem dX10_givens_31 : decode cX10_givens 31 = .ok (.ireturn, 1) := by decide +kernel
theorem dX10_solutions_0 : decode cX10_solutions 0 = .ok (.aload_n 0, 1) := by decide +kernel
theorem dX10_solutions_1 : decode cX10_solutions 1 = .ok (.iload_n 1, 1) := by decide +kernel
theorem dX10_solutions_2 : decode cX10_solutions 2 = .ok (.invokevirtual 110, 3) := by decide +kernel
theorem dX10_solutions_5 : decode cX10_solutions 5 = .ok (.ifCond .eq 7, 3) := by decide +kernel
theorem dX10_solutions_8 : decode cX10_solutions 8 = .ok (.iconst 0, 1) := by decide +kernel
theorem dX10_solutions_9 : decode cX10_solutions 9 = .ok (.goto 23, 3) := by decide +kernel
theorem dX10_solutions_32 : decode cX10_solutions 32 = .ok (.ireturn, 1) := by decide +kernel
theorem dX10_solution_0 : decode cX10_solution 0 = .ok (.aload_n 0, 1) := by decide +kernel
theorem dX10_solution_1 : decode cX10_solution 1 = .ok (.iload_n 1, 1) := by decide +kernel
theorem dX10_solution_2 : decode cX10_solution 2 = .ok (.iload_n 2, 1) := by decide +kernel
theorem dX10_solution_3 : decode cX10_solution 3 = .ok (.invokevirtual 60, 3) := by decide +kernel
theorem dX10_solution_6 : decode cX10_solution 6 = .ok (.ifCond .eq 5, 3) := by decide +kernel
theorem dX10_solution_9 : decode cX10_solution 9 = .ok (.iconst 0, 1) := by decide +kernel
theorem dX10_solution_10 : decode cX10_solution 10 = .ok (.ireturn, 1) := by decide +kernel
theorem dX10_solve_0 : decode cX10_solve 0 = .ok (.aload_n 0, 1) := by decide +kernel
theorem dX10_solve_1 : decode cX10_solve 1 = .ok (.iload_n 1, 1) := by decide +kernel
theorem dX10_solve_2 : decode cX10_solve 2 = .ok (.invokevirtual 110, 3) := by decide +kernel
theorem dX10_solve_5 : decode cX10_solve 5 = .ok (.ifCond .eq 7, 3) := by decide +kernel
theorem dX10_solve_8 : decode cX10_solve 8 = .ok (.iconst 0, 1) := by decide +kernel
theorem dX10_solve_9 : decode cX10_solve 9 = .ok (.goto 11, 3) := by decide +kernel
theorem dX10_solve_20 : decode cX10_solve 20 = .ok (.ireturn, 1) := by decide +kernel
theorem dX10_steps_0 : decode cX10_steps 0 = .ok (.aload_n 0, 1) := by decide +kernel
theorem dX10_steps_1 : decode cX10_steps 1 = .ok (.iload_n 1, 1) := by decide +kernel
theorem dX10_steps_2 : decode cX10_steps 2 = .ok (.invokevirtual 110, 3) := by decide +kernel
theorem dX10_steps_5 : decode cX10_steps 5 = .ok (.ifCond .eq 7, 3) := by decide +kernel
theorem dX10_steps_8 : decode cX10_steps 8 = .ok (.iconst 0, 1) := by decide +kernel
theorem dX10_steps_9 : decode cX10_steps 9 = .ok (.goto 16, 3) := by decide +kernel
theorem dX10_steps_25 : decode cX10_steps 25 = .ok (.ireturn, 1) := by decide +kernel
theorem dX10_stepAt_0 : decode cX10_stepAt 0 = .ok (.aload_n 0, 1) := by decide +kernel
theorem dX10_stepAt_1 : decode cX10_stepAt 1 = .ok (.iload_n 1, 1) := by decide +kernel
theorem dX10_stepAt_2 : decode cX10_stepAt 2 = .ok (.invokevirtual 110, 3) := by decide +kernel
theorem dX10_stepAt_5 : decode cX10_stepAt 5 = .ok (.ifCond .eq 5, 3) := by decide +kernel
theorem dX10_stepAt_8 : decode cX10_stepAt 8 = .ok (.iconst 0, 1) := by decide +kernel
theorem dX10_stepAt_9 : decode cX10_stepAt 9 = .ok (.ireturn, 1) := by decide +kernel
theorem dX10_grade_0 : decode cX10_grade 0 = .ok (.aload_n 0, 1) := by decide +kernel
theorem dX10_grade_1 : decode cX10_grade 1 = .ok (.iload_n 1, 1) := by decide +kernel
theorem dX10_grade_2 : decode cX10_grade 2 = .ok (.invokevirtual 110, 3) := by decide +kernel
theorem dX10_grade_5 : decode cX10_grade 5 = .ok (.ifCond .eq 5, 3) := by decide +kernel
theorem dX10_grade_8 : decode cX10_grade 8 = .ok (.iconst 0, 1) := by decide +kernel
theorem dX10_grade_9 : decode cX10_grade 9 = .ok (.ireturn, 1) := by decide +kernel
theorem dX10_isMinimal_0 : decode cX10_isMinimal 0 = .ok (.aload_n 0, 1) := by decide +kernel
theorem dX10_isMinimal_1 : decode cX10_isMinimal 1 = .ok (.iload_n 1, 1) := by decide +kernel
theorem dX10_isMinimal_2 : decode cX10_isMinimal 2 = .ok (.invokevirtual 110, 3) := by decide +kernel
theorem dX10_isMinimal_5 : decode cX10_isMinimal 5 = .ok (.ifCond .eq 5, 3) := by decide +kernel
theorem dX10_isMinimal_8 : decode cX10_isMinimal 8 = .ok (.iconst 0, 1) := by decide +kernel
theorem dX10_isMinimal_9 : decode cX10_isMinimal 9 = .ok (.ireturn, 1) := by decide +kernel
theorem dX10_areAlike_0 : decode cX10_areAlike 0 = .ok (.aload_n 0, 1) := by decide +kernel
theorem dX10_areAlike_1 : decode cX10_areAlike 1 = .ok (.aload_n 0, 1) := by decide +kernel
theorem dX10_areAlike_2 : decode cX10_areAlike 2 = .ok (.iload_n 1, 1) := by decide +kernel
theorem dX10_areAlike_3 : decode cX10_areAlike 3 = .ok (.invokevirtual 34, 3) := by decide +kernel
theorem dX10_areAlike_6 : decode cX10_areAlike 6 = .ok (.ifCond .eq 11, 3) := by decide +kernel
theorem dX10_areAlike_17 : decode cX10_areAlike 17 = .ok (.iconst 1, 1) := by decide +kernel
theorem dX10_areAlike_18 : decode cX10_areAlike 18 = .ok (.goto 56, 3) := by decide +kernel
theorem dX10_areAlike_74 : decode cX10_areAlike 74 = .ok (.invokevirtual 38, 3) := by decide +kernel
theorem dX10_areAlike_77 : decode cX10_areAlike 77 = .ok (.ifCond .eq 5, 3) := by decide +kernel
theorem dX10_areAlike_80 : decode cX10_areAlike 80 = .ok (.iconst 0, 1) := by decide +kernel
theorem dX10_areAlike_81 : decode cX10_areAlike 81 = .ok (.ireturn, 1) := by decide +kernel
theorem dX10_begin_0 : decode cX10_begin 0 = .ok (.aload_n 0, 1) := by decide +kernel
theorem dX10_begin_1 : decode cX10_begin 1 = .ok (.iload_n 1, 1) := by decide +kernel
theorem dX10_begin_2 : decode cX10_begin 2 = .ok (.invokevirtual 110, 3) := by decide +kernel
theorem dX10_begin_5 : decode cX10_begin 5 = .ok (.ifCond .eq 5, 3) := by decide +kernel
theorem dX10_begin_8 : decode cX10_begin 8 = .ok (.iconst 0, 1) := by decide +kernel
theorem dX10_begin_9 : decode cX10_begin 9 = .ok (.ireturn, 1) := by decide +kernel
theorem dX10_mark_0 : decode cX10_mark 0 = .ok (.aload_n 0, 1) := by decide +kernel
theorem dX10_mark_1 : decode cX10_mark 1 = .ok (.iload_n 1, 1) := by decide +kernel
theorem dX10_mark_2 : decode cX10_mark 2 = .ok (.iload_n 2, 1) := by decide +kernel
theorem dX10_mark_3 : decode cX10_mark 3 = .ok (.invokevirtual 60, 3) := by decide +kernel
theorem dX10_mark_6 : decode cX10_mark 6 = .ok (.ifCond .ne 24, 3) := by decide +kernel
theorem dX10_mark_30 : decode cX10_mark 30 = .ok (.iconst 0, 1) := by decide +kernel
theorem dX10_mark_31 : decode cX10_mark 31 = .ok (.ireturn, 1) := by decide +kernel
theorem dX10_marked_0 : decode cX10_marked 0 = .ok (.aload_n 0, 1) := by decide +kernel
theorem dX10_marked_1 : decode cX10_marked 1 = .ok (.iload_n 1, 1) := by decide +kernel
theorem dX10_marked_2 : decode cX10_marked 2 = .ok (.iload_n 2, 1) := by decide +kernel
theorem dX10_marked_3 : decode cX10_marked 3 = .ok (.invokevirtual 60, 3) := by decide +kernel
theorem dX10_marked_6 : decode cX10_marked 6 = .ok (.ifCond .eq 7, 3) := by decide +kernel
theorem dX10_marked_9 : decode cX10_marked 9 = .ok (.iconst 0, 1) := by decide +kernel
theorem dX10_marked_10 : decode cX10_marked 10 = .ok (.goto 21, 3) := by decide +kernel
theorem dX10_marked_31 : decode cX10_marked 31 = .ok (.ireturn, 1) := by decide +kernel
theorem dX10_wrong__0 : decode cX10_wrong_ 0 = .ok (.aload_n 0, 1) := by decide +kernel
theorem dX10_wrong__1 : decode cX10_wrong_ 1 = .ok (.iload_n 1, 1) := by decide +kernel
theorem dX10_wrong__2 : decode cX10_wrong_ 2 = .ok (.invokevirtual 110, 3) := by decide +kernel
theorem dX10_wrong__5 : decode cX10_wrong_ 5 = .ok (.ifCond .eq 5, 3) := by decide +kernel
theorem dX10_wrong__8 : decode cX10_wrong_ 8 = .ok (.iconst 0, 1) := by decide +kernel
theorem dX10_wrong__9 : decode cX10_wrong_ 9 = .ok (.ireturn, 1) := by decide +kernel
theorem dX10_hint_0 : decode cX10_hint 0 = .ok (.aload_n 0, 1) := by decide +kernel
theorem dX10_hint_1 : decode cX10_hint 1 = .ok (.iload_n 1, 1) := by decide +kernel
theorem dX10_hint_2 : decode cX10_hint 2 = .ok (.invokevirtual 110, 3) := by decide +kernel
theorem dX10_hint_5 : decode cX10_hint 5 = .ok (.ifCond .eq 5, 3) := by decide +kernel
theorem dX10_hint_8 : decode cX10_hint 8 = .ok (.iconst 0, 1) := by decide +kernel
theorem dX10_hint_9 : decode cX10_hint 9 = .ok (.ireturn, 1) := by decide +kernel
theorem dX10_tell_0 : decode cX10_tell 0 = .ok (.aload_n 0, 1) := by decide +kernel
theorem dX10_tell_1 : decode cX10_tell 1 = .ok (.iload_n 2, 1) := by decide +kernel
theorem dX10_tell_2 : decode cX10_tell 2 = .ok (.invokestatic 41, 3) := by decide +kernel
theorem dX10_tell_5 : decode cX10_tell 5 = .ok (.ifCond .ne 7, 3) := by decide +kernel
theorem dX10_tell_8 : decode cX10_tell 8 = .ok (.iconst 1, 1) := by decide +kernel
theorem dX10_tell_9 : decode cX10_tell 9 = .ok (.goto 37, 3) := by decide +kernel
theorem dX10_tell_46 : decode cX10_tell 46 = .ok (.invokevirtual 38, 3) := by decide +kernel
theorem dX10_tell_49 : decode cX10_tell 49 = .ok (.ifCond .eq 5, 3) := by decide +kernel
theorem dX10_tell_52 : decode cX10_tell 52 = .ok (.iconst 0, 1) := by decide +kernel
theorem dX10_tell_53 : decode cX10_tell 53 = .ok (.ireturn, 1) := by decide +kernel
theorem dX10_tell_12 : decode cX10_tell 12 = .ok (.iload_n 1, 1) := by decide +kernel
theorem dX10_tell_13 : decode cX10_tell 13 = .ok (.iconst 0, 1) := by decide +kernel
theorem dX10_tell_14 : decode cX10_tell 14 = .ok (.iconst 4, 1) := by decide +kernel
theorem dX10_tell_15 : decode cX10_tell 15 = .ok (.invokestatic 24, 3) := by decide +kernel
theorem dX10_tell_18 : decode cX10_tell 18 = .ok (.ifCond .eq 12, 3) := by decide +kernel
theorem dX10_tell_30 : decode cX10_tell 30 = .ok (.iconst 2, 1) := by decide +kernel
theorem dX10_tell_31 : decode cX10_tell 31 = .ok (.goto 15, 3) := by decide +kernel
theorem dX10_tell_21 : decode cX10_tell 21 = .ok (.iload_n 3, 1) := by decide +kernel
theorem dX10_tell_22 : decode cX10_tell 22 = .ok (.iconst 1, 1) := by decide +kernel
theorem dX10_tell_23 : decode cX10_tell 23 = .ok (.iconst 4, 1) := by decide +kernel
theorem dX10_tell_24 : decode cX10_tell 24 = .ok (.invokestatic 24, 3) := by decide +kernel
theorem dX10_tell_27 : decode cX10_tell 27 = .ok (.ifCond .ne 7, 3) := by decide +kernel
theorem dX10_tell_34 : decode cX10_tell 34 = .ok (.aload_n 0, 1) := by decide +kernel
theorem dX10_tell_35 : decode cX10_tell 35 = .ok (.getfield 159, 3) := by decide +kernel
theorem dX10_tell_38 : decode cX10_tell 38 = .ok (.ifnonnull 7, 3) := by decide +kernel
theorem dX10_tell_41 : decode cX10_tell 41 = .ok (.iconst 3, 1) := by decide +kernel
theorem dX10_tell_42 : decode cX10_tell 42 = .ok (.goto 4, 3) := by decide +kernel
theorem dX10_candidates_0 : decode cX10_candidates 0 = .ok (.aload_n 0, 1) := by decide +kernel
theorem dX10_candidates_1 : decode cX10_candidates 1 = .ok (.iload_n 1, 1) := by decide +kernel
theorem dX10_candidates_2 : decode cX10_candidates 2 = .ok (.invokestatic 41, 3) := by decide +kernel
theorem dX10_candidates_5 : decode cX10_candidates 5 = .ok (.ifCond .ne 7, 3) := by decide +kernel
theorem dX10_candidates_8 : decode cX10_candidates 8 = .ok (.iconst 1, 1) := by decide +kernel
theorem dX10_candidates_9 : decode cX10_candidates 9 = .ok (.goto 15, 3) := by decide +kernel
theorem dX10_candidates_24 : decode cX10_candidates 24 = .ok (.invokevirtual 38, 3) := by decide +kernel
theorem dX10_candidates_27 : decode cX10_candidates 27 = .ok (.ifCond .eq 7, 3) := by decide +kernel
theorem dX10_candidates_30 : decode cX10_candidates 30 = .ok (.iconst 0, 1) := by decide +kernel
theorem dX10_candidates_31 : decode cX10_candidates 31 = .ok (.goto 9, 3) := by decide +kernel
theorem dX10_candidates_40 : decode cX10_candidates 40 = .ok (.ireturn, 1) := by decide +kernel
theorem dX10_candidates_12 : decode cX10_candidates 12 = .ok (.aload_n 0, 1) := by decide +kernel
theorem dX10_candidates_13 : decode cX10_candidates 13 = .ok (.getfield 159, 3) := by decide +kernel
theorem dX10_candidates_16 : decode cX10_candidates 16 = .ok (.ifnonnull 7, 3) := by decide +kernel
theorem dX10_candidates_19 : decode cX10_candidates 19 = .ok (.iconst 2, 1) := by decide +kernel
theorem dX10_candidates_20 : decode cX10_candidates 20 = .ok (.goto 4, 3) := by decide +kernel
theorem dX10_isWhole_0 : decode cX10_isWhole 0 = .ok (.aload_n 0, 1) := by decide +kernel
theorem dX10_isWhole_1 : decode cX10_isWhole 1 = .ok (.aload_n 0, 1) := by decide +kernel
theorem dX10_isWhole_2 : decode cX10_isWhole 2 = .ok (.getfield 159, 3) := by decide +kernel
theorem dX10_isWhole_5 : decode cX10_isWhole 5 = .ok (.ifnonnull 7, 3) := by decide +kernel
theorem dX10_isWhole_8 : decode cX10_isWhole 8 = .ok (.iconst 1, 1) := by decide +kernel
theorem dX10_isWhole_9 : decode cX10_isWhole 9 = .ok (.goto 4, 3) := by decide +kernel
theorem dX10_isWhole_13 : decode cX10_isWhole 13 = .ok (.invokevirtual 38, 3) := by decide +kernel
theorem dX10_isWhole_16 : decode cX10_isWhole 16 = .ok (.ifCond .eq 5, 3) := by decide +kernel
theorem dX10_isWhole_19 : decode cX10_isWhole 19 = .ok (.iconst 0, 1) := by decide +kernel
theorem dX10_isWhole_20 : decode cX10_isWhole 20 = .ok (.ireturn, 1) := by decide +kernel
theorem dX10_isSound_0 : decode cX10_isSound 0 = .ok (.aload_n 0, 1) := by decide +kernel
theorem dX10_isSound_1 : decode cX10_isSound 1 = .ok (.iconst 0, 1) := by decide +kernel
theorem dX10_isSound_2 : decode cX10_isSound 2 = .ok (.putfield 20, 3) := by decide +kernel
theorem dX10_isSound_5 : decode cX10_isSound 5 = .ok (.iconst 1, 1) := by decide +kernel
theorem dX10_isSound_6 : decode cX10_isSound 6 = .ok (.ireturn, 1) := by decide +kernel
theorem dX10_reason_0 : decode cX10_reason 0 = .ok (.aload_n 0, 1) := by decide +kernel
theorem dX10_reason_1 : decode cX10_reason 1 = .ok (.iconst 0, 1) := by decide +kernel
theorem dX10_reason_2 : decode cX10_reason 2 = .ok (.putfield 20, 3) := by decide +kernel
theorem dX10_reason_5 : decode cX10_reason 5 = .ok (.aload_n 0, 1) := by decide +kernel
theorem dX10_reason_6 : decode cX10_reason 6 = .ok (.getfield 169, 3) := by decide +kernel
theorem dX10_reason_9 : decode cX10_reason 9 = .ok (.ireturn, 1) := by decide +kernel
set_option maxHeartbeats 4000000 in
set_option maxRecDepth 100000 in
theorem c_X10_thrown (l : Launch) (G : GG) (mo : Nat) (tn : Nat) (al : Nat) (zn : Nat) (pf : Nat) (rs : Int32) : Mi l G yX10_thrown cX10_thrown 1 (some .int) ({ frames := 0, cells := 0, slots := 0, locals := 0 } : Room) [.ref mo] [(mo, .inr (15, [.int (nI tn), .ref al, .long (lN zn), .null, .ref pf, .int rs]))] (fun (r : Int32) (u : Unit) => r = nI tn) (fun (u : Unit) => [(mo, .inr (15, [.int (nI tn), .ref al, .long (lN zn), .null, .ref pf, .int rs]))]) := by
  intro sz
  refine Met.ofW (cc := cX10_thrown) (maxL := 1) (ret := (some .int)) (by decide) rfl ?_
  intro p e s m args below meth c s₁ B9 hml hv
  obtain ⟨rfl, hsz, hP, hK, hD0, hE⟩ := hv
  have hx := B9.exec
  have hb := B9.bytes
  have hr := B9.returns
  have hts : ∀ w ∈ WW, w.before ([.ref mo] : List Value).toArray s = true := fun w h => atoms_spec (ws := .code yX10_thrown cX10_thrown 1 (some .int) :: WW) B9.pre w (List.mem_cons_of_mem _ h)
  have hown : s.vm.findClass RX10 = some m.cls := findClass_of_methodNamed B9.named
  subst hsz
  have hD := hD0.self (sz := s.heap.size)
  generalize hAe : va_A [(mo, .inr (15, [.int (nI tn), .ref al, .long (lN zn), .null, .ref pf, .int rs]))] s.heap.size = A at hD hE ⊢
  have hA : ∀ q : Nat, s.heap.size ≤ q → A q := fun q h => by rw [← hAe]; exact Or.inr h
  have hl := lv_entry ([.ref mo]) (n := 1) (Nat.le_of_ble_eq_true rfl)
  rw [lg_entry_eq]
  generalize (lg_sl ([.ref mo]) ++ List.replicate (1 - (lg_sl ([.ref mo])).length) Slot.unset).toArray = ls at hl ⊢
  have hl : lv_has ls 1 [(0, .ref mo)] := hl
  refine qgen (fun Q hQ => ?_)
  refine hgen (fun H locs hP hD hS => ?_) hP hD
  refine lv_aload_n hx hb dX10_thrown_0 rfl (lv_at hl 0 rfl) ?_
  refine va_get (D := gD G) (ci := 15) (v := .int (nI tn)) (C := RX10) (T := TX10) (N := 6) hx hb hts fwX10 hown hK hP 0 rfl rfl 0 (by decide) (hts _ q927) (fun _ h9 => h9) rfl dX10_thrown_1 ?_
  have hP9 := hP.sub (ws' := [(mo, .inr (15, [.int (nI tn), .ref al, .long (lN zn), .null, .ref pf, .int rs]))]) [0] rfl
  have hD9 := hD.sub (ws' := [(mo, .inr (15, [.int (nI tn), .ref al, .long (lN zn), .null, .ref pf, .int rs]))]) [0] (by decide) rfl
  subst hQ
  exact W.iret (v := nI tn) hx hb hr (fun t ht hW => ⟨⟨nI tn, (), rfl, rfl, by rw [ht]; exact hP9, hD9⟩, hS.F ht⟩) hS.2.2 dX10_thrown_4
set_option maxHeartbeats 4000000 in
set_option maxRecDepth 100000 in
theorem c_isWrong_0 (l : Launch) (G : GG) (mo : Nat) (th : Int32) (al : Nat) (zn : Nat) (pf : Nat) (rs : Int32) : Mi l G yX10_isWrong cX10_isWrong 2 (some .boolean) ({ frames := 0, cells := 0, slots := 0, locals := 0 } : Room) [.ref mo, .int (nI 0)] [(mo, .inr (15, [.int th, .ref al, .long (lN zn), .null, .ref pf, .int rs]))] (fun (r : Int32) (u : Unit) => r = nI 0) (fun (u : Unit) => [(mo, .inr (15, [.int (nI 0), .ref al, .long (lN zn), .null, .ref pf, .int rs]))]) := by
  intro sz
  refine Met.ofW (cc := cX10_isWrong) (maxL := 2) (ret := (some .boolean)) (by decide) rfl ?_
  intro p e s m args below meth c s₁ B9 hml hv
  obtain ⟨rfl, hsz, hP, hK, hD0, hE⟩ := hv
  have hx := B9.exec
  have hb := B9.bytes
  have hr := B9.returns
  have hts : ∀ w ∈ WW, w.before ([.ref mo, .int (nI 0)] : List Value).toArray s = true := fun w h => atoms_spec (ws := .code yX10_isWrong cX10_isWrong 2 (some .boolean) :: WW) B9.pre w (List.mem_cons_of_mem _ h)
  have hown : s.vm.findClass RX10 = some m.cls := findClass_of_methodNamed B9.named
  subst hsz
  have hD := hD0.self (sz := s.heap.size)
  generalize hAe : va_A [(mo, .inr (15, [.int th, .ref al, .long (lN zn), .null, .ref pf, .int rs]))] s.heap.size = A at hD hE ⊢
  have hA : ∀ q : Nat, s.heap.size ≤ q → A q := fun q h => by rw [← hAe]; exact Or.inr h
  have hl := lv_entry ([.ref mo, .int (nI 0)]) (n := 2) (Nat.le_of_ble_eq_true rfl)
  rw [lg_entry_eq]
  generalize (lg_sl ([.ref mo, .int (nI 0)]) ++ List.replicate (2 - (lg_sl ([.ref mo, .int (nI 0)])).length) Slot.unset).toArray = ls at hl ⊢
  have hl : lv_has ls 2 [(0, .ref mo), (1, .int (nI 0))] := hl
  refine qgen (fun Q hQ => ?_)
  refine hgen (fun H locs hP hD hS => ?_) hP hD
  refine lv_aload_n hx hb dX10_isWrong_0 rfl (lv_at hl 0 rfl) ?_
  refine lv_iload_n hx hb dX10_isWrong_1 rfl (lv_at hl 1 rfl) ?_
  refine va_put (D := gD G) (ci := 15) (v := .int (nI 0)) (ty := .int) (C := RX10) (T := TX10) (N := 6) hx hb hts fwX10 tyX10 tyX10_ok nmX10 hown hK hP hD hS 0 rfl rfl 0 (by decide) (hts _ q927) (fun _ h9 => h9) rfl (by decide +kernel) rfl rfl (Nat.le_of_ble_eq_true rfl) dX10_isWrong_2 (fun H locs hP hD hS => ?_)
  have hP : va_P (gD G) vwCl [(mo, .inr (15, [.int (nI 0), .ref al, .long (lN zn), .null, .ref pf, .int rs]))] H := hP
  have hD : va_D A [(mo, .inr (15, [.int (nI 0), .ref al, .long (lN zn), .null, .ref pf, .int rs]))] := hD
  refine lv_iload_n hx hb dX10_isWrong_5 rfl (lv_at hl 1 rfl) ?_
  refine lv_if_le (tgt := 13) hx hb dX10_isWrong_6 (by decide) (fun c_1 => ?_) (fun c_1 => ?_)
  · skip
    have c_1 : 0 ≤ 0 := (nI_leI (a := 0) (b := 0) (by omega) (by omega)).mp c_1
    refine lv_iconst (v := nI 0) hx hb dX10_isWrong_13 (by decide) ?_
    have hP9 := hP.sub (ws' := [(mo, .inr (15, [.int (nI 0), .ref al, .long (lN zn), .null, .ref pf, .int rs]))]) [0] rfl
    have hD9 := hD.sub (ws' := [(mo, .inr (15, [.int (nI 0), .ref al, .long (lN zn), .null, .ref pf, .int rs]))]) [0] (by decide) rfl
    subst hQ
    exact W.zret (v := nI 0) hx hb hr (by decide) (fun t ht hW => ⟨⟨nI 0, (), rfl, rfl, by rw [ht]; exact hP9, hD9⟩, hS.F ht⟩) hS.2.2 dX10_isWrong_14
  · skip
    have c_1 : ¬ 0 ≤ 0 := fun z => c_1 ((nI_leI (a := 0) (b := 0) (by omega) (by omega)).mpr z)
    exact absurd c_1 (by decide)
set_option maxHeartbeats 4000000 in
set_option maxRecDepth 100000 in
theorem c_isWrong_k (l : Launch) (G : GG) (mo : Nat) (th : Int32) (al : Nat) (zn : Nat) (pf : Nat) (rs : Int32) (k : Nat) (hk1 : 1 ≤ k) (hk4 : k ≤ 4) : Mi l G yX10_isWrong cX10_isWrong 2 (some .boolean) ({ frames := 0, cells := 0, slots := 0, locals := 0 } : Room) [.ref mo, .int (nI k)] [(mo, .inr (15, [.int th, .ref al, .long (lN zn), .null, .ref pf, .int rs]))] (fun (r : Int32) (u : Unit) => r = nI 1) (fun (u : Unit) => [(mo, .inr (15, [.int (nI k), .ref al, .long (lN zn), .null, .ref pf, .int rs]))]) := by
  intro sz
  refine Met.ofW (cc := cX10_isWrong) (maxL := 2) (ret := (some .boolean)) (by decide) rfl ?_
  intro p e s m args below meth c s₁ B9 hml hv
  obtain ⟨rfl, hsz, hP, hK, hD0, hE⟩ := hv
  have hx := B9.exec
  have hb := B9.bytes
  have hr := B9.returns
  have hts : ∀ w ∈ WW, w.before ([.ref mo, .int (nI k)] : List Value).toArray s = true := fun w h => atoms_spec (ws := .code yX10_isWrong cX10_isWrong 2 (some .boolean) :: WW) B9.pre w (List.mem_cons_of_mem _ h)
  have hown : s.vm.findClass RX10 = some m.cls := findClass_of_methodNamed B9.named
  subst hsz
  have hD := hD0.self (sz := s.heap.size)
  generalize hAe : va_A [(mo, .inr (15, [.int th, .ref al, .long (lN zn), .null, .ref pf, .int rs]))] s.heap.size = A at hD hE ⊢
  have hA : ∀ q : Nat, s.heap.size ≤ q → A q := fun q h => by rw [← hAe]; exact Or.inr h
  have hl := lv_entry ([.ref mo, .int (nI k)]) (n := 2) (Nat.le_of_ble_eq_true rfl)
  rw [lg_entry_eq]
  generalize (lg_sl ([.ref mo, .int (nI k)]) ++ List.replicate (2 - (lg_sl ([.ref mo, .int (nI k)])).length) Slot.unset).toArray = ls at hl ⊢
  have hl : lv_has ls 2 [(0, .ref mo), (1, .int (nI k))] := hl
  refine qgen (fun Q hQ => ?_)
  refine hgen (fun H locs hP hD hS => ?_) hP hD
  refine lv_aload_n hx hb dX10_isWrong_0 rfl (lv_at hl 0 rfl) ?_
  refine lv_iload_n hx hb dX10_isWrong_1 rfl (lv_at hl 1 rfl) ?_
  refine va_put (D := gD G) (ci := 15) (v := .int (nI k)) (ty := .int) (C := RX10) (T := TX10) (N := 6) hx hb hts fwX10 tyX10 tyX10_ok nmX10 hown hK hP hD hS 0 rfl rfl 0 (by decide) (hts _ q927) (fun _ h9 => h9) rfl (by decide +kernel) rfl rfl (Nat.le_of_ble_eq_true rfl) dX10_isWrong_2 (fun H locs hP hD hS => ?_)
  have hP : va_P (gD G) vwCl [(mo, .inr (15, [.int (nI k), .ref al, .long (lN zn), .null, .ref pf, .int rs]))] H := hP
  have hD : va_D A [(mo, .inr (15, [.int (nI k), .ref al, .long (lN zn), .null, .ref pf, .int rs]))] := hD
  refine lv_iload_n hx hb dX10_isWrong_5 rfl (lv_at hl 1 rfl) ?_
  refine lv_if_le (tgt := 13) hx hb dX10_isWrong_6 (by decide) (fun c_1 => ?_) (fun c_1 => ?_)
  · skip
    have c_1 : k ≤ 0 := (nI_leI (a := k) (b := 0) (by omega) (by omega)).mp c_1
    exfalso; omega
  · skip
    have c_1 : ¬ k ≤ 0 := fun z => c_1 ((nI_leI (a := k) (b := 0) (by omega) (by omega)).mpr z)
    refine lv_iconst (v := nI 1) hx hb dX10_isWrong_9 (by decide) ?_
    refine lv_goto (tgt := 14) hx hb dX10_isWrong_10 (by decide) ?_
    have hP9 := hP.sub (ws' := [(mo, .inr (15, [.int (nI k), .ref al, .long (lN zn), .null, .ref pf, .int rs]))]) [0] rfl
    have hD9 := hD.sub (ws' := [(mo, .inr (15, [.int (nI k), .ref al, .long (lN zn), .null, .ref pf, .int rs]))]) [0] (by decide) rfl
    subst hQ
    exact W.zret (v := nI 1) hx hb hr (by decide) (fun t ht hW => ⟨⟨nI 1, (), rfl, rfl, by rw [ht]; exact hP9, hD9⟩, hS.F ht⟩) hS.2.2 dX10_isWrong_14
set_option maxHeartbeats 4000000 in
set_option maxRecDepth 100000 in
theorem c_isBetween_ok (l : Launch) (G : GG) (v : Nat) (lo : Nat) (hi : Nat) (h1 : lo ≤ v) (h2 : v ≤ hi) (h3 : hi < 65536) : Mi l G yX10_isBetween cX10_isBetween 3 (some .boolean) ({ frames := 0, cells := 0, slots := 0, locals := 0 } : Room) [.int (nI v), .int (nI lo), .int (nI hi)] [] (fun (r : Int32) (u : Unit) => r = nI 1) (fun (u : Unit) => []) := by
  intro sz
  refine Met.ofW (cc := cX10_isBetween) (maxL := 3) (ret := (some .boolean)) (by decide) rfl ?_
  intro p e s m args below meth c s₁ B9 hml hv
  obtain ⟨rfl, hsz, hP, hK, hD0, hE⟩ := hv
  have hx := B9.exec
  have hb := B9.bytes
  have hr := B9.returns
  have hts : ∀ w ∈ WW, w.before ([.int (nI v), .int (nI lo), .int (nI hi)] : List Value).toArray s = true := fun w h => atoms_spec (ws := .code yX10_isBetween cX10_isBetween 3 (some .boolean) :: WW) B9.pre w (List.mem_cons_of_mem _ h)
  have hown : s.vm.findClass RX10 = some m.cls := findClass_of_methodNamed B9.named
  subst hsz
  have hD := hD0.self (sz := s.heap.size)
  generalize hAe : va_A [] s.heap.size = A at hD hE ⊢
  have hA : ∀ q : Nat, s.heap.size ≤ q → A q := fun q h => by rw [← hAe]; exact Or.inr h
  have hl := lv_entry ([.int (nI v), .int (nI lo), .int (nI hi)]) (n := 3) (Nat.le_of_ble_eq_true rfl)
  rw [lg_entry_eq]
  generalize (lg_sl ([.int (nI v), .int (nI lo), .int (nI hi)]) ++ List.replicate (3 - (lg_sl ([.int (nI v), .int (nI lo), .int (nI hi)])).length) Slot.unset).toArray = ls at hl ⊢
  have hl : lv_has ls 3 [(0, .int (nI v)), (1, .int (nI lo)), (2, .int (nI hi))] := hl
  refine qgen (fun Q hQ => ?_)
  refine hgen (fun H locs hP hD hS => ?_) hP hD
  refine lv_iload_n hx hb dX10_isBetween_0 rfl (lv_at hl 1 rfl) ?_
  refine lv_iload_n hx hb dX10_isBetween_1 rfl (lv_at hl 0 rfl) ?_
  refine lv_icmp_gt (tgt := 14) hx hb dX10_isBetween_2 (by decide) (fun c_1 => ?_) (fun c_1 => ?_)
  · skip
    have c_1 : v < lo := (nI_ltI (a := v) (b := lo) (by omega) (by omega)).mp c_1
    exfalso; omega
  · skip
    have c_1 : ¬ v < lo := fun z => c_1 ((nI_ltI (a := v) (b := lo) (by omega) (by omega)).mpr z)
    refine lv_iload_n hx hb dX10_isBetween_5 rfl (lv_at hl 0 rfl) ?_
    refine lv_iload_n hx hb dX10_isBetween_6 rfl (lv_at hl 2 rfl) ?_
    refine lv_icmp_gt (tgt := 14) hx hb dX10_isBetween_7 (by decide) (fun c_2 => ?_) (fun c_2 => ?_)
    · skip
      have c_2 : hi < v := (nI_ltI (a := hi) (b := v) (by omega) (by omega)).mp c_2
      exfalso; omega
    · skip
      have c_2 : ¬ hi < v := fun z => c_2 ((nI_ltI (a := hi) (b := v) (by omega) (by omega)).mpr z)
      refine lv_iconst (v := nI 1) hx hb dX10_isBetween_10 (by decide) ?_
      refine lv_goto (tgt := 15) hx hb dX10_isBetween_11 (by decide) ?_
      have hP9 := hP.sub (ws' := []) [] rfl
      have hD9 := hD.sub (ws' := []) [] (by decide) rfl
      subst hQ
      exact W.zret (v := nI 1) hx hb hr (by decide) (fun t ht hW => ⟨⟨nI 1, (), rfl, rfl, by rw [ht]; exact hP9, hD9⟩, hS.F ht⟩) hS.2.2 dX10_isBetween_15
set_option maxHeartbeats 4000000 in
set_option maxRecDepth 100000 in
theorem c_isBetween_neg (l : Launch) (G : GG) (v : Int32) : Mi l G yX10_isBetween cX10_isBetween 3 (some .boolean) ({ frames := 0, cells := 0, slots := 0, locals := 0 } : Room) [.int v, .int (nI 0), .int (-1)] [] (fun (r : Int32) (u : Unit) => r = nI 0) (fun (u : Unit) => []) := by
  intro sz
  refine Met.ofW (cc := cX10_isBetween) (maxL := 3) (ret := (some .boolean)) (by decide) rfl ?_
  intro p e s m args below meth c s₁ B9 hml hv
  obtain ⟨rfl, hsz, hP, hK, hD0, hE⟩ := hv
  have hx := B9.exec
  have hb := B9.bytes
  have hr := B9.returns
  have hts : ∀ w ∈ WW, w.before ([.int v, .int (nI 0), .int (-1)] : List Value).toArray s = true := fun w h => atoms_spec (ws := .code yX10_isBetween cX10_isBetween 3 (some .boolean) :: WW) B9.pre w (List.mem_cons_of_mem _ h)
  have hown : s.vm.findClass RX10 = some m.cls := findClass_of_methodNamed B9.named
  subst hsz
  have hD := hD0.self (sz := s.heap.size)
  generalize hAe : va_A [] s.heap.size = A at hD hE ⊢
  have hA : ∀ q : Nat, s.heap.size ≤ q → A q := fun q h => by rw [← hAe]; exact Or.inr h
  have hl := lv_entry ([.int v, .int (nI 0), .int (-1)]) (n := 3) (Nat.le_of_ble_eq_true rfl)
  rw [lg_entry_eq]
  generalize (lg_sl ([.int v, .int (nI 0), .int (-1)]) ++ List.replicate (3 - (lg_sl ([.int v, .int (nI 0), .int (-1)])).length) Slot.unset).toArray = ls at hl ⊢
  have hl : lv_has ls 3 [(0, .int v), (1, .int (nI 0)), (2, .int (-1))] := hl
  refine qgen (fun Q hQ => ?_)
  refine hgen (fun H locs hP hD hS => ?_) hP hD
  refine lv_iload_n hx hb dX10_isBetween_0 rfl (lv_at hl 1 rfl) ?_
  refine lv_iload_n hx hb dX10_isBetween_1 rfl (lv_at hl 0 rfl) ?_
  refine lv_icmp_gt (tgt := 14) hx hb dX10_isBetween_2 (by decide) (fun c_1 => ?_) (fun c_1 => ?_)
  · skip
    refine lv_iconst (v := nI 0) hx hb dX10_isBetween_14 (by decide) ?_
    have hP9 := hP.sub (ws' := []) [] rfl
    have hD9 := hD.sub (ws' := []) [] (by decide) rfl
    subst hQ
    exact W.zret (v := nI 0) hx hb hr (by decide) (fun t ht hW => ⟨⟨nI 0, (), rfl, rfl, by rw [ht]; exact hP9, hD9⟩, hS.F ht⟩) hS.2.2 dX10_isBetween_15
  · skip
    refine lv_iload_n hx hb dX10_isBetween_5 rfl (lv_at hl 0 rfl) ?_
    refine lv_iload_n hx hb dX10_isBetween_6 rfl (lv_at hl 2 rfl) ?_
    refine lv_icmp_gt (tgt := 14) hx hb dX10_isBetween_7 (by decide) (fun c_2 => ?_) (fun c_2 => ?_)
    · skip
      refine lv_iconst (v := nI 0) hx hb dX10_isBetween_14 (by decide) ?_
      have hP9 := hP.sub (ws' := []) [] rfl
      have hD9 := hD.sub (ws' := []) [] (by decide) rfl
      subst hQ
      exact W.zret (v := nI 0) hx hb hr (by decide) (fun t ht hW => ⟨⟨nI 0, (), rfl, rfl, by rw [ht]; exact hP9, hD9⟩, hS.F ht⟩) hS.2.2 dX10_isBetween_15
    · skip
      exact False.elim (noneg c_1 c_2)
set_option maxHeartbeats 4000000 in
set_option maxRecDepth 100000 in
theorem c_isBetween_bad (l : Launch) (G : GG) (v : Int32) (lo : Nat) (hi : Nat) (hbad : v < nI lo ∨ nI hi < v) : Mi l G yX10_isBetween cX10_isBetween 3 (some .boolean) ({ frames := 0, cells := 0, slots := 0, locals := 0 } : Room) [.int v, .int (nI lo), .int (nI hi)] [] (fun (r : Int32) (u : Unit) => r = nI 0) (fun (u : Unit) => []) := by
  intro sz
  refine Met.ofW (cc := cX10_isBetween) (maxL := 3) (ret := (some .boolean)) (by decide) rfl ?_
  intro p e s m args below meth c s₁ B9 hml hv
  obtain ⟨rfl, hsz, hP, hK, hD0, hE⟩ := hv
  have hx := B9.exec
  have hb := B9.bytes
  have hr := B9.returns
  have hts : ∀ w ∈ WW, w.before ([.int v, .int (nI lo), .int (nI hi)] : List Value).toArray s = true := fun w h => atoms_spec (ws := .code yX10_isBetween cX10_isBetween 3 (some .boolean) :: WW) B9.pre w (List.mem_cons_of_mem _ h)
  have hown : s.vm.findClass RX10 = some m.cls := findClass_of_methodNamed B9.named
  subst hsz
  have hD := hD0.self (sz := s.heap.size)
  generalize hAe : va_A [] s.heap.size = A at hD hE ⊢
  have hA : ∀ q : Nat, s.heap.size ≤ q → A q := fun q h => by rw [← hAe]; exact Or.inr h
  have hl := lv_entry ([.int v, .int (nI lo), .int (nI hi)]) (n := 3) (Nat.le_of_ble_eq_true rfl)
  rw [lg_entry_eq]
  generalize (lg_sl ([.int v, .int (nI lo), .int (nI hi)]) ++ List.replicate (3 - (lg_sl ([.int v, .int (nI lo), .int (nI hi)])).length) Slot.unset).toArray = ls at hl ⊢
  have hl : lv_has ls 3 [(0, .int v), (1, .int (nI lo)), (2, .int (nI hi))] := hl
  refine qgen (fun Q hQ => ?_)
  refine hgen (fun H locs hP hD hS => ?_) hP hD
  refine lv_iload_n hx hb dX10_isBetween_0 rfl (lv_at hl 1 rfl) ?_
  refine lv_iload_n hx hb dX10_isBetween_1 rfl (lv_at hl 0 rfl) ?_
  refine lv_icmp_gt (tgt := 14) hx hb dX10_isBetween_2 (by decide) (fun c_1 => ?_) (fun c_1 => ?_)
  · skip
    refine lv_iconst (v := nI 0) hx hb dX10_isBetween_14 (by decide) ?_
    have hP9 := hP.sub (ws' := []) [] rfl
    have hD9 := hD.sub (ws' := []) [] (by decide) rfl
    subst hQ
    exact W.zret (v := nI 0) hx hb hr (by decide) (fun t ht hW => ⟨⟨nI 0, (), rfl, rfl, by rw [ht]; exact hP9, hD9⟩, hS.F ht⟩) hS.2.2 dX10_isBetween_15
  · skip
    refine lv_iload_n hx hb dX10_isBetween_5 rfl (lv_at hl 0 rfl) ?_
    refine lv_iload_n hx hb dX10_isBetween_6 rfl (lv_at hl 2 rfl) ?_
    refine lv_icmp_gt (tgt := 14) hx hb dX10_isBetween_7 (by decide) (fun c_2 => ?_) (fun c_2 => ?_)
    · skip
      refine lv_iconst (v := nI 0) hx hb dX10_isBetween_14 (by decide) ?_
      have hP9 := hP.sub (ws' := []) [] rfl
      have hD9 := hD.sub (ws' := []) [] (by decide) rfl
      subst hQ
      exact W.zret (v := nI 0) hx hb hr (by decide) (fun t ht hW => ⟨⟨nI 0, (), rfl, rfl, by rw [ht]; exact hP9, hD9⟩, hS.F ht⟩) hS.2.2 dX10_isBetween_15
    · skip
      exact False.elim (hbad.elim c_1 c_2)
set_option maxHeartbeats 4000000 in
set_option maxRecDepth 100000 in
theorem c_isBetween_any (l : Launch) (G : GG) (v : Int32) (lo : Int32) (hi : Int32) : Mi l G yX10_isBetween cX10_isBetween 3 (some .boolean) ({ frames := 0, cells := 0, slots := 0, locals := 0 } : Room) [.int v, .int lo, .int hi] [] (fun (r : Int32) (u : Unit) => True) (fun (u : Unit) => []) := by
  intro sz
  refine Met.ofW (cc := cX10_isBetween) (maxL := 3) (ret := (some .boolean)) (by decide) rfl ?_
  intro p e s m args below meth c s₁ B9 hml hv
  obtain ⟨rfl, hsz, hP, hK, hD0, hE⟩ := hv
  have hx := B9.exec
  have hb := B9.bytes
  have hr := B9.returns
  have hts : ∀ w ∈ WW, w.before ([.int v, .int lo, .int hi] : List Value).toArray s = true := fun w h => atoms_spec (ws := .code yX10_isBetween cX10_isBetween 3 (some .boolean) :: WW) B9.pre w (List.mem_cons_of_mem _ h)
  have hown : s.vm.findClass RX10 = some m.cls := findClass_of_methodNamed B9.named
  subst hsz
  have hD := hD0.self (sz := s.heap.size)
  generalize hAe : va_A [] s.heap.size = A at hD hE ⊢
  have hA : ∀ q : Nat, s.heap.size ≤ q → A q := fun q h => by rw [← hAe]; exact Or.inr h
  have hl := lv_entry ([.int v, .int lo, .int hi]) (n := 3) (Nat.le_of_ble_eq_true rfl)
  rw [lg_entry_eq]
  generalize (lg_sl ([.int v, .int lo, .int hi]) ++ List.replicate (3 - (lg_sl ([.int v, .int lo, .int hi])).length) Slot.unset).toArray = ls at hl ⊢
  have hl : lv_has ls 3 [(0, .int v), (1, .int lo), (2, .int hi)] := hl
  refine qgen (fun Q hQ => ?_)
  refine hgen (fun H locs hP hD hS => ?_) hP hD
  refine lv_iload_n hx hb dX10_isBetween_0 rfl (lv_at hl 1 rfl) ?_
  refine lv_iload_n hx hb dX10_isBetween_1 rfl (lv_at hl 0 rfl) ?_
  refine lv_icmp_gt (tgt := 14) hx hb dX10_isBetween_2 (by decide) (fun c_1 => ?_) (fun c_1 => ?_)
  · skip
    refine lv_iconst (v := nI 0) hx hb dX10_isBetween_14 (by decide) ?_
    have hP9 := hP.sub (ws' := []) [] rfl
    have hD9 := hD.sub (ws' := []) [] (by decide) rfl
    subst hQ
    exact W.zret (v := nI 0) hx hb hr (by decide) (fun t ht hW => ⟨⟨nI 0, (), rfl, trivial, by rw [ht]; exact hP9, hD9⟩, hS.F ht⟩) hS.2.2 dX10_isBetween_15
  · skip
    refine lv_iload_n hx hb dX10_isBetween_5 rfl (lv_at hl 0 rfl) ?_
    refine lv_iload_n hx hb dX10_isBetween_6 rfl (lv_at hl 2 rfl) ?_
    refine lv_icmp_gt (tgt := 14) hx hb dX10_isBetween_7 (by decide) (fun c_2 => ?_) (fun c_2 => ?_)
    · skip
      refine lv_iconst (v := nI 0) hx hb dX10_isBetween_14 (by decide) ?_
      have hP9 := hP.sub (ws' := []) [] rfl
      have hD9 := hD.sub (ws' := []) [] (by decide) rfl
      subst hQ
      exact W.zret (v := nI 0) hx hb hr (by decide) (fun t ht hW => ⟨⟨nI 0, (), rfl, trivial, by rw [ht]; exact hP9, hD9⟩, hS.F ht⟩) hS.2.2 dX10_isBetween_15
    · skip
      refine lv_iconst (v := nI 1) hx hb dX10_isBetween_10 (by decide) ?_
      refine lv_goto (tgt := 15) hx hb dX10_isBetween_11 (by decide) ?_
      have hP9 := hP.sub (ws' := []) [] rfl
      have hD9 := hD.sub (ws' := []) [] (by decide) rfl
      subst hQ
      exact W.zret (v := nI 1) hx hb hr (by decide) (fun t ht hW => ⟨⟨nI 1, (), rfl, trivial, by rw [ht]; exact hP9, hD9⟩, hS.F ht⟩) hS.2.2 dX10_isBetween_15
set_option maxHeartbeats 4000000 in
set_option maxRecDepth 100000 in
theorem c_isCell_ok (l : Launch) (G : GG) (k : Nat) (hk : k < 16) : Mi l G yX10_isCell cX10_isCell 1 (some .boolean) ({ frames := 1, cells := 0, slots := 0, locals := 22 } : Room) [.int (nI k)] [] (fun (r : Int32) (u : Unit) => r = nI 1) (fun (u : Unit) => []) := by
  intro sz
  refine Met.ofW (cc := cX10_isCell) (maxL := 1) (ret := (some .boolean)) (by decide) rfl ?_
  intro p e s m args below meth c s₁ B9 hml hv
  obtain ⟨rfl, hsz, hP, hK, hD0, hE⟩ := hv
  have hx := B9.exec
  have hb := B9.bytes
  have hr := B9.returns
  have hts : ∀ w ∈ WW, w.before ([.int (nI k)] : List Value).toArray s = true := fun w h => atoms_spec (ws := .code yX10_isCell cX10_isCell 1 (some .boolean) :: WW) B9.pre w (List.mem_cons_of_mem _ h)
  have hown : s.vm.findClass RX10 = some m.cls := findClass_of_methodNamed B9.named
  subst hsz
  have hD := hD0.self (sz := s.heap.size)
  generalize hAe : va_A [] s.heap.size = A at hD hE ⊢
  have hA : ∀ q : Nat, s.heap.size ≤ q → A q := fun q h => by rw [← hAe]; exact Or.inr h
  have hl := lv_entry ([.int (nI k)]) (n := 1) (Nat.le_of_ble_eq_true rfl)
  rw [lg_entry_eq]
  generalize (lg_sl ([.int (nI k)]) ++ List.replicate (1 - (lg_sl ([.int (nI k)])).length) Slot.unset).toArray = ls at hl ⊢
  have hl : lv_has ls 1 [(0, .int (nI k))] := hl
  refine qgen (fun Q hQ => ?_)
  refine hgen (fun H locs hP hD hS => ?_) hP hD
  refine lv_iload_n hx hb dX10_isCell_0 rfl (lv_at hl 0 rfl) ?_
  refine lv_iconst (v := nI 0) hx hb dX10_isCell_1 (by decide) ?_
  refine lv_bipush (v := nI 15) hx hb dX10_isCell_2 (by decide) ?_
  refine fin_i hP hD hS hA [] [] (wr := []) rfl rfl (by decide) (by decide) (va_runS (As := [.int (nI k), .int (nI 0), .int (nI 15)]) (rest := []) ⟨hx, hb, hml, hown, hts⟩ (c_isBetween_ok l G k 0 15 (by omega) (by omega) (by omega) H.size) (va_cwS 3 hts (gSt q1006 q1007 q52 q1008) rfl rfl rfl (by decide +kernel) ⟨Nat.le_of_ble_eq_true rfl, Nat.le_of_ble_eq_true rfl⟩) (preS hK hE hP hD hS hA [] rfl (by decide)) rfl rfl hl.1 rfl (lv_room (Nat.le_of_ble_eq_true rfl)) dX10_isCell_4 ⟨Nat.le_of_ble_eq_true rfl, Nat.le_of_ble_eq_true rfl⟩) (fun r_2 u9 hw_1 H locs hP hD hS => ?_)
  subst hw_1
  have hP : va_P (gD G) vwCl [] H := hP
  have hD : va_D A [] := hD
  have hP9 := hP.sub (ws' := []) [] rfl
  have hD9 := hD.sub (ws' := []) [] (by decide) rfl
  subst hQ
  exact W.zret (v := nI 1) hx hb hr (by decide) (fun t ht hW => ⟨⟨nI 1, (), rfl, rfl, by rw [ht]; exact hP9, hD9⟩, hS.F ht⟩) hS.2.2 dX10_isCell_7
set_option maxHeartbeats 4000000 in
set_option maxRecDepth 100000 in
theorem c_isCell_bad (l : Launch) (G : GG) (v : Int32) (hbad : v < nI 0 ∨ nI 15 < v) : Mi l G yX10_isCell cX10_isCell 1 (some .boolean) ({ frames := 1, cells := 0, slots := 0, locals := 22 } : Room) [.int v] [] (fun (r : Int32) (u : Unit) => r = nI 0) (fun (u : Unit) => []) := by
  intro sz
  refine Met.ofW (cc := cX10_isCell) (maxL := 1) (ret := (some .boolean)) (by decide) rfl ?_
  intro p e s m args below meth c s₁ B9 hml hv
  obtain ⟨rfl, hsz, hP, hK, hD0, hE⟩ := hv
  have hx := B9.exec
  have hb := B9.bytes
  have hr := B9.returns
  have hts : ∀ w ∈ WW, w.before ([.int v] : List Value).toArray s = true := fun w h => atoms_spec (ws := .code yX10_isCell cX10_isCell 1 (some .boolean) :: WW) B9.pre w (List.mem_cons_of_mem _ h)
  have hown : s.vm.findClass RX10 = some m.cls := findClass_of_methodNamed B9.named
  subst hsz
  have hD := hD0.self (sz := s.heap.size)
  generalize hAe : va_A [] s.heap.size = A at hD hE ⊢
  have hA : ∀ q : Nat, s.heap.size ≤ q → A q := fun q h => by rw [← hAe]; exact Or.inr h
  have hl := lv_entry ([.int v]) (n := 1) (Nat.le_of_ble_eq_true rfl)
  rw [lg_entry_eq]
  generalize (lg_sl ([.int v]) ++ List.replicate (1 - (lg_sl ([.int v])).length) Slot.unset).toArray = ls at hl ⊢
  have hl : lv_has ls 1 [(0, .int v)] := hl
  refine qgen (fun Q hQ => ?_)
  refine hgen (fun H locs hP hD hS => ?_) hP hD
  refine lv_iload_n hx hb dX10_isCell_0 rfl (lv_at hl 0 rfl) ?_
  refine lv_iconst (v := nI 0) hx hb dX10_isCell_1 (by decide) ?_
  refine lv_bipush (v := nI 15) hx hb dX10_isCell_2 (by decide) ?_
  refine fin_i hP hD hS hA [] [] (wr := []) rfl rfl (by decide) (by decide) (va_runS (As := [.int v, .int (nI 0), .int (nI 15)]) (rest := []) ⟨hx, hb, hml, hown, hts⟩ (c_isBetween_bad l G v 0 15 (by assumption) H.size) (va_cwS 3 hts (gSt q1006 q1007 q52 q1008) rfl rfl rfl (by decide +kernel) ⟨Nat.le_of_ble_eq_true rfl, Nat.le_of_ble_eq_true rfl⟩) (preS hK hE hP hD hS hA [] rfl (by decide)) rfl rfl hl.1 rfl (lv_room (Nat.le_of_ble_eq_true rfl)) dX10_isCell_4 ⟨Nat.le_of_ble_eq_true rfl, Nat.le_of_ble_eq_true rfl⟩) (fun r_2 u9 hw_1 H locs hP hD hS => ?_)
  subst hw_1
  have hP : va_P (gD G) vwCl [] H := hP
  have hD : va_D A [] := hD
  have hP9 := hP.sub (ws' := []) [] rfl
  have hD9 := hD.sub (ws' := []) [] (by decide) rfl
  subst hQ
  exact W.zret (v := nI 0) hx hb hr (by decide) (fun t ht hW => ⟨⟨nI 0, (), rfl, rfl, by rw [ht]; exact hP9, hD9⟩, hS.F ht⟩) hS.2.2 dX10_isCell_7
set_option maxHeartbeats 4000000 in
set_option maxRecDepth 100000 in
theorem c_X10_isPuzzle (l : Launch) (G : GG) (mo : Nat) (th : Int32) (al : Nat) (zn : Nat) (pf : Nat) (rs : Int32) (md : Int32) (v : Int32) : Mi l G yX10_isPuzzle cX10_isPuzzle 2 (some .boolean) ({ frames := 1, cells := 0, slots := 0, locals := 22 } : Room) [.ref mo, .int v] [(mo, .inr (15, [.int th, .ref al, .long (lN zn), .null, .ref pf, .int rs])), (al, .inr (4, [.int md, .ref (gE G), .int (nI 0)]))] (fun (r : Int32) (u : Unit) => r = nI 0) (fun (u : Unit) => [(mo, .inr (15, [.int th, .ref al, .long (lN zn), .null, .ref pf, .int rs])), (al, .inr (4, [.int md, .ref (gE G), .int (nI 0)]))]) := by
  intro sz
  refine Met.ofW (cc := cX10_isPuzzle) (maxL := 2) (ret := (some .boolean)) (by decide) rfl ?_
  intro p e s m args below meth c s₁ B9 hml hv
  obtain ⟨rfl, hsz, hP, hK, hD0, hE⟩ := hv
  have hx := B9.exec
  have hb := B9.bytes
  have hr := B9.returns
  have hts : ∀ w ∈ WW, w.before ([.ref mo, .int v] : List Value).toArray s = true := fun w h => atoms_spec (ws := .code yX10_isPuzzle cX10_isPuzzle 2 (some .boolean) :: WW) B9.pre w (List.mem_cons_of_mem _ h)
  have hown : s.vm.findClass RX10 = some m.cls := findClass_of_methodNamed B9.named
  subst hsz
  have hD := hD0.self (sz := s.heap.size)
  generalize hAe : va_A [(mo, .inr (15, [.int th, .ref al, .long (lN zn), .null, .ref pf, .int rs])), (al, .inr (4, [.int md, .ref (gE G), .int (nI 0)]))] s.heap.size = A at hD hE ⊢
  have hA : ∀ q : Nat, s.heap.size ≤ q → A q := fun q h => by rw [← hAe]; exact Or.inr h
  have hl := lv_entry ([.ref mo, .int v]) (n := 2) (Nat.le_of_ble_eq_true rfl)
  rw [lg_entry_eq]
  generalize (lg_sl ([.ref mo, .int v]) ++ List.replicate (2 - (lg_sl ([.ref mo, .int v])).length) Slot.unset).toArray = ls at hl ⊢
  have hl : lv_has ls 2 [(0, .ref mo), (1, .int v)] := hl
  refine qgen (fun Q hQ => ?_)
  refine hgen (fun H locs hP hD hS => ?_) hP hD
  refine lv_iload_n hx hb dX10_isPuzzle_0 rfl (lv_at hl 1 rfl) ?_
  refine lv_iconst (v := nI 0) hx hb dX10_isPuzzle_1 (by decide) ?_
  refine lv_aload_n hx hb dX10_isPuzzle_2 rfl (lv_at hl 0 rfl) ?_
  refine va_get (D := gD G) (ci := 15) (v := .ref al) (C := RX10) (T := TX10) (N := 6) hx hb hts fwX10 hown hK hP 0 rfl rfl 1 (by decide) (hts _ q928) (fun _ h9 => h9) rfl dX10_isPuzzle_3 ?_
  refine fin_i5 hP hD hS hA [1] [0] (wr := [(mo, .inr (15, [.int th, .ref al, .long (lN zn), .null, .ref pf, .int rs]))]) rfl rfl (by decide) (by decide) (va_runF (As := []) (rest := [.int (nI 0), .int v]) (hK.1 4 _ rfl).2 ⟨hx, hb, hml, hown, hts⟩ (c_Jx4a65c_size_8abf5 l G al md (gE G) 0 H.size) (va_cwF 0 hts (gF q955 q959 q209 q48 q211) rfl rfl rfl (hE.1.2.1 _ FW0) (by decide +kernel) ⟨Nat.le_of_ble_eq_true rfl, Nat.le_of_ble_eq_true rfl⟩) (preV (q0 := 1) (ci := 4) hK hE hP hD hS hA [1] rfl (by decide) rfl rfl) rfl rfl hl.1 rfl (lv_room (Nat.le_of_ble_eq_true rfl)) dX10_isPuzzle_6 ⟨Nat.le_of_ble_eq_true rfl, Nat.le_of_ble_eq_true rfl⟩) (fun r_2 u9 hw_1 H locs hP hD hS => ?_)
  subst hw_1
  have hP : va_P (gD G) vwCl [(mo, .inr (15, [.int th, .ref al, .long (lN zn), .null, .ref pf, .int rs])), (al, .inr (4, [.int md, .ref (gE G), .int (nI 0)]))] H := hP
  have hD : va_D A [(mo, .inr (15, [.int th, .ref al, .long (lN zn), .null, .ref pf, .int rs])), (al, .inr (4, [.int md, .ref (gE G), .int (nI 0)]))] := hD
  refine lv_iconst (v := nI 1) hx hb dX10_isPuzzle_11 (by decide) ?_
  refine lv_isub hx hb dX10_isPuzzle_12 ?_
  refine lv_toe (show _ = (-1 : Int32) by decide) ?_
  refine fin_i hP hD hS hA [] [0, 1] (wr := [(mo, .inr (15, [.int th, .ref al, .long (lN zn), .null, .ref pf, .int rs])), (al, .inr (4, [.int md, .ref (gE G), .int (nI 0)]))]) rfl rfl (by decide) (by decide) (va_runS (As := [.int v, .int (nI 0), .int (-1)]) (rest := []) ⟨hx, hb, hml, hown, hts⟩ (c_isBetween_neg l G v H.size) (va_cwS 3 hts (gSt q1006 q1007 q52 q1008) rfl rfl rfl (by decide +kernel) ⟨Nat.le_of_ble_eq_true rfl, Nat.le_of_ble_eq_true rfl⟩) (preS hK hE hP hD hS hA [] rfl (by decide)) rfl rfl hl.1 rfl (lv_room (Nat.le_of_ble_eq_true rfl)) dX10_isPuzzle_13 ⟨Nat.le_of_ble_eq_true rfl, Nat.le_of_ble_eq_true rfl⟩) (fun r_4 u9 hw_3 H locs hP hD hS => ?_)
  subst hw_3
  have hP : va_P (gD G) vwCl [(mo, .inr (15, [.int th, .ref al, .long (lN zn), .null, .ref pf, .int rs])), (al, .inr (4, [.int md, .ref (gE G), .int (nI 0)]))] H := hP
  have hD : va_D A [(mo, .inr (15, [.int th, .ref al, .long (lN zn), .null, .ref pf, .int rs])), (al, .inr (4, [.int md, .ref (gE G), .int (nI 0)]))] := hD
  have hP9 := hP.sub (ws' := [(mo, .inr (15, [.int th, .ref al, .long (lN zn), .null, .ref pf, .int rs])), (al, .inr (4, [.int md, .ref (gE G), .int (nI 0)]))]) [0, 1] rfl
  have hD9 := hD.sub (ws' := [(mo, .inr (15, [.int th, .ref al, .long (lN zn), .null, .ref pf, .int rs])), (al, .inr (4, [.int md, .ref (gE G), .int (nI 0)]))]) [0, 1] (by decide) rfl
  subst hQ
  exact W.zret (v := nI 0) hx hb hr (by decide) (fun t ht hW => ⟨⟨nI 0, (), rfl, rfl, by rw [ht]; exact hP9, hD9⟩, hS.F ht⟩) hS.2.2 dX10_isPuzzle_16
set_option maxHeartbeats 4000000 in
set_option maxRecDepth 100000 in
theorem c_X10_isNone (l : Launch) (G : GG) (mo : Nat) (th : Int32) (al : Nat) (zn : Nat) (pf : Nat) (rs : Int32) (md : Int32) (v : Int32) : Mi l G yX10_isNone cX10_isNone 2 (some .boolean) ({ frames := 2, cells := 0, slots := 0, locals := 43 } : Room) [.ref mo, .int v] [(mo, .inr (15, [.int th, .ref al, .long (lN zn), .null, .ref pf, .int rs])), (al, .inr (4, [.int md, .ref (gE G), .int (nI 0)]))] (fun (r : Int32) (u : Unit) => r = nI 1) (fun (u : Unit) => [(mo, .inr (15, [.int (nI 1), .ref al, .long (lN zn), .null, .ref pf, .int rs])), (al, .inr (4, [.int md, .ref (gE G), .int (nI 0)]))]) := by
  intro sz
  refine Met.ofW (cc := cX10_isNone) (maxL := 2) (ret := (some .boolean)) (by decide) rfl ?_
  intro p e s m args below meth c s₁ B9 hml hv
  obtain ⟨rfl, hsz, hP, hK, hD0, hE⟩ := hv
  have hx := B9.exec
  have hb := B9.bytes
  have hr := B9.returns
  have hts : ∀ w ∈ WW, w.before ([.ref mo, .int v] : List Value).toArray s = true := fun w h => atoms_spec (ws := .code yX10_isNone cX10_isNone 2 (some .boolean) :: WW) B9.pre w (List.mem_cons_of_mem _ h)
  have hown : s.vm.findClass RX10 = some m.cls := findClass_of_methodNamed B9.named
  subst hsz
  have hD := hD0.self (sz := s.heap.size)
  generalize hAe : va_A [(mo, .inr (15, [.int th, .ref al, .long (lN zn), .null, .ref pf, .int rs])), (al, .inr (4, [.int md, .ref (gE G), .int (nI 0)]))] s.heap.size = A at hD hE ⊢
  have hA : ∀ q : Nat, s.heap.size ≤ q → A q := fun q h => by rw [← hAe]; exact Or.inr h
  have hl := lv_entry ([.ref mo, .int v]) (n := 2) (Nat.le_of_ble_eq_true rfl)
  rw [lg_entry_eq]
  generalize (lg_sl ([.ref mo, .int v]) ++ List.replicate (2 - (lg_sl ([.ref mo, .int v])).length) Slot.unset).toArray = ls at hl ⊢
  have hl : lv_has ls 2 [(0, .ref mo), (1, .int v)] := hl
  refine qgen (fun Q hQ => ?_)
  refine hgen (fun H locs hP hD hS => ?_) hP hD
  refine lv_aload_n hx hb dX10_isNone_0 rfl (lv_at hl 0 rfl) ?_
  refine lv_aload_n hx hb dX10_isNone_1 rfl (lv_at hl 0 rfl) ?_
  refine lv_iload_n hx hb dX10_isNone_2 rfl (lv_at hl 1 rfl) ?_
  refine fin_i hP hD hS hA [0, 1] [] (wr := []) rfl rfl (by decide) (by decide) (va_runV (As := [.int v]) (rest := [.ref mo]) ⟨hx, hb, hml, hown, hts⟩ (c_X10_isPuzzle l G mo th al zn pf rs md v H.size) (cwV 1 hts (gV q1002 q1004 q36 q52 q1005) rfl rfl rfl (by decide +kernel) ⟨Nat.le_of_ble_eq_true rfl, Nat.le_of_ble_eq_true rfl⟩) (preV (q0 := 0) (ci := 15) hK hE hP hD hS hA [0, 1] rfl (by decide) rfl rfl) rfl rfl hl.1 rfl (lv_room (Nat.le_of_ble_eq_true rfl)) dX10_isNone_3 ⟨Nat.le_of_ble_eq_true rfl, Nat.le_of_ble_eq_true rfl⟩) (fun r_2 u9 hw_1 H locs hP hD hS => ?_)
  subst hw_1
  have hP : va_P (gD G) vwCl [(mo, .inr (15, [.int th, .ref al, .long (lN zn), .null, .ref pf, .int rs])), (al, .inr (4, [.int md, .ref (gE G), .int (nI 0)]))] H := hP
  have hD : va_D A [(mo, .inr (15, [.int th, .ref al, .long (lN zn), .null, .ref pf, .int rs])), (al, .inr (4, [.int md, .ref (gE G), .int (nI 0)]))] := hD
  refine lv_if_eq (tgt := 13) hx hb dX10_isNone_6 (by decide) (fun c_3 => ?_) (fun c_3 => ?_)
  · skip
    have c_3 : 0 = 0 := (nI_eq (a := 0) (b := 0) (by omega) (by omega)).mp c_3
    refine lv_iconst (v := nI 1) hx hb dX10_isNone_13 (by decide) ?_
    refine fin_i hP hD hS hA [0] [1] (wr := [(al, .inr (4, [.int md, .ref (gE G), .int (nI 0)]))]) rfl rfl (by decide) (by decide) (va_runV (As := [.int (nI 1)]) (rest := []) ⟨hx, hb, hml, hown, hts⟩ (c_isWrong_k l G mo th al zn pf rs 1 (by omega) (by omega) H.size) (cwV 1 hts (gV q962 q964 q34 q52 q965) rfl rfl rfl (by decide +kernel) ⟨Nat.le_of_ble_eq_true rfl, Nat.le_of_ble_eq_true rfl⟩) (preV (q0 := 0) (ci := 15) hK hE hP hD hS hA [0] rfl (by decide) rfl rfl) rfl rfl hl.1 rfl (lv_room (Nat.le_of_ble_eq_true rfl)) dX10_isNone_14 ⟨Nat.le_of_ble_eq_true rfl, Nat.le_of_ble_eq_true rfl⟩) (fun r_5 u9 hw_4 H locs hP hD hS => ?_)
    subst hw_4
    have hP : va_P (gD G) vwCl [(al, .inr (4, [.int md, .ref (gE G), .int (nI 0)])), (mo, .inr (15, [.int (nI 1), .ref al, .long (lN zn), .null, .ref pf, .int rs]))] H := hP
    have hD : va_D A [(al, .inr (4, [.int md, .ref (gE G), .int (nI 0)])), (mo, .inr (15, [.int (nI 1), .ref al, .long (lN zn), .null, .ref pf, .int rs]))] := hD
    have hP9 := hP.sub (ws' := [(mo, .inr (15, [.int (nI 1), .ref al, .long (lN zn), .null, .ref pf, .int rs])), (al, .inr (4, [.int md, .ref (gE G), .int (nI 0)]))]) [1, 0] rfl
    have hD9 := hD.sub (ws' := [(mo, .inr (15, [.int (nI 1), .ref al, .long (lN zn), .null, .ref pf, .int rs])), (al, .inr (4, [.int md, .ref (gE G), .int (nI 0)]))]) [1, 0] (by decide) rfl
    subst hQ
    exact W.zret (v := nI 1) hx hb hr (by decide) (fun t ht hW => ⟨⟨nI 1, (), rfl, rfl, by rw [ht]; exact hP9, hD9⟩, hS.F ht⟩) hS.2.2 dX10_isNone_17
  · skip
    have c_3 : ¬ 0 = 0 := fun z => c_3 ((nI_eq (a := 0) (b := 0) (by omega) (by omega)).mpr z)
    exact absurd c_3 (by decide)
set_option maxHeartbeats 4000000 in
set_option maxRecDepth 100000 in
theorem c_X10_isNoCell (l : Launch) (G : GG) (mo : Nat) (th : Int32) (al : Nat) (zn : Nat) (pf : Nat) (rs : Int32) (md : Int32) (v : Int32) (v2 : Int32) : Mi l G yX10_isNoCell cX10_isNoCell 3 (some .boolean) ({ frames := 2, cells := 0, slots := 0, locals := 43 } : Room) [.ref mo, .int v, .int v2] [(mo, .inr (15, [.int th, .ref al, .long (lN zn), .null, .ref pf, .int rs])), (al, .inr (4, [.int md, .ref (gE G), .int (nI 0)]))] (fun (r : Int32) (u : Unit) => r = nI 1) (fun (u : Unit) => [(mo, .inr (15, [.int (nI 1), .ref al, .long (lN zn), .null, .ref pf, .int rs])), (al, .inr (4, [.int md, .ref (gE G), .int (nI 0)]))]) := by
  intro sz
  refine Met.ofW (cc := cX10_isNoCell) (maxL := 3) (ret := (some .boolean)) (by decide) rfl ?_
  intro p e s m args below meth c s₁ B9 hml hv
  obtain ⟨rfl, hsz, hP, hK, hD0, hE⟩ := hv
  have hx := B9.exec
  have hb := B9.bytes
  have hr := B9.returns
  have hts : ∀ w ∈ WW, w.before ([.ref mo, .int v, .int v2] : List Value).toArray s = true := fun w h => atoms_spec (ws := .code yX10_isNoCell cX10_isNoCell 3 (some .boolean) :: WW) B9.pre w (List.mem_cons_of_mem _ h)
  have hown : s.vm.findClass RX10 = some m.cls := findClass_of_methodNamed B9.named
  subst hsz
  have hD := hD0.self (sz := s.heap.size)
  generalize hAe : va_A [(mo, .inr (15, [.int th, .ref al, .long (lN zn), .null, .ref pf, .int rs])), (al, .inr (4, [.int md, .ref (gE G), .int (nI 0)]))] s.heap.size = A at hD hE ⊢
  have hA : ∀ q : Nat, s.heap.size ≤ q → A q := fun q h => by rw [← hAe]; exact Or.inr h
  have hl := lv_entry ([.ref mo, .int v, .int v2]) (n := 3) (Nat.le_of_ble_eq_true rfl)
  rw [lg_entry_eq]
  generalize (lg_sl ([.ref mo, .int v, .int v2]) ++ List.replicate (3 - (lg_sl ([.ref mo, .int v, .int v2])).length) Slot.unset).toArray = ls at hl ⊢
  have hl : lv_has ls 3 [(0, .ref mo), (1, .int v), (2, .int v2)] := hl
  refine qgen (fun Q hQ => ?_)
  refine hgen (fun H locs hP hD hS => ?_) hP hD
  refine lv_aload_n hx hb dX10_isNoCell_0 rfl (lv_at hl 0 rfl) ?_
  refine lv_aload_n hx hb dX10_isNoCell_1 rfl (lv_at hl 0 rfl) ?_
  refine lv_iload_n hx hb dX10_isNoCell_2 rfl (lv_at hl 1 rfl) ?_
  refine fin_i hP hD hS hA [0, 1] [] (wr := []) rfl rfl (by decide) (by decide) (va_runV (As := [.int v]) (rest := [.ref mo]) ⟨hx, hb, hml, hown, hts⟩ (c_X10_isPuzzle l G mo th al zn pf rs md v H.size) (cwV 1 hts (gV q1002 q1004 q36 q52 q1005) rfl rfl rfl (by decide +kernel) ⟨Nat.le_of_ble_eq_true rfl, Nat.le_of_ble_eq_true rfl⟩) (preV (q0 := 0) (ci := 15) hK hE hP hD hS hA [0, 1] rfl (by decide) rfl rfl) rfl rfl hl.1 rfl (lv_room (Nat.le_of_ble_eq_true rfl)) dX10_isNoCell_3 ⟨Nat.le_of_ble_eq_true rfl, Nat.le_of_ble_eq_true rfl⟩) (fun r_2 u9 hw_1 H locs hP hD hS => ?_)
  subst hw_1
  have hP : va_P (gD G) vwCl [(mo, .inr (15, [.int th, .ref al, .long (lN zn), .null, .ref pf, .int rs])), (al, .inr (4, [.int md, .ref (gE G), .int (nI 0)]))] H := hP
  have hD : va_D A [(mo, .inr (15, [.int th, .ref al, .long (lN zn), .null, .ref pf, .int rs])), (al, .inr (4, [.int md, .ref (gE G), .int (nI 0)]))] := hD
  refine lv_if_eq (tgt := 20) hx hb dX10_isNoCell_6 (by decide) (fun c_3 => ?_) (fun c_3 => ?_)
  · skip
    have c_3 : 0 = 0 := (nI_eq (a := 0) (b := 0) (by omega) (by omega)).mp c_3
    refine lv_iconst (v := nI 1) hx hb dX10_isNoCell_20 (by decide) ?_
    refine fin_i hP hD hS hA [0] [1] (wr := [(al, .inr (4, [.int md, .ref (gE G), .int (nI 0)]))]) rfl rfl (by decide) (by decide) (va_runV (As := [.int (nI 1)]) (rest := []) ⟨hx, hb, hml, hown, hts⟩ (c_isWrong_k l G mo th al zn pf rs 1 (by omega) (by omega) H.size) (cwV 1 hts (gV q962 q964 q34 q52 q965) rfl rfl rfl (by decide +kernel) ⟨Nat.le_of_ble_eq_true rfl, Nat.le_of_ble_eq_true rfl⟩) (preV (q0 := 0) (ci := 15) hK hE hP hD hS hA [0] rfl (by decide) rfl rfl) rfl rfl hl.1 rfl (lv_room (Nat.le_of_ble_eq_true rfl)) dX10_isNoCell_21 ⟨Nat.le_of_ble_eq_true rfl, Nat.le_of_ble_eq_true rfl⟩) (fun r_5 u9 hw_4 H locs hP hD hS => ?_)
    subst hw_4
    have hP : va_P (gD G) vwCl [(al, .inr (4, [.int md, .ref (gE G), .int (nI 0)])), (mo, .inr (15, [.int (nI 1), .ref al, .long (lN zn), .null, .ref pf, .int rs]))] H := hP
    have hD : va_D A [(al, .inr (4, [.int md, .ref (gE G), .int (nI 0)])), (mo, .inr (15, [.int (nI 1), .ref al, .long (lN zn), .null, .ref pf, .int rs]))] := hD
    have hP9 := hP.sub (ws' := [(mo, .inr (15, [.int (nI 1), .ref al, .long (lN zn), .null, .ref pf, .int rs])), (al, .inr (4, [.int md, .ref (gE G), .int (nI 0)]))]) [1, 0] rfl
    have hD9 := hD.sub (ws' := [(mo, .inr (15, [.int (nI 1), .ref al, .long (lN zn), .null, .ref pf, .int rs])), (al, .inr (4, [.int md, .ref (gE G), .int (nI 0)]))]) [1, 0] (by decide) rfl
    subst hQ
    exact W.zret (v := nI 1) hx hb hr (by decide) (fun t ht hW => ⟨⟨nI 1, (), rfl, rfl, by rw [ht]; exact hP9, hD9⟩, hS.F ht⟩) hS.2.2 dX10_isNoCell_24
  · skip
    have c_3 : ¬ 0 = 0 := fun z => c_3 ((nI_eq (a := 0) (b := 0) (by omega) (by omega)).mpr z)
    exact absurd c_3 (by decide)
set_option maxHeartbeats 4000000 in
set_option maxRecDepth 100000 in
theorem c_X10_give (l : Launch) (G : GG) (mo : Nat) (th : Int32) (al : Nat) (zn : Nat) (pf : Nat) (rs : Int32) (md : Int32) (v : Int32) (v2 : Int32) (x : Int32) : Mi l G yX10_give cX10_give 5 (some .int) ({ frames := 3, cells := 0, slots := 0, locals := 65 } : Room) [.ref mo, .int v, .int v2, .int x] [(mo, .inr (15, [.int th, .ref al, .long (lN zn), .null, .ref pf, .int rs])), (al, .inr (4, [.int md, .ref (gE G), .int (nI 0)]))] (fun (r : Int32) (u : Unit) => True) (fun (u : Unit) => [(mo, .inr (15, [.int (nI 1), .ref al, .long (lN zn), .null, .ref pf, .int rs])), (al, .inr (4, [.int md, .ref (gE G), .int (nI 0)]))]) := by
  intro sz
  refine Met.ofW (cc := cX10_give) (maxL := 5) (ret := (some .int)) (by decide) rfl ?_
  intro p e s m args below meth c s₁ B9 hml hv
  obtain ⟨rfl, hsz, hP, hK, hD0, hE⟩ := hv
  have hx := B9.exec
  have hb := B9.bytes
  have hr := B9.returns
  have hts : ∀ w ∈ WW, w.before ([.ref mo, .int v, .int v2, .int x] : List Value).toArray s = true := fun w h => atoms_spec (ws := .code yX10_give cX10_give 5 (some .int) :: WW) B9.pre w (List.mem_cons_of_mem _ h)
  have hown : s.vm.findClass RX10 = some m.cls := findClass_of_methodNamed B9.named
  subst hsz
  have hD := hD0.self (sz := s.heap.size)
  generalize hAe : va_A [(mo, .inr (15, [.int th, .ref al, .long (lN zn), .null, .ref pf, .int rs])), (al, .inr (4, [.int md, .ref (gE G), .int (nI 0)]))] s.heap.size = A at hD hE ⊢
  have hA : ∀ q : Nat, s.heap.size ≤ q → A q := fun q h => by rw [← hAe]; exact Or.inr h
  have hl := lv_entry ([.ref mo, .int v, .int v2, .int x]) (n := 5) (Nat.le_of_ble_eq_true rfl)
  rw [lg_entry_eq]
  generalize (lg_sl ([.ref mo, .int v, .int v2, .int x]) ++ List.replicate (5 - (lg_sl ([.ref mo, .int v, .int v2, .int x])).length) Slot.unset).toArray = ls at hl ⊢
  have hl : lv_has ls 5 [(0, .ref mo), (1, .int v), (2, .int v2), (3, .int x)] := hl
  refine qgen (fun Q hQ => ?_)
  refine hgen (fun H locs hP hD hS => ?_) hP hD
  refine lv_aload_n hx hb dX10_give_0 rfl (lv_at hl 0 rfl) ?_
  refine lv_iload_n hx hb dX10_give_1 rfl (lv_at hl 1 rfl) ?_
  refine lv_iload_n hx hb dX10_give_2 rfl (lv_at hl 2 rfl) ?_
  refine fin_i hP hD hS hA [0, 1] [] (wr := []) rfl rfl (by decide) (by decide) (va_runV (As := [.int v, .int v2]) (rest := []) ⟨hx, hb, hml, hown, hts⟩ (c_X10_isNoCell l G mo th al zn pf rs md v v2 H.size) (cwV 2 hts (gV q998 q1000 q35 q52 q1001) rfl rfl rfl (by decide +kernel) ⟨Nat.le_of_ble_eq_true rfl, Nat.le_of_ble_eq_true rfl⟩) (preV (q0 := 0) (ci := 15) hK hE hP hD hS hA [0, 1] rfl (by decide) rfl rfl) rfl rfl hl.1 rfl (lv_room (Nat.le_of_ble_eq_true rfl)) dX10_give_3 ⟨Nat.le_of_ble_eq_true rfl, Nat.le_of_ble_eq_true rfl⟩) (fun r_2 u9 hw_1 H locs hP hD hS => ?_)
  subst hw_1
  have hP : va_P (gD G) vwCl [(mo, .inr (15, [.int (nI 1), .ref al, .long (lN zn), .null, .ref pf, .int rs])), (al, .inr (4, [.int md, .ref (gE G), .int (nI 0)]))] H := hP
  have hD : va_D A [(mo, .inr (15, [.int (nI 1), .ref al, .long (lN zn), .null, .ref pf, .int rs])), (al, .inr (4, [.int md, .ref (gE G), .int (nI 0)]))] := hD
  refine lv_if_ne (tgt := 30) hx hb dX10_give_6 (by decide) (fun c_3 => ?_) (fun c_3 => ?_)
  · skip
    have c_3 : ¬ 1 = 0 := fun z => c_3 ((nI_eq (a := 1) (b := 0) (by omega) (by omega)).mpr z)
    refine lv_iconst (v := nI 0) hx hb dX10_give_30 (by decide) ?_
    have hP9 := hP.sub (ws' := [(mo, .inr (15, [.int (nI 1), .ref al, .long (lN zn), .null, .ref pf, .int rs])), (al, .inr (4, [.int md, .ref (gE G), .int (nI 0)]))]) [0, 1] rfl
    have hD9 := hD.sub (ws' := [(mo, .inr (15, [.int (nI 1), .ref al, .long (lN zn), .null, .ref pf, .int rs])), (al, .inr (4, [.int md, .ref (gE G), .int (nI 0)]))]) [0, 1] (by decide) rfl
    subst hQ
    exact W.iret (v := nI 0) hx hb hr (fun t ht hW => ⟨⟨nI 0, (), rfl, trivial, by rw [ht]; exact hP9, hD9⟩, hS.F ht⟩) hS.2.2 dX10_give_31
  · skip
    have c_3 : 1 = 0 := (nI_eq (a := 1) (b := 0) (by omega) (by omega)).mp c_3
    exact absurd c_3 (by decide)
set_option maxHeartbeats 4000000 in
set_option maxRecDepth 100000 in
theorem c_X10_addCage (l : Launch) (G : GG) (mo : Nat) (th : Int32) (al : Nat) (zn : Nat) (pf : Nat) (rs : Int32) (md : Int32) (v : Int32) (v2 : Int32) (x : Int32) : Mi l G yX10_addCage cX10_addCage 5 (some .int) ({ frames := 2, cells := 0, slots := 0, locals := 43 } : Room) [.ref mo, .int v, .int v2, .int x] [(mo, .inr (15, [.int th, .ref al, .long (lN zn), .null, .ref pf, .int rs])), (al, .inr (4, [.int md, .ref (gE G), .int (nI 0)]))] (fun (r : Int32) (u : Unit) => True) (fun (u : Unit) => [(mo, .inr (15, [.int (nI 1), .ref al, .long (lN zn), .null, .ref pf, .int rs])), (al, .inr (4, [.int md, .ref (gE G), .int (nI 0)]))]) := by
  intro sz
  refine Met.ofW (cc := cX10_addCage) (maxL := 5) (ret := (some .int)) (by decide) rfl ?_
  intro p e s m args below meth c s₁ B9 hml hv
  obtain ⟨rfl, hsz, hP, hK, hD0, hE⟩ := hv
  have hx := B9.exec
  have hb := B9.bytes
  have hr := B9.returns
  have hts : ∀ w ∈ WW, w.before ([.ref mo, .int v, .int v2, .int x] : List Value).toArray s = true := fun w h => atoms_spec (ws := .code yX10_addCage cX10_addCage 5 (some .int) :: WW) B9.pre w (List.mem_cons_of_mem _ h)
  have hown : s.vm.findClass RX10 = some m.cls := findClass_of_methodNamed B9.named
  subst hsz
  have hD := hD0.self (sz := s.heap.size)
  generalize hAe : va_A [(mo, .inr (15, [.int th, .ref al, .long (lN zn), .null, .ref pf, .int rs])), (al, .inr (4, [.int md, .ref (gE G), .int (nI 0)]))] s.heap.size = A at hD hE ⊢
  have hA : ∀ q : Nat, s.heap.size ≤ q → A q := fun q h => by rw [← hAe]; exact Or.inr h
  have hl := lv_entry ([.ref mo, .int v, .int v2, .int x]) (n := 5) (Nat.le_of_ble_eq_true rfl)
  rw [lg_entry_eq]
  generalize (lg_sl ([.ref mo, .int v, .int v2, .int x]) ++ List.replicate (5 - (lg_sl ([.ref mo, .int v, .int v2, .int x])).length) Slot.unset).toArray = ls at hl ⊢
  have hl : lv_has ls 5 [(0, .ref mo), (1, .int v), (2, .int v2), (3, .int x)] := hl
  refine qgen (fun Q hQ => ?_)
  refine hgen (fun H locs hP hD hS => ?_) hP hD
  refine lv_iload_n hx hb dX10_addCage_0 rfl (lv_at hl 3 rfl) ?_
  refine lv_iconst (v := nI 2) hx hb dX10_addCage_1 (by decide) ?_
  refine lv_bipush (v := nI 16) hx hb dX10_addCage_2 (by decide) ?_
  refine fin_i hP hD hS hA [] [0, 1] (wr := [(mo, .inr (15, [.int th, .ref al, .long (lN zn), .null, .ref pf, .int rs])), (al, .inr (4, [.int md, .ref (gE G), .int (nI 0)]))]) rfl rfl (by decide) (by decide) (va_runS (As := [.int x, .int (nI 2), .int (nI 16)]) (rest := []) ⟨hx, hb, hml, hown, hts⟩ (c_isBetween_any l G x (nI 2) (nI 16) H.size) (va_cwS 3 hts (gSt q1006 q1007 q52 q1008) rfl rfl rfl (by decide +kernel) ⟨Nat.le_of_ble_eq_true rfl, Nat.le_of_ble_eq_true rfl⟩) (preS hK hE hP hD hS hA [] rfl (by decide)) rfl rfl hl.1 rfl (lv_room (Nat.le_of_ble_eq_true rfl)) dX10_addCage_4 ⟨Nat.le_of_ble_eq_true rfl, Nat.le_of_ble_eq_true rfl⟩) (fun r_2 u9 hw_1 H locs hP hD hS => ?_)
  have hP : va_P (gD G) vwCl [(mo, .inr (15, [.int th, .ref al, .long (lN zn), .null, .ref pf, .int rs])), (al, .inr (4, [.int md, .ref (gE G), .int (nI 0)]))] H := hP
  have hD : va_D A [(mo, .inr (15, [.int th, .ref al, .long (lN zn), .null, .ref pf, .int rs])), (al, .inr (4, [.int md, .ref (gE G), .int (nI 0)]))] := hD
  refine lv_if_eq (tgt := 36) hx hb dX10_addCage_7 (by decide) (fun c_3 => ?_) (fun c_3 => ?_)
  · skip
    refine lv_iconst (v := nI 0) hx hb dX10_addCage_36 (by decide) ?_
    refine lv_istore (lv' := [(4, .int (nI 0)), (0, .ref mo), (1, .int v), (2, .int v2), (3, .int x)]) hx hb dX10_addCage_37 hl (by decide) rfl (fun ls hl => ?_)
    refine lv_aload_n hx hb dX10_addCage_39 rfl (lv_at hl 1 rfl) ?_
    refine lv_aload_n hx hb dX10_addCage_40 rfl (lv_at hl 1 rfl) ?_
    refine lv_iload_n hx hb dX10_addCage_41 rfl (lv_at hl 2 rfl) ?_
    refine fin_i hP hD hS hA [0, 1] [] (wr := []) rfl rfl (by decide) (by decide) (va_runV (As := [.int v]) (rest := [.ref mo]) ⟨hx, hb, hml, hown, hts⟩ (c_X10_isPuzzle l G mo th al zn pf rs md v H.size) (cwV 1 hts (gV q1002 q1004 q36 q52 q1005) rfl rfl rfl (by decide +kernel) ⟨Nat.le_of_ble_eq_true rfl, Nat.le_of_ble_eq_true rfl⟩) (preV (q0 := 0) (ci := 15) hK hE hP hD hS hA [0, 1] rfl (by decide) rfl rfl) rfl rfl hl.1 rfl (lv_room (Nat.le_of_ble_eq_true rfl)) dX10_addCage_42 ⟨Nat.le_of_ble_eq_true rfl, Nat.le_of_ble_eq_true rfl⟩) (fun r_5 u9 hw_4 H locs hP hD hS => ?_)
    subst hw_4
    have hP : va_P (gD G) vwCl [(mo, .inr (15, [.int th, .ref al, .long (lN zn), .null, .ref pf, .int rs])), (al, .inr (4, [.int md, .ref (gE G), .int (nI 0)]))] H := hP
    have hD : va_D A [(mo, .inr (15, [.int th, .ref al, .long (lN zn), .null, .ref pf, .int rs])), (al, .inr (4, [.int md, .ref (gE G), .int (nI 0)]))] := hD
    refine lv_if_ne (tgt := 52) hx hb dX10_addCage_45 (by decide) (fun c_6 => ?_) (fun c_6 => ?_)
    · skip
      have c_6 : ¬ 0 = 0 := fun z => c_6 ((nI_eq (a := 0) (b := 0) (by omega) (by omega)).mpr z)
      exact absurd c_6 (by decide)
    · skip
      have c_6 : 0 = 0 := (nI_eq (a := 0) (b := 0) (by omega) (by omega)).mp c_6
      refine lv_iconst (v := nI 1) hx hb dX10_addCage_48 (by decide) ?_
      refine lv_goto (tgt := 92) hx hb dX10_addCage_49 (by decide) ?_
      refine fin_i hP hD hS hA [0] [1] (wr := [(al, .inr (4, [.int md, .ref (gE G), .int (nI 0)]))]) rfl rfl (by decide) (by decide) (va_runV (As := [.int (nI 1)]) (rest := []) ⟨hx, hb, hml, hown, hts⟩ (c_isWrong_k l G mo th al zn pf rs 1 (by omega) (by omega) H.size) (cwV 1 hts (gV q962 q964 q34 q52 q965) rfl rfl rfl (by decide +kernel) ⟨Nat.le_of_ble_eq_true rfl, Nat.le_of_ble_eq_true rfl⟩) (preV (q0 := 0) (ci := 15) hK hE hP hD hS hA [0] rfl (by decide) rfl rfl) rfl rfl hl.1 rfl (lv_room (Nat.le_of_ble_eq_true rfl)) dX10_addCage_92 ⟨Nat.le_of_ble_eq_true rfl, Nat.le_of_ble_eq_true rfl⟩) (fun r_8 u9 hw_7 H locs hP hD hS => ?_)
      subst hw_7
      have hP : va_P (gD G) vwCl [(al, .inr (4, [.int md, .ref (gE G), .int (nI 0)])), (mo, .inr (15, [.int (nI 1), .ref al, .long (lN zn), .null, .ref pf, .int rs]))] H := hP
      have hD : va_D A [(al, .inr (4, [.int md, .ref (gE G), .int (nI 0)])), (mo, .inr (15, [.int (nI 1), .ref al, .long (lN zn), .null, .ref pf, .int rs]))] := hD
      refine lv_if_eq (tgt := 100) hx hb dX10_addCage_95 (by decide) (fun c_9 => ?_) (fun c_9 => ?_)
      · skip
        have c_9 : 1 = 0 := (nI_eq (a := 1) (b := 0) (by omega) (by omega)).mp c_9
        exact absurd c_9 (by decide)
      · skip
        have c_9 : ¬ 1 = 0 := fun z => c_9 ((nI_eq (a := 1) (b := 0) (by omega) (by omega)).mpr z)
        refine lv_iconst (v := nI 0) hx hb dX10_addCage_98 (by decide) ?_
        have hP9 := hP.sub (ws' := [(mo, .inr (15, [.int (nI 1), .ref al, .long (lN zn), .null, .ref pf, .int rs])), (al, .inr (4, [.int md, .ref (gE G), .int (nI 0)]))]) [1, 0] rfl
        have hD9 := hD.sub (ws' := [(mo, .inr (15, [.int (nI 1), .ref al, .long (lN zn), .null, .ref pf, .int rs])), (al, .inr (4, [.int md, .ref (gE G), .int (nI 0)]))]) [1, 0] (by decide) rfl
        subst hQ
        exact W.iret (v := nI 0) hx hb hr (fun t ht hW => ⟨⟨nI 0, (), rfl, trivial, by rw [ht]; exact hP9, hD9⟩, hS.F ht⟩) hS.2.2 dX10_addCage_99
  · skip
    refine lv_iload_n hx hb dX10_addCage_10 rfl (lv_at hl 2 rfl) ?_
    refine lv_iconst (v := nI 0) hx hb dX10_addCage_11 (by decide) ?_
    refine lv_ldc (v := nI 65535) hx hb hown (hts _ q1023) dX10_addCage_12 ?_
    refine fin_i hP hD hS hA [] [0, 1] (wr := [(mo, .inr (15, [.int th, .ref al, .long (lN zn), .null, .ref pf, .int rs])), (al, .inr (4, [.int md, .ref (gE G), .int (nI 0)]))]) rfl rfl (by decide) (by decide) (va_runS (As := [.int v2, .int (nI 0), .int (nI 65535)]) (rest := []) ⟨hx, hb, hml, hown, hts⟩ (c_isBetween_any l G v2 (nI 0) (nI 65535) H.size) (va_cwS 3 hts (gSt q1006 q1007 q52 q1008) rfl rfl rfl (by decide +kernel) ⟨Nat.le_of_ble_eq_true rfl, Nat.le_of_ble_eq_true rfl⟩) (preS hK hE hP hD hS hA [] rfl (by decide)) rfl rfl hl.1 rfl (lv_room (Nat.le_of_ble_eq_true rfl)) dX10_addCage_14 ⟨Nat.le_of_ble_eq_true rfl, Nat.le_of_ble_eq_true rfl⟩) (fun r_11 u9 hw_10 H locs hP hD hS => ?_)
    have hP : va_P (gD G) vwCl [(mo, .inr (15, [.int th, .ref al, .long (lN zn), .null, .ref pf, .int rs])), (al, .inr (4, [.int md, .ref (gE G), .int (nI 0)]))] H := hP
    have hD : va_D A [(mo, .inr (15, [.int th, .ref al, .long (lN zn), .null, .ref pf, .int rs])), (al, .inr (4, [.int md, .ref (gE G), .int (nI 0)]))] := hD
    refine lv_if_eq (tgt := 36) hx hb dX10_addCage_17 (by decide) (fun c_12 => ?_) (fun c_12 => ?_)
    · skip
      refine lv_iconst (v := nI 0) hx hb dX10_addCage_36 (by decide) ?_
      refine lv_istore (lv' := [(4, .int (nI 0)), (0, .ref mo), (1, .int v), (2, .int v2), (3, .int x)]) hx hb dX10_addCage_37 hl (by decide) rfl (fun ls hl => ?_)
      refine lv_aload_n hx hb dX10_addCage_39 rfl (lv_at hl 1 rfl) ?_
      refine lv_aload_n hx hb dX10_addCage_40 rfl (lv_at hl 1 rfl) ?_
      refine lv_iload_n hx hb dX10_addCage_41 rfl (lv_at hl 2 rfl) ?_
      refine fin_i hP hD hS hA [0, 1] [] (wr := []) rfl rfl (by decide) (by decide) (va_runV (As := [.int v]) (rest := [.ref mo]) ⟨hx, hb, hml, hown, hts⟩ (c_X10_isPuzzle l G mo th al zn pf rs md v H.size) (cwV 1 hts (gV q1002 q1004 q36 q52 q1005) rfl rfl rfl (by decide +kernel) ⟨Nat.le_of_ble_eq_true rfl, Nat.le_of_ble_eq_true rfl⟩) (preV (q0 := 0) (ci := 15) hK hE hP hD hS hA [0, 1] rfl (by decide) rfl rfl) rfl rfl hl.1 rfl (lv_room (Nat.le_of_ble_eq_true rfl)) dX10_addCage_42 ⟨Nat.le_of_ble_eq_true rfl, Nat.le_of_ble_eq_true rfl⟩) (fun r_14 u9 hw_13 H locs hP hD hS => ?_)
      subst hw_13
      have hP : va_P (gD G) vwCl [(mo, .inr (15, [.int th, .ref al, .long (lN zn), .null, .ref pf, .int rs])), (al, .inr (4, [.int md, .ref (gE G), .int (nI 0)]))] H := hP
      have hD : va_D A [(mo, .inr (15, [.int th, .ref al, .long (lN zn), .null, .ref pf, .int rs])), (al, .inr (4, [.int md, .ref (gE G), .int (nI 0)]))] := hD
      refine lv_if_ne (tgt := 52) hx hb dX10_addCage_45 (by decide) (fun c_15 => ?_) (fun c_15 => ?_)
      · skip
        have c_15 : ¬ 0 = 0 := fun z => c_15 ((nI_eq (a := 0) (b := 0) (by omega) (by omega)).mpr z)
        exact absurd c_15 (by decide)
      · skip
        have c_15 : 0 = 0 := (nI_eq (a := 0) (b := 0) (by omega) (by omega)).mp c_15
        refine lv_iconst (v := nI 1) hx hb dX10_addCage_48 (by decide) ?_
        refine lv_goto (tgt := 92) hx hb dX10_addCage_49 (by decide) ?_
        refine fin_i hP hD hS hA [0] [1] (wr := [(al, .inr (4, [.int md, .ref (gE G), .int (nI 0)]))]) rfl rfl (by decide) (by decide) (va_runV (As := [.int (nI 1)]) (rest := []) ⟨hx, hb, hml, hown, hts⟩ (c_isWrong_k l G mo th al zn pf rs 1 (by omega) (by omega) H.size) (cwV 1 hts (gV q962 q964 q34 q52 q965) rfl rfl rfl (by decide +kernel) ⟨Nat.le_of_ble_eq_true rfl, Nat.le_of_ble_eq_true rfl⟩) (preV (q0 := 0) (ci := 15) hK hE hP hD hS hA [0] rfl (by decide) rfl rfl) rfl rfl hl.1 rfl (lv_room (Nat.le_of_ble_eq_true rfl)) dX10_addCage_92 ⟨Nat.le_of_ble_eq_true rfl, Nat.le_of_ble_eq_true rfl⟩) (fun r_17 u9 hw_16 H locs hP hD hS => ?_)
        subst hw_16
        have hP : va_P (gD G) vwCl [(al, .inr (4, [.int md, .ref (gE G), .int (nI 0)])), (mo, .inr (15, [.int (nI 1), .ref al, .long (lN zn), .null, .ref pf, .int rs]))] H := hP
        have hD : va_D A [(al, .inr (4, [.int md, .ref (gE G), .int (nI 0)])), (mo, .inr (15, [.int (nI 1), .ref al, .long (lN zn), .null, .ref pf, .int rs]))] := hD
        refine lv_if_eq (tgt := 100) hx hb dX10_addCage_95 (by decide) (fun c_18 => ?_) (fun c_18 => ?_)
        · skip
          have c_18 : 1 = 0 := (nI_eq (a := 1) (b := 0) (by omega) (by omega)).mp c_18
          exact absurd c_18 (by decide)
        · skip
          have c_18 : ¬ 1 = 0 := fun z => c_18 ((nI_eq (a := 1) (b := 0) (by omega) (by omega)).mpr z)
          refine lv_iconst (v := nI 0) hx hb dX10_addCage_98 (by decide) ?_
          have hP9 := hP.sub (ws' := [(mo, .inr (15, [.int (nI 1), .ref al, .long (lN zn), .null, .ref pf, .int rs])), (al, .inr (4, [.int md, .ref (gE G), .int (nI 0)]))]) [1, 0] rfl
          have hD9 := hD.sub (ws' := [(mo, .inr (15, [.int (nI 1), .ref al, .long (lN zn), .null, .ref pf, .int rs])), (al, .inr (4, [.int md, .ref (gE G), .int (nI 0)]))]) [1, 0] (by decide) rfl
          subst hQ
          exact W.iret (v := nI 0) hx hb hr (fun t ht hW => ⟨⟨nI 0, (), rfl, trivial, by rw [ht]; exact hP9, hD9⟩, hS.F ht⟩) hS.2.2 dX10_addCage_99
    · skip
      refine lv_iload_n hx hb dX10_addCage_20 rfl (lv_at hl 2 rfl) ?_
      refine fin_i hP hD hS hA [] [0, 1] (wr := [(mo, .inr (15, [.int th, .ref al, .long (lN zn), .null, .ref pf, .int rs])), (al, .inr (4, [.int md, .ref (gE G), .int (nI 0)]))]) rfl rfl (by decide) (by decide) (va_runS (As := [.int v2]) (rest := []) ⟨hx, hb, hml, hown, hts⟩ (c_J6_bitCount_0f7a4 l G v2 H.size) (va_cwS 1 hts (gSt q1024 q277 q70 q278) rfl rfl rfl (by decide +kernel) ⟨Nat.le_of_ble_eq_true rfl, Nat.le_of_ble_eq_true rfl⟩) (preS hK hE hP hD hS hA [] rfl (by decide)) rfl rfl hl.1 rfl (lv_room (Nat.le_of_ble_eq_true rfl)) dX10_addCage_21 ⟨Nat.le_of_ble_eq_true rfl, Nat.le_of_ble_eq_true rfl⟩) (fun r_20 u9 hw_19 H locs hP hD hS => ?_)
      have hP : va_P (gD G) vwCl [(mo, .inr (15, [.int th, .ref al, .long (lN zn), .null, .ref pf, .int rs])), (al, .inr (4, [.int md, .ref (gE G), .int (nI 0)]))] H := hP
      have hD : va_D A [(mo, .inr (15, [.int th, .ref al, .long (lN zn), .null, .ref pf, .int rs])), (al, .inr (4, [.int md, .ref (gE G), .int (nI 0)]))] := hD
      refine lv_iconst (v := nI 2) hx hb dX10_addCage_24 (by decide) ?_
      refine lv_iconst (v := nI 4) hx hb dX10_addCage_25 (by decide) ?_
      refine fin_i hP hD hS hA [] [0, 1] (wr := [(mo, .inr (15, [.int th, .ref al, .long (lN zn), .null, .ref pf, .int rs])), (al, .inr (4, [.int md, .ref (gE G), .int (nI 0)]))]) rfl rfl (by decide) (by decide) (va_runS (As := [.int r_20, .int (nI 2), .int (nI 4)]) (rest := []) ⟨hx, hb, hml, hown, hts⟩ (c_isBetween_any l G r_20 (nI 2) (nI 4) H.size) (va_cwS 3 hts (gSt q1006 q1007 q52 q1008) rfl rfl rfl (by decide +kernel) ⟨Nat.le_of_ble_eq_true rfl, Nat.le_of_ble_eq_true rfl⟩) (preS hK hE hP hD hS hA [] rfl (by decide)) rfl rfl hl.1 rfl (lv_room (Nat.le_of_ble_eq_true rfl)) dX10_addCage_26 ⟨Nat.le_of_ble_eq_true rfl, Nat.le_of_ble_eq_true rfl⟩) (fun r_22 u9 hw_21 H locs hP hD hS => ?_)
      have hP : va_P (gD G) vwCl [(mo, .inr (15, [.int th, .ref al, .long (lN zn), .null, .ref pf, .int rs])), (al, .inr (4, [.int md, .ref (gE G), .int (nI 0)]))] H := hP
      have hD : va_D A [(mo, .inr (15, [.int th, .ref al, .long (lN zn), .null, .ref pf, .int rs])), (al, .inr (4, [.int md, .ref (gE G), .int (nI 0)]))] := hD
      refine lv_if_eq (tgt := 36) hx hb dX10_addCage_29 (by decide) (fun c_23 => ?_) (fun c_23 => ?_)
      · skip
        refine lv_iconst (v := nI 0) hx hb dX10_addCage_36 (by decide) ?_
        refine lv_istore (lv' := [(4, .int (nI 0)), (0, .ref mo), (1, .int v), (2, .int v2), (3, .int x)]) hx hb dX10_addCage_37 hl (by decide) rfl (fun ls hl => ?_)
        refine lv_aload_n hx hb dX10_addCage_39 rfl (lv_at hl 1 rfl) ?_
        refine lv_aload_n hx hb dX10_addCage_40 rfl (lv_at hl 1 rfl) ?_
        refine lv_iload_n hx hb dX10_addCage_41 rfl (lv_at hl 2 rfl) ?_
        refine fin_i hP hD hS hA [0, 1] [] (wr := []) rfl rfl (by decide) (by decide) (va_runV (As := [.int v]) (rest := [.ref mo]) ⟨hx, hb, hml, hown, hts⟩ (c_X10_isPuzzle l G mo th al zn pf rs md v H.size) (cwV 1 hts (gV q1002 q1004 q36 q52 q1005) rfl rfl rfl (by decide +kernel) ⟨Nat.le_of_ble_eq_true rfl, Nat.le_of_ble_eq_true rfl⟩) (preV (q0 := 0) (ci := 15) hK hE hP hD hS hA [0, 1] rfl (by decide) rfl rfl) rfl rfl hl.1 rfl (lv_room (Nat.le_of_ble_eq_true rfl)) dX10_addCage_42 ⟨Nat.le_of_ble_eq_true rfl, Nat.le_of_ble_eq_true rfl⟩) (fun r_25 u9 hw_24 H locs hP hD hS => ?_)
        subst hw_24
        have hP : va_P (gD G) vwCl [(mo, .inr (15, [.int th, .ref al, .long (lN zn), .null, .ref pf, .int rs])), (al, .inr (4, [.int md, .ref (gE G), .int (nI 0)]))] H := hP
        have hD : va_D A [(mo, .inr (15, [.int th, .ref al, .long (lN zn), .null, .ref pf, .int rs])), (al, .inr (4, [.int md, .ref (gE G), .int (nI 0)]))] := hD
        refine lv_if_ne (tgt := 52) hx hb dX10_addCage_45 (by decide) (fun c_26 => ?_) (fun c_26 => ?_)
        · skip
          have c_26 : ¬ 0 = 0 := fun z => c_26 ((nI_eq (a := 0) (b := 0) (by omega) (by omega)).mpr z)
          exact absurd c_26 (by decide)
        · skip
          have c_26 : 0 = 0 := (nI_eq (a := 0) (b := 0) (by omega) (by omega)).mp c_26
          refine lv_iconst (v := nI 1) hx hb dX10_addCage_48 (by decide) ?_
          refine lv_goto (tgt := 92) hx hb dX10_addCage_49 (by decide) ?_
          refine fin_i hP hD hS hA [0] [1] (wr := [(al, .inr (4, [.int md, .ref (gE G), .int (nI 0)]))]) rfl rfl (by decide) (by decide) (va_runV (As := [.int (nI 1)]) (rest := []) ⟨hx, hb, hml, hown, hts⟩ (c_isWrong_k l G mo th al zn pf rs 1 (by omega) (by omega) H.size) (cwV 1 hts (gV q962 q964 q34 q52 q965) rfl rfl rfl (by decide +kernel) ⟨Nat.le_of_ble_eq_true rfl, Nat.le_of_ble_eq_true rfl⟩) (preV (q0 := 0) (ci := 15) hK hE hP hD hS hA [0] rfl (by decide) rfl rfl) rfl rfl hl.1 rfl (lv_room (Nat.le_of_ble_eq_true rfl)) dX10_addCage_92 ⟨Nat.le_of_ble_eq_true rfl, Nat.le_of_ble_eq_true rfl⟩) (fun r_28 u9 hw_27 H locs hP hD hS => ?_)
          subst hw_27
          have hP : va_P (gD G) vwCl [(al, .inr (4, [.int md, .ref (gE G), .int (nI 0)])), (mo, .inr (15, [.int (nI 1), .ref al, .long (lN zn), .null, .ref pf, .int rs]))] H := hP
          have hD : va_D A [(al, .inr (4, [.int md, .ref (gE G), .int (nI 0)])), (mo, .inr (15, [.int (nI 1), .ref al, .long (lN zn), .null, .ref pf, .int rs]))] := hD
          refine lv_if_eq (tgt := 100) hx hb dX10_addCage_95 (by decide) (fun c_29 => ?_) (fun c_29 => ?_)
          · skip
            have c_29 : 1 = 0 := (nI_eq (a := 1) (b := 0) (by omega) (by omega)).mp c_29
            exact absurd c_29 (by decide)
          · skip
            have c_29 : ¬ 1 = 0 := fun z => c_29 ((nI_eq (a := 1) (b := 0) (by omega) (by omega)).mpr z)
            refine lv_iconst (v := nI 0) hx hb dX10_addCage_98 (by decide) ?_
            have hP9 := hP.sub (ws' := [(mo, .inr (15, [.int (nI 1), .ref al, .long (lN zn), .null, .ref pf, .int rs])), (al, .inr (4, [.int md, .ref (gE G), .int (nI 0)]))]) [1, 0] rfl
            have hD9 := hD.sub (ws' := [(mo, .inr (15, [.int (nI 1), .ref al, .long (lN zn), .null, .ref pf, .int rs])), (al, .inr (4, [.int md, .ref (gE G), .int (nI 0)]))]) [1, 0] (by decide) rfl
            subst hQ
            exact W.iret (v := nI 0) hx hb hr (fun t ht hW => ⟨⟨nI 0, (), rfl, trivial, by rw [ht]; exact hP9, hD9⟩, hS.F ht⟩) hS.2.2 dX10_addCage_99
      · skip
        refine lv_iconst (v := nI 1) hx hb dX10_addCage_32 (by decide) ?_
        refine lv_goto (tgt := 37) hx hb dX10_addCage_33 (by decide) ?_
        refine lv_istore (lv' := [(4, .int (nI 1)), (0, .ref mo), (1, .int v), (2, .int v2), (3, .int x)]) hx hb dX10_addCage_37 hl (by decide) rfl (fun ls hl => ?_)
        refine lv_aload_n hx hb dX10_addCage_39 rfl (lv_at hl 1 rfl) ?_
        refine lv_aload_n hx hb dX10_addCage_40 rfl (lv_at hl 1 rfl) ?_
        refine lv_iload_n hx hb dX10_addCage_41 rfl (lv_at hl 2 rfl) ?_
        refine fin_i hP hD hS hA [0, 1] [] (wr := []) rfl rfl (by decide) (by decide) (va_runV (As := [.int v]) (rest := [.ref mo]) ⟨hx, hb, hml, hown, hts⟩ (c_X10_isPuzzle l G mo th al zn pf rs md v H.size) (cwV 1 hts (gV q1002 q1004 q36 q52 q1005) rfl rfl rfl (by decide +kernel) ⟨Nat.le_of_ble_eq_true rfl, Nat.le_of_ble_eq_true rfl⟩) (preV (q0 := 0) (ci := 15) hK hE hP hD hS hA [0, 1] rfl (by decide) rfl rfl) rfl rfl hl.1 rfl (lv_room (Nat.le_of_ble_eq_true rfl)) dX10_addCage_42 ⟨Nat.le_of_ble_eq_true rfl, Nat.le_of_ble_eq_true rfl⟩) (fun r_31 u9 hw_30 H locs hP hD hS => ?_)
        subst hw_30
        have hP : va_P (gD G) vwCl [(mo, .inr (15, [.int th, .ref al, .long (lN zn), .null, .ref pf, .int rs])), (al, .inr (4, [.int md, .ref (gE G), .int (nI 0)]))] H := hP
        have hD : va_D A [(mo, .inr (15, [.int th, .ref al, .long (lN zn), .null, .ref pf, .int rs])), (al, .inr (4, [.int md, .ref (gE G), .int (nI 0)]))] := hD
        refine lv_if_ne (tgt := 52) hx hb dX10_addCage_45 (by decide) (fun c_32 => ?_) (fun c_32 => ?_)
        · skip
          have c_32 : ¬ 0 = 0 := fun z => c_32 ((nI_eq (a := 0) (b := 0) (by omega) (by omega)).mpr z)
          exact absurd c_32 (by decide)
        · skip
          have c_32 : 0 = 0 := (nI_eq (a := 0) (b := 0) (by omega) (by omega)).mp c_32
          refine lv_iconst (v := nI 1) hx hb dX10_addCage_48 (by decide) ?_
          refine lv_goto (tgt := 92) hx hb dX10_addCage_49 (by decide) ?_
          refine fin_i hP hD hS hA [0] [1] (wr := [(al, .inr (4, [.int md, .ref (gE G), .int (nI 0)]))]) rfl rfl (by decide) (by decide) (va_runV (As := [.int (nI 1)]) (rest := []) ⟨hx, hb, hml, hown, hts⟩ (c_isWrong_k l G mo th al zn pf rs 1 (by omega) (by omega) H.size) (cwV 1 hts (gV q962 q964 q34 q52 q965) rfl rfl rfl (by decide +kernel) ⟨Nat.le_of_ble_eq_true rfl, Nat.le_of_ble_eq_true rfl⟩) (preV (q0 := 0) (ci := 15) hK hE hP hD hS hA [0] rfl (by decide) rfl rfl) rfl rfl hl.1 rfl (lv_room (Nat.le_of_ble_eq_true rfl)) dX10_addCage_92 ⟨Nat.le_of_ble_eq_true rfl, Nat.le_of_ble_eq_true rfl⟩) (fun r_34 u9 hw_33 H locs hP hD hS => ?_)
          subst hw_33
          have hP : va_P (gD G) vwCl [(al, .inr (4, [.int md, .ref (gE G), .int (nI 0)])), (mo, .inr (15, [.int (nI 1), .ref al, .long (lN zn), .null, .ref pf, .int rs]))] H := hP
          have hD : va_D A [(al, .inr (4, [.int md, .ref (gE G), .int (nI 0)])), (mo, .inr (15, [.int (nI 1), .ref al, .long (lN zn), .null, .ref pf, .int rs]))] := hD
          refine lv_if_eq (tgt := 100) hx hb dX10_addCage_95 (by decide) (fun c_35 => ?_) (fun c_35 => ?_)
          · skip
            have c_35 : 1 = 0 := (nI_eq (a := 1) (b := 0) (by omega) (by omega)).mp c_35
            exact absurd c_35 (by decide)
          · skip
            have c_35 : ¬ 1 = 0 := fun z => c_35 ((nI_eq (a := 1) (b := 0) (by omega) (by omega)).mpr z)
            refine lv_iconst (v := nI 0) hx hb dX10_addCage_98 (by decide) ?_
            have hP9 := hP.sub (ws' := [(mo, .inr (15, [.int (nI 1), .ref al, .long (lN zn), .null, .ref pf, .int rs])), (al, .inr (4, [.int md, .ref (gE G), .int (nI 0)]))]) [1, 0] rfl
            have hD9 := hD.sub (ws' := [(mo, .inr (15, [.int (nI 1), .ref al, .long (lN zn), .null, .ref pf, .int rs])), (al, .inr (4, [.int md, .ref (gE G), .int (nI 0)]))]) [1, 0] (by decide) rfl
            subst hQ
            exact W.iret (v := nI 0) hx hb hr (fun t ht hW => ⟨⟨nI 0, (), rfl, trivial, by rw [ht]; exact hP9, hD9⟩, hS.F ht⟩) hS.2.2 dX10_addCage_99
set_option maxHeartbeats 4000000 in
set_option maxRecDepth 100000 in
theorem c_X10_given (l : Launch) (G : GG) (mo : Nat) (th : Int32) (al : Nat) (zn : Nat) (pf : Nat) (rs : Int32) (md : Int32) (v : Int32) (v2 : Int32) : Mi l G yX10_given cX10_given 3 (some .int) ({ frames := 3, cells := 0, slots := 0, locals := 65 } : Room) [.ref mo, .int v, .int v2] [(mo, .inr (15, [.int th, .ref al, .long (lN zn), .null, .ref pf, .int rs])), (al, .inr (4, [.int md, .ref (gE G), .int (nI 0)]))] (fun (r : Int32) (u : Unit) => True) (fun (u : Unit) => [(mo, .inr (15, [.int (nI 1), .ref al, .long (lN zn), .null, .ref pf, .int rs])), (al, .inr (4, [.int md, .ref (gE G), .int (nI 0)]))]) := by
  intro sz
  refine Met.ofW (cc := cX10_given) (maxL := 3) (ret := (some .int)) (by decide) rfl ?_
  intro p e s m args below meth c s₁ B9 hml hv
  obtain ⟨rfl, hsz, hP, hK, hD0, hE⟩ := hv
  have hx := B9.exec
  have hb := B9.bytes
  have hr := B9.returns
  have hts : ∀ w ∈ WW, w.before ([.ref mo, .int v, .int v2] : List Value).toArray s = true := fun w h => atoms_spec (ws := .code yX10_given cX10_given 3 (some .int) :: WW) B9.pre w (List.mem_cons_of_mem _ h)
  have hown : s.vm.findClass RX10 = some m.cls := findClass_of_methodNamed B9.named
  subst hsz
  have hD := hD0.self (sz := s.heap.size)
  generalize hAe : va_A [(mo, .inr (15, [.int th, .ref al, .long (lN zn), .null, .ref pf, .int rs])), (al, .inr (4, [.int md, .ref (gE G), .int (nI 0)]))] s.heap.size = A at hD hE ⊢
  have hA : ∀ q : Nat, s.heap.size ≤ q → A q := fun q h => by rw [← hAe]; exact Or.inr h
  have hl := lv_entry ([.ref mo, .int v, .int v2]) (n := 3) (Nat.le_of_ble_eq_true rfl)
  rw [lg_entry_eq]
  generalize (lg_sl ([.ref mo, .int v, .int v2]) ++ List.replicate (3 - (lg_sl ([.ref mo, .int v, .int v2])).length) Slot.unset).toArray = ls at hl ⊢
  have hl : lv_has ls 3 [(0, .ref mo), (1, .int v), (2, .int v2)] := hl
  refine qgen (fun Q hQ => ?_)
  refine hgen (fun H locs hP hD hS => ?_) hP hD
  refine lv_aload_n hx hb dX10_given_0 rfl (lv_at hl 0 rfl) ?_
  refine lv_iload_n hx hb dX10_given_1 rfl (lv_at hl 1 rfl) ?_
  refine lv_iload_n hx hb dX10_given_2 rfl (lv_at hl 2 rfl) ?_
  refine fin_i hP hD hS hA [0, 1] [] (wr := []) rfl rfl (by decide) (by decide) (va_runV (As := [.int v, .int v2]) (rest := []) ⟨hx, hb, hml, hown, hts⟩ (c_X10_isNoCell l G mo th al zn pf rs md v v2 H.size) (cwV 2 hts (gV q998 q1000 q35 q52 q1001) rfl rfl rfl (by decide +kernel) ⟨Nat.le_of_ble_eq_true rfl, Nat.le_of_ble_eq_true rfl⟩) (preV (q0 := 0) (ci := 15) hK hE hP hD hS hA [0, 1] rfl (by decide) rfl rfl) rfl rfl hl.1 rfl (lv_room (Nat.le_of_ble_eq_true rfl)) dX10_given_3 ⟨Nat.le_of_ble_eq_true rfl, Nat.le_of_ble_eq_true rfl⟩) (fun r_2 u9 hw_1 H locs hP hD hS => ?_)
  subst hw_1
  have hP : va_P (gD G) vwCl [(mo, .inr (15, [.int (nI 1), .ref al, .long (lN zn), .null, .ref pf, .int rs])), (al, .inr (4, [.int md, .ref (gE G), .int (nI 0)]))] H := hP
  have hD : va_D A [(mo, .inr (15, [.int (nI 1), .ref al, .long (lN zn), .null, .ref pf, .int rs])), (al, .inr (4, [.int md, .ref (gE G), .int (nI 0)]))] := hD
  refine lv_if_eq (tgt := 13) hx hb dX10_given_6 (by decide) (fun c_3 => ?_) (fun c_3 => ?_)
  · skip
    have c_3 : 1 = 0 := (nI_eq (a := 1) (b := 0) (by omega) (by omega)).mp c_3
    exact absurd c_3 (by decide)
  · skip
    have c_3 : ¬ 1 = 0 := fun z => c_3 ((nI_eq (a := 1) (b := 0) (by omega) (by omega)).mpr z)
    refine lv_iconst (v := nI 0) hx hb dX10_given_9 (by decide) ?_
    refine lv_goto (tgt := 31) hx hb dX10_given_10 (by decide) ?_
    have hP9 := hP.sub (ws' := [(mo, .inr (15, [.int (nI 1), .ref al, .long (lN zn), .null, .ref pf, .int rs])), (al, .inr (4, [.int md, .ref (gE G), .int (nI 0)]))]) [0, 1] rfl
    have hD9 := hD.sub (ws' := [(mo, .inr (15, [.int (nI 1), .ref al, .long (lN zn), .null, .ref pf, .int rs])), (al, .inr (4, [.int md, .ref (gE G), .int (nI 0)]))]) [0, 1] (by decide) rfl
    subst hQ
    exact W.iret (v := nI 0) hx hb hr (fun t ht hW => ⟨⟨nI 0, (), rfl, trivial, by rw [ht]; exact hP9, hD9⟩, hS.F ht⟩) hS.2.2 dX10_given_31
set_option maxHeartbeats 4000000 in
set_option maxRecDepth 100000 in
theorem c_X10_givens (l : Launch) (G : GG) (mo : Nat) (th : Int32) (al : Nat) (zn : Nat) (pf : Nat) (rs : Int32) (md : Int32) (v : Int32) : Mi l G yX10_givens cX10_givens 2 (some .int) ({ frames := 3, cells := 0, slots := 0, locals := 64 } : Room) [.ref mo, .int v] [(mo, .inr (15, [.int th, .ref al, .long (lN zn), .null, .ref pf, .int rs])), (al, .inr (4, [.int md, .ref (gE G), .int (nI 0)]))] (fun (r : Int32) (u : Unit) => True) (fun (u : Unit) => [(mo, .inr (15, [.int (nI 1), .ref al, .long (lN zn), .null, .ref pf, .int rs])), (al, .inr (4, [.int md, .ref (gE G), .int (nI 0)]))]) := by
  intro sz
  refine Met.ofW (cc := cX10_givens) (maxL := 2) (ret := (some .int)) (by decide) rfl ?_
  intro p e s m args below meth c s₁ B9 hml hv
  obtain ⟨rfl, hsz, hP, hK, hD0, hE⟩ := hv
  have hx := B9.exec
  have hb := B9.bytes
  have hr := B9.returns
  have hts : ∀ w ∈ WW, w.before ([.ref mo, .int v] : List Value).toArray s = true := fun w h => atoms_spec (ws := .code yX10_givens cX10_givens 2 (some .int) :: WW) B9.pre w (List.mem_cons_of_mem _ h)
  have hown : s.vm.findClass RX10 = some m.cls := findClass_of_methodNamed B9.named
  subst hsz
  have hD := hD0.self (sz := s.heap.size)
  generalize hAe : va_A [(mo, .inr (15, [.int th, .ref al, .long (lN zn), .null, .ref pf, .int rs])), (al, .inr (4, [.int md, .ref (gE G), .int (nI 0)]))] s.heap.size = A at hD hE ⊢
  have hA : ∀ q : Nat, s.heap.size ≤ q → A q := fun q h => by rw [← hAe]; exact Or.inr h
  have hl := lv_entry ([.ref mo, .int v]) (n := 2) (Nat.le_of_ble_eq_true rfl)
  rw [lg_entry_eq]
  generalize (lg_sl ([.ref mo, .int v]) ++ List.replicate (2 - (lg_sl ([.ref mo, .int v])).length) Slot.unset).toArray = ls at hl ⊢
  have hl : lv_has ls 2 [(0, .ref mo), (1, .int v)] := hl
  refine qgen (fun Q hQ => ?_)
  refine hgen (fun H locs hP hD hS => ?_) hP hD
  refine lv_aload_n hx hb dX10_givens_0 rfl (lv_at hl 0 rfl) ?_
  refine lv_iload_n hx hb dX10_givens_1 rfl (lv_at hl 1 rfl) ?_
  refine fin_i hP hD hS hA [0, 1] [] (wr := []) rfl rfl (by decide) (by decide) (va_runV (As := [.int v]) (rest := []) ⟨hx, hb, hml, hown, hts⟩ (c_X10_isNone l G mo th al zn pf rs md v H.size) (cwV 1 hts (gV q1225 q1227 q40 q52 q1228) rfl rfl rfl (by decide +kernel) ⟨Nat.le_of_ble_eq_true rfl, Nat.le_of_ble_eq_true rfl⟩) (preV (q0 := 0) (ci := 15) hK hE hP hD hS hA [0, 1] rfl (by decide) rfl rfl) rfl rfl hl.1 rfl (lv_room (Nat.le_of_ble_eq_true rfl)) dX10_givens_2 ⟨Nat.le_of_ble_eq_true rfl, Nat.le_of_ble_eq_true rfl⟩) (fun r_2 u9 hw_1 H locs hP hD hS => ?_)
  subst hw_1
  have hP : va_P (gD G) vwCl [(mo, .inr (15, [.int (nI 1), .ref al, .long (lN zn), .null, .ref pf, .int rs])), (al, .inr (4, [.int md, .ref (gE G), .int (nI 0)]))] H := hP
  have hD : va_D A [(mo, .inr (15, [.int (nI 1), .ref al, .long (lN zn), .null, .ref pf, .int rs])), (al, .inr (4, [.int md, .ref (gE G), .int (nI 0)]))] := hD
  refine lv_if_eq (tgt := 12) hx hb dX10_givens_5 (by decide) (fun c_3 => ?_) (fun c_3 => ?_)
  · skip
    have c_3 : 1 = 0 := (nI_eq (a := 1) (b := 0) (by omega) (by omega)).mp c_3
    exact absurd c_3 (by decide)
  · skip
    have c_3 : ¬ 1 = 0 := fun z => c_3 ((nI_eq (a := 1) (b := 0) (by omega) (by omega)).mpr z)
    refine lv_iconst (v := nI 0) hx hb dX10_givens_8 (by decide) ?_
    refine lv_goto (tgt := 31) hx hb dX10_givens_9 (by decide) ?_
    have hP9 := hP.sub (ws' := [(mo, .inr (15, [.int (nI 1), .ref al, .long (lN zn), .null, .ref pf, .int rs])), (al, .inr (4, [.int md, .ref (gE G), .int (nI 0)]))]) [0, 1] rfl
    have hD9 := hD.sub (ws' := [(mo, .inr (15, [.int (nI 1), .ref al, .long (lN zn), .null, .ref pf, .int rs])), (al, .inr (4, [.int md, .ref (gE G), .int (nI 0)]))]) [0, 1] (by decide) rfl
    subst hQ
    exact W.iret (v := nI 0) hx hb hr (fun t ht hW => ⟨⟨nI 0, (), rfl, trivial, by rw [ht]; exact hP9, hD9⟩, hS.F ht⟩) hS.2.2 dX10_givens_31
set_option maxHeartbeats 4000000 in
set_option maxRecDepth 100000 in
theorem c_X10_solutions (l : Launch) (G : GG) (mo : Nat) (th : Int32) (al : Nat) (zn : Nat) (pf : Nat) (rs : Int32) (md : Int32) (v : Int32) : Mi l G yX10_solutions cX10_solutions 2 (some .int) ({ frames := 3, cells := 0, slots := 0, locals := 64 } : Room) [.ref mo, .int v] [(mo, .inr (15, [.int th, .ref al, .long (lN zn), .null, .ref pf, .int rs])), (al, .inr (4, [.int md, .ref (gE G), .int (nI 0)]))] (fun (r : Int32) (u : Unit) => True) (fun (u : Unit) => [(mo, .inr (15, [.int (nI 1), .ref al, .long (lN zn), .null, .ref pf, .int rs])), (al, .inr (4, [.int md, .ref (gE G), .int (nI 0)]))]) := by
  intro sz
  refine Met.ofW (cc := cX10_solutions) (maxL := 2) (ret := (some .int)) (by decide) rfl ?_
  intro p e s m args below meth c s₁ B9 hml hv
  obtain ⟨rfl, hsz, hP, hK, hD0, hE⟩ := hv
  have hx := B9.exec
  have hb := B9.bytes
  have hr := B9.returns
  have hts : ∀ w ∈ WW, w.before ([.ref mo, .int v] : List Value).toArray s = true := fun w h => atoms_spec (ws := .code yX10_solutions cX10_solutions 2 (some .int) :: WW) B9.pre w (List.mem_cons_of_mem _ h)
  have hown : s.vm.findClass RX10 = some m.cls := findClass_of_methodNamed B9.named
  subst hsz
  have hD := hD0.self (sz := s.heap.size)
  generalize hAe : va_A [(mo, .inr (15, [.int th, .ref al, .long (lN zn), .null, .ref pf, .int rs])), (al, .inr (4, [.int md, .ref (gE G), .int (nI 0)]))] s.heap.size = A at hD hE ⊢
  have hA : ∀ q : Nat, s.heap.size ≤ q → A q := fun q h => by rw [← hAe]; exact Or.inr h
  have hl := lv_entry ([.ref mo, .int v]) (n := 2) (Nat.le_of_ble_eq_true rfl)
  rw [lg_entry_eq]
  generalize (lg_sl ([.ref mo, .int v]) ++ List.replicate (2 - (lg_sl ([.ref mo, .int v])).length) Slot.unset).toArray = ls at hl ⊢
  have hl : lv_has ls 2 [(0, .ref mo), (1, .int v)] := hl
  refine qgen (fun Q hQ => ?_)
  refine hgen (fun H locs hP hD hS => ?_) hP hD
  refine lv_aload_n hx hb dX10_solutions_0 rfl (lv_at hl 0 rfl) ?_
  refine lv_iload_n hx hb dX10_solutions_1 rfl (lv_at hl 1 rfl) ?_
  refine fin_i hP hD hS hA [0, 1] [] (wr := []) rfl rfl (by decide) (by decide) (va_runV (As := [.int v]) (rest := []) ⟨hx, hb, hml, hown, hts⟩ (c_X10_isNone l G mo th al zn pf rs md v H.size) (cwV 1 hts (gV q1225 q1227 q40 q52 q1228) rfl rfl rfl (by decide +kernel) ⟨Nat.le_of_ble_eq_true rfl, Nat.le_of_ble_eq_true rfl⟩) (preV (q0 := 0) (ci := 15) hK hE hP hD hS hA [0, 1] rfl (by decide) rfl rfl) rfl rfl hl.1 rfl (lv_room (Nat.le_of_ble_eq_true rfl)) dX10_solutions_2 ⟨Nat.le_of_ble_eq_true rfl, Nat.le_of_ble_eq_true rfl⟩) (fun r_2 u9 hw_1 H locs hP hD hS => ?_)
  subst hw_1
  have hP : va_P (gD G) vwCl [(mo, .inr (15, [.int (nI 1), .ref al, .long (lN zn), .null, .ref pf, .int rs])), (al, .inr (4, [.int md, .ref (gE G), .int (nI 0)]))] H := hP
  have hD : va_D A [(mo, .inr (15, [.int (nI 1), .ref al, .long (lN zn), .null, .ref pf, .int rs])), (al, .inr (4, [.int md, .ref (gE G), .int (nI 0)]))] := hD
  refine lv_if_eq (tgt := 12) hx hb dX10_solutions_5 (by decide) (fun c_3 => ?_) (fun c_3 => ?_)
  · skip
    have c_3 : 1 = 0 := (nI_eq (a := 1) (b := 0) (by omega) (by omega)).mp c_3
    exact absurd c_3 (by decide)
  · skip
    have c_3 : ¬ 1 = 0 := fun z => c_3 ((nI_eq (a := 1) (b := 0) (by omega) (by omega)).mpr z)
    refine lv_iconst (v := nI 0) hx hb dX10_solutions_8 (by decide) ?_
    refine lv_goto (tgt := 32) hx hb dX10_solutions_9 (by decide) ?_
    have hP9 := hP.sub (ws' := [(mo, .inr (15, [.int (nI 1), .ref al, .long (lN zn), .null, .ref pf, .int rs])), (al, .inr (4, [.int md, .ref (gE G), .int (nI 0)]))]) [0, 1] rfl
    have hD9 := hD.sub (ws' := [(mo, .inr (15, [.int (nI 1), .ref al, .long (lN zn), .null, .ref pf, .int rs])), (al, .inr (4, [.int md, .ref (gE G), .int (nI 0)]))]) [0, 1] (by decide) rfl
    subst hQ
    exact W.iret (v := nI 0) hx hb hr (fun t ht hW => ⟨⟨nI 0, (), rfl, trivial, by rw [ht]; exact hP9, hD9⟩, hS.F ht⟩) hS.2.2 dX10_solutions_32
set_option maxHeartbeats 4000000 in
set_option maxRecDepth 100000 in
theorem c_X10_solution (l : Launch) (G : GG) (mo : Nat) (th : Int32) (al : Nat) (zn : Nat) (pf : Nat) (rs : Int32) (md : Int32) (v : Int32) (v2 : Int32) : Mi l G yX10_solution cX10_solution 4 (some .int) ({ frames := 3, cells := 0, slots := 0, locals := 65 } : Room) [.ref mo, .int v, .int v2] [(mo, .inr (15, [.int th, .ref al, .long (lN zn), .null, .ref pf, .int rs])), (al, .inr (4, [.int md, .ref (gE G), .int (nI 0)]))] (fun (r : Int32) (u : Unit) => True) (fun (u : Unit) => [(mo, .inr (15, [.int (nI 1), .ref al, .long (lN zn), .null, .ref pf, .int rs])), (al, .inr (4, [.int md, .ref (gE G), .int (nI 0)]))]) := by
  intro sz
  refine Met.ofW (cc := cX10_solution) (maxL := 4) (ret := (some .int)) (by decide) rfl ?_
  intro p e s m args below meth c s₁ B9 hml hv
  obtain ⟨rfl, hsz, hP, hK, hD0, hE⟩ := hv
  have hx := B9.exec
  have hb := B9.bytes
  have hr := B9.returns
  have hts : ∀ w ∈ WW, w.before ([.ref mo, .int v, .int v2] : List Value).toArray s = true := fun w h => atoms_spec (ws := .code yX10_solution cX10_solution 4 (some .int) :: WW) B9.pre w (List.mem_cons_of_mem _ h)
  have hown : s.vm.findClass RX10 = some m.cls := findClass_of_methodNamed B9.named
  subst hsz
  have hD := hD0.self (sz := s.heap.size)
  generalize hAe : va_A [(mo, .inr (15, [.int th, .ref al, .long (lN zn), .null, .ref pf, .int rs])), (al, .inr (4, [.int md, .ref (gE G), .int (nI 0)]))] s.heap.size = A at hD hE ⊢
  have hA : ∀ q : Nat, s.heap.size ≤ q → A q := fun q h => by rw [← hAe]; exact Or.inr h
  have hl := lv_entry ([.ref mo, .int v, .int v2]) (n := 4) (Nat.le_of_ble_eq_true rfl)
  rw [lg_entry_eq]
  generalize (lg_sl ([.ref mo, .int v, .int v2]) ++ List.replicate (4 - (lg_sl ([.ref mo, .int v, .int v2])).length) Slot.unset).toArray = ls at hl ⊢
  have hl : lv_has ls 4 [(0, .ref mo), (1, .int v), (2, .int v2)] := hl
  refine qgen (fun Q hQ => ?_)
  refine hgen (fun H locs hP hD hS => ?_) hP hD
  refine lv_aload_n hx hb dX10_solution_0 rfl (lv_at hl 0 rfl) ?_
  refine lv_iload_n hx hb dX10_solution_1 rfl (lv_at hl 1 rfl) ?_
  refine lv_iload_n hx hb dX10_solution_2 rfl (lv_at hl 2 rfl) ?_
  refine fin_i hP hD hS hA [0, 1] [] (wr := []) rfl rfl (by decide) (by decide) (va_runV (As := [.int v, .int v2]) (rest := []) ⟨hx, hb, hml, hown, hts⟩ (c_X10_isNoCell l G mo th al zn pf rs md v v2 H.size) (cwV 2 hts (gV q998 q1000 q35 q52 q1001) rfl rfl rfl (by decide +kernel) ⟨Nat.le_of_ble_eq_true rfl, Nat.le_of_ble_eq_true rfl⟩) (preV (q0 := 0) (ci := 15) hK hE hP hD hS hA [0, 1] rfl (by decide) rfl rfl) rfl rfl hl.1 rfl (lv_room (Nat.le_of_ble_eq_true rfl)) dX10_solution_3 ⟨Nat.le_of_ble_eq_true rfl, Nat.le_of_ble_eq_true rfl⟩) (fun r_2 u9 hw_1 H locs hP hD hS => ?_)
  subst hw_1
  have hP : va_P (gD G) vwCl [(mo, .inr (15, [.int (nI 1), .ref al, .long (lN zn), .null, .ref pf, .int rs])), (al, .inr (4, [.int md, .ref (gE G), .int (nI 0)]))] H := hP
  have hD : va_D A [(mo, .inr (15, [.int (nI 1), .ref al, .long (lN zn), .null, .ref pf, .int rs])), (al, .inr (4, [.int md, .ref (gE G), .int (nI 0)]))] := hD
  refine lv_if_eq (tgt := 11) hx hb dX10_solution_6 (by decide) (fun c_3 => ?_) (fun c_3 => ?_)
  · skip
    have c_3 : 1 = 0 := (nI_eq (a := 1) (b := 0) (by omega) (by omega)).mp c_3
    exact absurd c_3 (by decide)
  · skip
    have c_3 : ¬ 1 = 0 := fun z => c_3 ((nI_eq (a := 1) (b := 0) (by omega) (by omega)).mpr z)
    refine lv_iconst (v := nI 0) hx hb dX10_solution_9 (by decide) ?_
    have hP9 := hP.sub (ws' := [(mo, .inr (15, [.int (nI 1), .ref al, .long (lN zn), .null, .ref pf, .int rs])), (al, .inr (4, [.int md, .ref (gE G), .int (nI 0)]))]) [0, 1] rfl
    have hD9 := hD.sub (ws' := [(mo, .inr (15, [.int (nI 1), .ref al, .long (lN zn), .null, .ref pf, .int rs])), (al, .inr (4, [.int md, .ref (gE G), .int (nI 0)]))]) [0, 1] (by decide) rfl
    subst hQ
    exact W.iret (v := nI 0) hx hb hr (fun t ht hW => ⟨⟨nI 0, (), rfl, trivial, by rw [ht]; exact hP9, hD9⟩, hS.F ht⟩) hS.2.2 dX10_solution_10
set_option maxHeartbeats 4000000 in
set_option maxRecDepth 100000 in
theorem c_X10_solve (l : Launch) (G : GG) (mo : Nat) (th : Int32) (al : Nat) (zn : Nat) (pf : Nat) (rs : Int32) (md : Int32) (v : Int32) : Mi l G yX10_solve cX10_solve 2 (some .char) ({ frames := 3, cells := 0, slots := 0, locals := 64 } : Room) [.ref mo, .int v] [(mo, .inr (15, [.int th, .ref al, .long (lN zn), .null, .ref pf, .int rs])), (al, .inr (4, [.int md, .ref (gE G), .int (nI 0)]))] (fun (r : Int32) (u : Unit) => True) (fun (u : Unit) => [(mo, .inr (15, [.int (nI 1), .ref al, .long (lN zn), .null, .ref pf, .int rs])), (al, .inr (4, [.int md, .ref (gE G), .int (nI 0)]))]) := by
  intro sz
  refine Met.ofW (cc := cX10_solve) (maxL := 2) (ret := (some .char)) (by decide) rfl ?_
  intro p e s m args below meth c s₁ B9 hml hv
  obtain ⟨rfl, hsz, hP, hK, hD0, hE⟩ := hv
  have hx := B9.exec
  have hb := B9.bytes
  have hr := B9.returns
  have hts : ∀ w ∈ WW, w.before ([.ref mo, .int v] : List Value).toArray s = true := fun w h => atoms_spec (ws := .code yX10_solve cX10_solve 2 (some .char) :: WW) B9.pre w (List.mem_cons_of_mem _ h)
  have hown : s.vm.findClass RX10 = some m.cls := findClass_of_methodNamed B9.named
  subst hsz
  have hD := hD0.self (sz := s.heap.size)
  generalize hAe : va_A [(mo, .inr (15, [.int th, .ref al, .long (lN zn), .null, .ref pf, .int rs])), (al, .inr (4, [.int md, .ref (gE G), .int (nI 0)]))] s.heap.size = A at hD hE ⊢
  have hA : ∀ q : Nat, s.heap.size ≤ q → A q := fun q h => by rw [← hAe]; exact Or.inr h
  have hl := lv_entry ([.ref mo, .int v]) (n := 2) (Nat.le_of_ble_eq_true rfl)
  rw [lg_entry_eq]
  generalize (lg_sl ([.ref mo, .int v]) ++ List.replicate (2 - (lg_sl ([.ref mo, .int v])).length) Slot.unset).toArray = ls at hl ⊢
  have hl : lv_has ls 2 [(0, .ref mo), (1, .int v)] := hl
  refine qgen (fun Q hQ => ?_)
  refine hgen (fun H locs hP hD hS => ?_) hP hD
  refine lv_aload_n hx hb dX10_solve_0 rfl (lv_at hl 0 rfl) ?_
  refine lv_iload_n hx hb dX10_solve_1 rfl (lv_at hl 1 rfl) ?_
  refine fin_i hP hD hS hA [0, 1] [] (wr := []) rfl rfl (by decide) (by decide) (va_runV (As := [.int v]) (rest := []) ⟨hx, hb, hml, hown, hts⟩ (c_X10_isNone l G mo th al zn pf rs md v H.size) (cwV 1 hts (gV q1225 q1227 q40 q52 q1228) rfl rfl rfl (by decide +kernel) ⟨Nat.le_of_ble_eq_true rfl, Nat.le_of_ble_eq_true rfl⟩) (preV (q0 := 0) (ci := 15) hK hE hP hD hS hA [0, 1] rfl (by decide) rfl rfl) rfl rfl hl.1 rfl (lv_room (Nat.le_of_ble_eq_true rfl)) dX10_solve_2 ⟨Nat.le_of_ble_eq_true rfl, Nat.le_of_ble_eq_true rfl⟩) (fun r_2 u9 hw_1 H locs hP hD hS => ?_)
  subst hw_1
  have hP : va_P (gD G) vwCl [(mo, .inr (15, [.int (nI 1), .ref al, .long (lN zn), .null, .ref pf, .int rs])), (al, .inr (4, [.int md, .ref (gE G), .int (nI 0)]))] H := hP
  have hD : va_D A [(mo, .inr (15, [.int (nI 1), .ref al, .long (lN zn), .null, .ref pf, .int rs])), (al, .inr (4, [.int md, .ref (gE G), .int (nI 0)]))] := hD
  refine lv_if_eq (tgt := 12) hx hb dX10_solve_5 (by decide) (fun c_3 => ?_) (fun c_3 => ?_)
  · skip
    have c_3 : 1 = 0 := (nI_eq (a := 1) (b := 0) (by omega) (by omega)).mp c_3
    exact absurd c_3 (by decide)
  · skip
    have c_3 : ¬ 1 = 0 := fun z => c_3 ((nI_eq (a := 1) (b := 0) (by omega) (by omega)).mpr z)
    refine lv_iconst (v := nI 0) hx hb dX10_solve_8 (by decide) ?_
    refine lv_goto (tgt := 20) hx hb dX10_solve_9 (by decide) ?_
    have hP9 := hP.sub (ws' := [(mo, .inr (15, [.int (nI 1), .ref al, .long (lN zn), .null, .ref pf, .int rs])), (al, .inr (4, [.int md, .ref (gE G), .int (nI 0)]))]) [0, 1] rfl
    have hD9 := hD.sub (ws' := [(mo, .inr (15, [.int (nI 1), .ref al, .long (lN zn), .null, .ref pf, .int rs])), (al, .inr (4, [.int md, .ref (gE G), .int (nI 0)]))]) [0, 1] (by decide) rfl
    subst hQ
    exact W.zret (v := nI 0) hx hb hr (by decide) (fun t ht hW => ⟨⟨nI 0, (), rfl, trivial, by rw [ht]; exact hP9, hD9⟩, hS.F ht⟩) hS.2.2 dX10_solve_20
set_option maxHeartbeats 4000000 in
set_option maxRecDepth 100000 in
theorem c_X10_steps (l : Launch) (G : GG) (mo : Nat) (th : Int32) (al : Nat) (zn : Nat) (pf : Nat) (rs : Int32) (md : Int32) (v : Int32) : Mi l G yX10_steps cX10_steps 2 (some .int) ({ frames := 3, cells := 0, slots := 0, locals := 64 } : Room) [.ref mo, .int v] [(mo, .inr (15, [.int th, .ref al, .long (lN zn), .null, .ref pf, .int rs])), (al, .inr (4, [.int md, .ref (gE G), .int (nI 0)]))] (fun (r : Int32) (u : Unit) => True) (fun (u : Unit) => [(mo, .inr (15, [.int (nI 1), .ref al, .long (lN zn), .null, .ref pf, .int rs])), (al, .inr (4, [.int md, .ref (gE G), .int (nI 0)]))]) := by
  intro sz
  refine Met.ofW (cc := cX10_steps) (maxL := 2) (ret := (some .int)) (by decide) rfl ?_
  intro p e s m args below meth c s₁ B9 hml hv
  obtain ⟨rfl, hsz, hP, hK, hD0, hE⟩ := hv
  have hx := B9.exec
  have hb := B9.bytes
  have hr := B9.returns
  have hts : ∀ w ∈ WW, w.before ([.ref mo, .int v] : List Value).toArray s = true := fun w h => atoms_spec (ws := .code yX10_steps cX10_steps 2 (some .int) :: WW) B9.pre w (List.mem_cons_of_mem _ h)
  have hown : s.vm.findClass RX10 = some m.cls := findClass_of_methodNamed B9.named
  subst hsz
  have hD := hD0.self (sz := s.heap.size)
  generalize hAe : va_A [(mo, .inr (15, [.int th, .ref al, .long (lN zn), .null, .ref pf, .int rs])), (al, .inr (4, [.int md, .ref (gE G), .int (nI 0)]))] s.heap.size = A at hD hE ⊢
  have hA : ∀ q : Nat, s.heap.size ≤ q → A q := fun q h => by rw [← hAe]; exact Or.inr h
  have hl := lv_entry ([.ref mo, .int v]) (n := 2) (Nat.le_of_ble_eq_true rfl)
  rw [lg_entry_eq]
  generalize (lg_sl ([.ref mo, .int v]) ++ List.replicate (2 - (lg_sl ([.ref mo, .int v])).length) Slot.unset).toArray = ls at hl ⊢
  have hl : lv_has ls 2 [(0, .ref mo), (1, .int v)] := hl
  refine qgen (fun Q hQ => ?_)
  refine hgen (fun H locs hP hD hS => ?_) hP hD
  refine lv_aload_n hx hb dX10_steps_0 rfl (lv_at hl 0 rfl) ?_
  refine lv_iload_n hx hb dX10_steps_1 rfl (lv_at hl 1 rfl) ?_
  refine fin_i hP hD hS hA [0, 1] [] (wr := []) rfl rfl (by decide) (by decide) (va_runV (As := [.int v]) (rest := []) ⟨hx, hb, hml, hown, hts⟩ (c_X10_isNone l G mo th al zn pf rs md v H.size) (cwV 1 hts (gV q1225 q1227 q40 q52 q1228) rfl rfl rfl (by decide +kernel) ⟨Nat.le_of_ble_eq_true rfl, Nat.le_of_ble_eq_true rfl⟩) (preV (q0 := 0) (ci := 15) hK hE hP hD hS hA [0, 1] rfl (by decide) rfl rfl) rfl rfl hl.1 rfl (lv_room (Nat.le_of_ble_eq_true rfl)) dX10_steps_2 ⟨Nat.le_of_ble_eq_true rfl, Nat.le_of_ble_eq_true rfl⟩) (fun r_2 u9 hw_1 H locs hP hD hS => ?_)
  subst hw_1
  have hP : va_P (gD G) vwCl [(mo, .inr (15, [.int (nI 1), .ref al, .long (lN zn), .null, .ref pf, .int rs])), (al, .inr (4, [.int md, .ref (gE G), .int (nI 0)]))] H := hP
  have hD : va_D A [(mo, .inr (15, [.int (nI 1), .ref al, .long (lN zn), .null, .ref pf, .int rs])), (al, .inr (4, [.int md, .ref (gE G), .int (nI 0)]))] := hD
  refine lv_if_eq (tgt := 12) hx hb dX10_steps_5 (by decide) (fun c_3 => ?_) (fun c_3 => ?_)
  · skip
    have c_3 : 1 = 0 := (nI_eq (a := 1) (b := 0) (by omega) (by omega)).mp c_3
    exact absurd c_3 (by decide)
  · skip
    have c_3 : ¬ 1 = 0 := fun z => c_3 ((nI_eq (a := 1) (b := 0) (by omega) (by omega)).mpr z)
    refine lv_iconst (v := nI 0) hx hb dX10_steps_8 (by decide) ?_
    refine lv_goto (tgt := 25) hx hb dX10_steps_9 (by decide) ?_
    have hP9 := hP.sub (ws' := [(mo, .inr (15, [.int (nI 1), .ref al, .long (lN zn), .null, .ref pf, .int rs])), (al, .inr (4, [.int md, .ref (gE G), .int (nI 0)]))]) [0, 1] rfl
    have hD9 := hD.sub (ws' := [(mo, .inr (15, [.int (nI 1), .ref al, .long (lN zn), .null, .ref pf, .int rs])), (al, .inr (4, [.int md, .ref (gE G), .int (nI 0)]))]) [0, 1] (by decide) rfl
    subst hQ
    exact W.iret (v := nI 0) hx hb hr (fun t ht hW => ⟨⟨nI 0, (), rfl, trivial, by rw [ht]; exact hP9, hD9⟩, hS.F ht⟩) hS.2.2 dX10_steps_25
set_option maxHeartbeats 4000000 in
set_option maxRecDepth 100000 in
theorem c_X10_stepAt (l : Launch) (G : GG) (mo : Nat) (th : Int32) (al : Nat) (zn : Nat) (pf : Nat) (rs : Int32) (md : Int32) (v : Int32) (v2 : Int32) : Mi l G yX10_stepAt cX10_stepAt 4 (some .int) ({ frames := 3, cells := 0, slots := 0, locals := 64 } : Room) [.ref mo, .int v, .int v2] [(mo, .inr (15, [.int th, .ref al, .long (lN zn), .null, .ref pf, .int rs])), (al, .inr (4, [.int md, .ref (gE G), .int (nI 0)]))] (fun (r : Int32) (u : Unit) => True) (fun (u : Unit) => [(mo, .inr (15, [.int (nI 1), .ref al, .long (lN zn), .null, .ref pf, .int rs])), (al, .inr (4, [.int md, .ref (gE G), .int (nI 0)]))]) := by
  intro sz
  refine Met.ofW (cc := cX10_stepAt) (maxL := 4) (ret := (some .int)) (by decide) rfl ?_
  intro p e s m args below meth c s₁ B9 hml hv
  obtain ⟨rfl, hsz, hP, hK, hD0, hE⟩ := hv
  have hx := B9.exec
  have hb := B9.bytes
  have hr := B9.returns
  have hts : ∀ w ∈ WW, w.before ([.ref mo, .int v, .int v2] : List Value).toArray s = true := fun w h => atoms_spec (ws := .code yX10_stepAt cX10_stepAt 4 (some .int) :: WW) B9.pre w (List.mem_cons_of_mem _ h)
  have hown : s.vm.findClass RX10 = some m.cls := findClass_of_methodNamed B9.named
  subst hsz
  have hD := hD0.self (sz := s.heap.size)
  generalize hAe : va_A [(mo, .inr (15, [.int th, .ref al, .long (lN zn), .null, .ref pf, .int rs])), (al, .inr (4, [.int md, .ref (gE G), .int (nI 0)]))] s.heap.size = A at hD hE ⊢
  have hA : ∀ q : Nat, s.heap.size ≤ q → A q := fun q h => by rw [← hAe]; exact Or.inr h
  have hl := lv_entry ([.ref mo, .int v, .int v2]) (n := 4) (Nat.le_of_ble_eq_true rfl)
  rw [lg_entry_eq]
  generalize (lg_sl ([.ref mo, .int v, .int v2]) ++ List.replicate (4 - (lg_sl ([.ref mo, .int v, .int v2])).length) Slot.unset).toArray = ls at hl ⊢
  have hl : lv_has ls 4 [(0, .ref mo), (1, .int v), (2, .int v2)] := hl
  refine qgen (fun Q hQ => ?_)
  refine hgen (fun H locs hP hD hS => ?_) hP hD
  refine lv_aload_n hx hb dX10_stepAt_0 rfl (lv_at hl 0 rfl) ?_
  refine lv_iload_n hx hb dX10_stepAt_1 rfl (lv_at hl 1 rfl) ?_
  refine fin_i hP hD hS hA [0, 1] [] (wr := []) rfl rfl (by decide) (by decide) (va_runV (As := [.int v]) (rest := []) ⟨hx, hb, hml, hown, hts⟩ (c_X10_isNone l G mo th al zn pf rs md v H.size) (cwV 1 hts (gV q1225 q1227 q40 q52 q1228) rfl rfl rfl (by decide +kernel) ⟨Nat.le_of_ble_eq_true rfl, Nat.le_of_ble_eq_true rfl⟩) (preV (q0 := 0) (ci := 15) hK hE hP hD hS hA [0, 1] rfl (by decide) rfl rfl) rfl rfl hl.1 rfl (lv_room (Nat.le_of_ble_eq_true rfl)) dX10_stepAt_2 ⟨Nat.le_of_ble_eq_true rfl, Nat.le_of_ble_eq_true rfl⟩) (fun r_2 u9 hw_1 H locs hP hD hS => ?_)
  subst hw_1
  have hP : va_P (gD G) vwCl [(mo, .inr (15, [.int (nI 1), .ref al, .long (lN zn), .null, .ref pf, .int rs])), (al, .inr (4, [.int md, .ref (gE G), .int (nI 0)]))] H := hP
  have hD : va_D A [(mo, .inr (15, [.int (nI 1), .ref al, .long (lN zn), .null, .ref pf, .int rs])), (al, .inr (4, [.int md, .ref (gE G), .int (nI 0)]))] := hD
  refine lv_if_eq (tgt := 10) hx hb dX10_stepAt_5 (by decide) (fun c_3 => ?_) (fun c_3 => ?_)
  · skip
    have c_3 : 1 = 0 := (nI_eq (a := 1) (b := 0) (by omega) (by omega)).mp c_3
    exact absurd c_3 (by decide)
  · skip
    have c_3 : ¬ 1 = 0 := fun z => c_3 ((nI_eq (a := 1) (b := 0) (by omega) (by omega)).mpr z)
    refine lv_iconst (v := nI 0) hx hb dX10_stepAt_8 (by decide) ?_
    have hP9 := hP.sub (ws' := [(mo, .inr (15, [.int (nI 1), .ref al, .long (lN zn), .null, .ref pf, .int rs])), (al, .inr (4, [.int md, .ref (gE G), .int (nI 0)]))]) [0, 1] rfl
    have hD9 := hD.sub (ws' := [(mo, .inr (15, [.int (nI 1), .ref al, .long (lN zn), .null, .ref pf, .int rs])), (al, .inr (4, [.int md, .ref (gE G), .int (nI 0)]))]) [0, 1] (by decide) rfl
    subst hQ
    exact W.iret (v := nI 0) hx hb hr (fun t ht hW => ⟨⟨nI 0, (), rfl, trivial, by rw [ht]; exact hP9, hD9⟩, hS.F ht⟩) hS.2.2 dX10_stepAt_9
set_option maxHeartbeats 4000000 in
set_option maxRecDepth 100000 in
theorem c_X10_grade (l : Launch) (G : GG) (mo : Nat) (th : Int32) (al : Nat) (zn : Nat) (pf : Nat) (rs : Int32) (md : Int32) (v : Int32) : Mi l G yX10_grade cX10_grade 7 (some .int) ({ frames := 3, cells := 0, slots := 0, locals := 64 } : Room) [.ref mo, .int v] [(mo, .inr (15, [.int th, .ref al, .long (lN zn), .null, .ref pf, .int rs])), (al, .inr (4, [.int md, .ref (gE G), .int (nI 0)]))] (fun (r : Int32) (u : Unit) => True) (fun (u : Unit) => [(mo, .inr (15, [.int (nI 1), .ref al, .long (lN zn), .null, .ref pf, .int rs])), (al, .inr (4, [.int md, .ref (gE G), .int (nI 0)]))]) := by
  intro sz
  refine Met.ofW (cc := cX10_grade) (maxL := 7) (ret := (some .int)) (by decide) rfl ?_
  intro p e s m args below meth c s₁ B9 hml hv
  obtain ⟨rfl, hsz, hP, hK, hD0, hE⟩ := hv
  have hx := B9.exec
  have hb := B9.bytes
  have hr := B9.returns
  have hts : ∀ w ∈ WW, w.before ([.ref mo, .int v] : List Value).toArray s = true := fun w h => atoms_spec (ws := .code yX10_grade cX10_grade 7 (some .int) :: WW) B9.pre w (List.mem_cons_of_mem _ h)
  have hown : s.vm.findClass RX10 = some m.cls := findClass_of_methodNamed B9.named
  subst hsz
  have hD := hD0.self (sz := s.heap.size)
  generalize hAe : va_A [(mo, .inr (15, [.int th, .ref al, .long (lN zn), .null, .ref pf, .int rs])), (al, .inr (4, [.int md, .ref (gE G), .int (nI 0)]))] s.heap.size = A at hD hE ⊢
  have hA : ∀ q : Nat, s.heap.size ≤ q → A q := fun q h => by rw [← hAe]; exact Or.inr h
  have hl := lv_entry ([.ref mo, .int v]) (n := 7) (Nat.le_of_ble_eq_true rfl)
  rw [lg_entry_eq]
  generalize (lg_sl ([.ref mo, .int v]) ++ List.replicate (7 - (lg_sl ([.ref mo, .int v])).length) Slot.unset).toArray = ls at hl ⊢
  have hl : lv_has ls 7 [(0, .ref mo), (1, .int v)] := hl
  refine qgen (fun Q hQ => ?_)
  refine hgen (fun H locs hP hD hS => ?_) hP hD
  refine lv_aload_n hx hb dX10_grade_0 rfl (lv_at hl 0 rfl) ?_
  refine lv_iload_n hx hb dX10_grade_1 rfl (lv_at hl 1 rfl) ?_
  refine fin_i hP hD hS hA [0, 1] [] (wr := []) rfl rfl (by decide) (by decide) (va_runV (As := [.int v]) (rest := []) ⟨hx, hb, hml, hown, hts⟩ (c_X10_isNone l G mo th al zn pf rs md v H.size) (cwV 1 hts (gV q1225 q1227 q40 q52 q1228) rfl rfl rfl (by decide +kernel) ⟨Nat.le_of_ble_eq_true rfl, Nat.le_of_ble_eq_true rfl⟩) (preV (q0 := 0) (ci := 15) hK hE hP hD hS hA [0, 1] rfl (by decide) rfl rfl) rfl rfl hl.1 rfl (lv_room (Nat.le_of_ble_eq_true rfl)) dX10_grade_2 ⟨Nat.le_of_ble_eq_true rfl, Nat.le_of_ble_eq_true rfl⟩) (fun r_2 u9 hw_1 H locs hP hD hS => ?_)
  subst hw_1
  have hP : va_P (gD G) vwCl [(mo, .inr (15, [.int (nI 1), .ref al, .long (lN zn), .null, .ref pf, .int rs])), (al, .inr (4, [.int md, .ref (gE G), .int (nI 0)]))] H := hP
  have hD : va_D A [(mo, .inr (15, [.int (nI 1), .ref al, .long (lN zn), .null, .ref pf, .int rs])), (al, .inr (4, [.int md, .ref (gE G), .int (nI 0)]))] := hD
  refine lv_if_eq (tgt := 10) hx hb dX10_grade_5 (by decide) (fun c_3 => ?_) (fun c_3 => ?_)
  · skip
    have c_3 : 1 = 0 := (nI_eq (a := 1) (b := 0) (by omega) (by omega)).mp c_3
    exact absurd c_3 (by decide)
  · skip
    have c_3 : ¬ 1 = 0 := fun z => c_3 ((nI_eq (a := 1) (b := 0) (by omega) (by omega)).mpr z)
    refine lv_iconst (v := nI 0) hx hb dX10_grade_8 (by decide) ?_
    have hP9 := hP.sub (ws' := [(mo, .inr (15, [.int (nI 1), .ref al, .long (lN zn), .null, .ref pf, .int rs])), (al, .inr (4, [.int md, .ref (gE G), .int (nI 0)]))]) [0, 1] rfl
    have hD9 := hD.sub (ws' := [(mo, .inr (15, [.int (nI 1), .ref al, .long (lN zn), .null, .ref pf, .int rs])), (al, .inr (4, [.int md, .ref (gE G), .int (nI 0)]))]) [0, 1] (by decide) rfl
    subst hQ
    exact W.iret (v := nI 0) hx hb hr (fun t ht hW => ⟨⟨nI 0, (), rfl, trivial, by rw [ht]; exact hP9, hD9⟩, hS.F ht⟩) hS.2.2 dX10_grade_9
set_option maxHeartbeats 4000000 in
set_option maxRecDepth 100000 in
theorem c_X10_isMinimal (l : Launch) (G : GG) (mo : Nat) (th : Int32) (al : Nat) (zn : Nat) (pf : Nat) (rs : Int32) (md : Int32) (v : Int32) : Mi l G yX10_isMinimal cX10_isMinimal 6 (some .boolean) ({ frames := 3, cells := 0, slots := 0, locals := 64 } : Room) [.ref mo, .int v] [(mo, .inr (15, [.int th, .ref al, .long (lN zn), .null, .ref pf, .int rs])), (al, .inr (4, [.int md, .ref (gE G), .int (nI 0)]))] (fun (r : Int32) (u : Unit) => True) (fun (u : Unit) => [(mo, .inr (15, [.int (nI 1), .ref al, .long (lN zn), .null, .ref pf, .int rs])), (al, .inr (4, [.int md, .ref (gE G), .int (nI 0)]))]) := by
  intro sz
  refine Met.ofW (cc := cX10_isMinimal) (maxL := 6) (ret := (some .boolean)) (by decide) rfl ?_
  intro p e s m args below meth c s₁ B9 hml hv
  obtain ⟨rfl, hsz, hP, hK, hD0, hE⟩ := hv
  have hx := B9.exec
  have hb := B9.bytes
  have hr := B9.returns
  have hts : ∀ w ∈ WW, w.before ([.ref mo, .int v] : List Value).toArray s = true := fun w h => atoms_spec (ws := .code yX10_isMinimal cX10_isMinimal 6 (some .boolean) :: WW) B9.pre w (List.mem_cons_of_mem _ h)
  have hown : s.vm.findClass RX10 = some m.cls := findClass_of_methodNamed B9.named
  subst hsz
  have hD := hD0.self (sz := s.heap.size)
  generalize hAe : va_A [(mo, .inr (15, [.int th, .ref al, .long (lN zn), .null, .ref pf, .int rs])), (al, .inr (4, [.int md, .ref (gE G), .int (nI 0)]))] s.heap.size = A at hD hE ⊢
  have hA : ∀ q : Nat, s.heap.size ≤ q → A q := fun q h => by rw [← hAe]; exact Or.inr h
  have hl := lv_entry ([.ref mo, .int v]) (n := 6) (Nat.le_of_ble_eq_true rfl)
  rw [lg_entry_eq]
  generalize (lg_sl ([.ref mo, .int v]) ++ List.replicate (6 - (lg_sl ([.ref mo, .int v])).length) Slot.unset).toArray = ls at hl ⊢
  have hl : lv_has ls 6 [(0, .ref mo), (1, .int v)] := hl
  refine qgen (fun Q hQ => ?_)
  refine hgen (fun H locs hP hD hS => ?_) hP hD
  refine lv_aload_n hx hb dX10_isMinimal_0 rfl (lv_at hl 0 rfl) ?_
  refine lv_iload_n hx hb dX10_isMinimal_1 rfl (lv_at hl 1 rfl) ?_
  refine fin_i hP hD hS hA [0, 1] [] (wr := []) rfl rfl (by decide) (by decide) (va_runV (As := [.int v]) (rest := []) ⟨hx, hb, hml, hown, hts⟩ (c_X10_isNone l G mo th al zn pf rs md v H.size) (cwV 1 hts (gV q1225 q1227 q40 q52 q1228) rfl rfl rfl (by decide +kernel) ⟨Nat.le_of_ble_eq_true rfl, Nat.le_of_ble_eq_true rfl⟩) (preV (q0 := 0) (ci := 15) hK hE hP hD hS hA [0, 1] rfl (by decide) rfl rfl) rfl rfl hl.1 rfl (lv_room (Nat.le_of_ble_eq_true rfl)) dX10_isMinimal_2 ⟨Nat.le_of_ble_eq_true rfl, Nat.le_of_ble_eq_true rfl⟩) (fun r_2 u9 hw_1 H locs hP hD hS => ?_)
  subst hw_1
  have hP : va_P (gD G) vwCl [(mo, .inr (15, [.int (nI 1), .ref al, .long (lN zn), .null, .ref pf, .int rs])), (al, .inr (4, [.int md, .ref (gE G), .int (nI 0)]))] H := hP
  have hD : va_D A [(mo, .inr (15, [.int (nI 1), .ref al, .long (lN zn), .null, .ref pf, .int rs])), (al, .inr (4, [.int md, .ref (gE G), .int (nI 0)]))] := hD
  refine lv_if_eq (tgt := 10) hx hb dX10_isMinimal_5 (by decide) (fun c_3 => ?_) (fun c_3 => ?_)
  · skip
    have c_3 : 1 = 0 := (nI_eq (a := 1) (b := 0) (by omega) (by omega)).mp c_3
    exact absurd c_3 (by decide)
  · skip
    have c_3 : ¬ 1 = 0 := fun z => c_3 ((nI_eq (a := 1) (b := 0) (by omega) (by omega)).mpr z)
    refine lv_iconst (v := nI 0) hx hb dX10_isMinimal_8 (by decide) ?_
    have hP9 := hP.sub (ws' := [(mo, .inr (15, [.int (nI 1), .ref al, .long (lN zn), .null, .ref pf, .int rs])), (al, .inr (4, [.int md, .ref (gE G), .int (nI 0)]))]) [0, 1] rfl
    have hD9 := hD.sub (ws' := [(mo, .inr (15, [.int (nI 1), .ref al, .long (lN zn), .null, .ref pf, .int rs])), (al, .inr (4, [.int md, .ref (gE G), .int (nI 0)]))]) [0, 1] (by decide) rfl
    subst hQ
    exact W.zret (v := nI 0) hx hb hr (by decide) (fun t ht hW => ⟨⟨nI 0, (), rfl, trivial, by rw [ht]; exact hP9, hD9⟩, hS.F ht⟩) hS.2.2 dX10_isMinimal_9
set_option maxHeartbeats 4000000 in
set_option maxRecDepth 100000 in
theorem c_X10_areAlike (l : Launch) (G : GG) (mo : Nat) (th : Int32) (al : Nat) (zn : Nat) (pf : Nat) (rs : Int32) (md : Int32) (v : Int32) (v2 : Int32) : Mi l G yX10_areAlike cX10_areAlike 5 (some .boolean) ({ frames := 2, cells := 0, slots := 0, locals := 43 } : Room) [.ref mo, .int v, .int v2] [(mo, .inr (15, [.int th, .ref al, .long (lN zn), .null, .ref pf, .int rs])), (al, .inr (4, [.int md, .ref (gE G), .int (nI 0)]))] (fun (r : Int32) (u : Unit) => True) (fun (u : Unit) => [(mo, .inr (15, [.int (nI 1), .ref al, .long (lN zn), .null, .ref pf, .int rs])), (al, .inr (4, [.int md, .ref (gE G), .int (nI 0)]))]) := by
  intro sz
  refine Met.ofW (cc := cX10_areAlike) (maxL := 5) (ret := (some .boolean)) (by decide) rfl ?_
  intro p e s m args below meth c s₁ B9 hml hv
  obtain ⟨rfl, hsz, hP, hK, hD0, hE⟩ := hv
  have hx := B9.exec
  have hb := B9.bytes
  have hr := B9.returns
  have hts : ∀ w ∈ WW, w.before ([.ref mo, .int v, .int v2] : List Value).toArray s = true := fun w h => atoms_spec (ws := .code yX10_areAlike cX10_areAlike 5 (some .boolean) :: WW) B9.pre w (List.mem_cons_of_mem _ h)
  have hown : s.vm.findClass RX10 = some m.cls := findClass_of_methodNamed B9.named
  subst hsz
  have hD := hD0.self (sz := s.heap.size)
  generalize hAe : va_A [(mo, .inr (15, [.int th, .ref al, .long (lN zn), .null, .ref pf, .int rs])), (al, .inr (4, [.int md, .ref (gE G), .int (nI 0)]))] s.heap.size = A at hD hE ⊢
  have hA : ∀ q : Nat, s.heap.size ≤ q → A q := fun q h => by rw [← hAe]; exact Or.inr h
  have hl := lv_entry ([.ref mo, .int v, .int v2]) (n := 5) (Nat.le_of_ble_eq_true rfl)
  rw [lg_entry_eq]
  generalize (lg_sl ([.ref mo, .int v, .int v2]) ++ List.replicate (5 - (lg_sl ([.ref mo, .int v, .int v2])).length) Slot.unset).toArray = ls at hl ⊢
  have hl : lv_has ls 5 [(0, .ref mo), (1, .int v), (2, .int v2)] := hl
  refine qgen (fun Q hQ => ?_)
  refine hgen (fun H locs hP hD hS => ?_) hP hD
  refine lv_aload_n hx hb dX10_areAlike_0 rfl (lv_at hl 0 rfl) ?_
  refine lv_aload_n hx hb dX10_areAlike_1 rfl (lv_at hl 0 rfl) ?_
  refine lv_iload_n hx hb dX10_areAlike_2 rfl (lv_at hl 1 rfl) ?_
  refine fin_i hP hD hS hA [0, 1] [] (wr := []) rfl rfl (by decide) (by decide) (va_runV (As := [.int v]) (rest := [.ref mo]) ⟨hx, hb, hml, hown, hts⟩ (c_X10_isPuzzle l G mo th al zn pf rs md v H.size) (cwV 1 hts (gV q1002 q1004 q36 q52 q1005) rfl rfl rfl (by decide +kernel) ⟨Nat.le_of_ble_eq_true rfl, Nat.le_of_ble_eq_true rfl⟩) (preV (q0 := 0) (ci := 15) hK hE hP hD hS hA [0, 1] rfl (by decide) rfl rfl) rfl rfl hl.1 rfl (lv_room (Nat.le_of_ble_eq_true rfl)) dX10_areAlike_3 ⟨Nat.le_of_ble_eq_true rfl, Nat.le_of_ble_eq_true rfl⟩) (fun r_2 u9 hw_1 H locs hP hD hS => ?_)
  subst hw_1
  have hP : va_P (gD G) vwCl [(mo, .inr (15, [.int th, .ref al, .long (lN zn), .null, .ref pf, .int rs])), (al, .inr (4, [.int md, .ref (gE G), .int (nI 0)]))] H := hP
  have hD : va_D A [(mo, .inr (15, [.int th, .ref al, .long (lN zn), .null, .ref pf, .int rs])), (al, .inr (4, [.int md, .ref (gE G), .int (nI 0)]))] := hD
  refine lv_if_eq (tgt := 17) hx hb dX10_areAlike_6 (by decide) (fun c_3 => ?_) (fun c_3 => ?_)
  · skip
    have c_3 : 0 = 0 := (nI_eq (a := 0) (b := 0) (by omega) (by omega)).mp c_3
    refine lv_iconst (v := nI 1) hx hb dX10_areAlike_17 (by decide) ?_
    refine lv_goto (tgt := 74) hx hb dX10_areAlike_18 (by decide) ?_
    refine fin_i hP hD hS hA [0] [1] (wr := [(al, .inr (4, [.int md, .ref (gE G), .int (nI 0)]))]) rfl rfl (by decide) (by decide) (va_runV (As := [.int (nI 1)]) (rest := []) ⟨hx, hb, hml, hown, hts⟩ (c_isWrong_k l G mo th al zn pf rs 1 (by omega) (by omega) H.size) (cwV 1 hts (gV q962 q964 q34 q52 q965) rfl rfl rfl (by decide +kernel) ⟨Nat.le_of_ble_eq_true rfl, Nat.le_of_ble_eq_true rfl⟩) (preV (q0 := 0) (ci := 15) hK hE hP hD hS hA [0] rfl (by decide) rfl rfl) rfl rfl hl.1 rfl (lv_room (Nat.le_of_ble_eq_true rfl)) dX10_areAlike_74 ⟨Nat.le_of_ble_eq_true rfl, Nat.le_of_ble_eq_true rfl⟩) (fun r_5 u9 hw_4 H locs hP hD hS => ?_)
    subst hw_4
    have hP : va_P (gD G) vwCl [(al, .inr (4, [.int md, .ref (gE G), .int (nI 0)])), (mo, .inr (15, [.int (nI 1), .ref al, .long (lN zn), .null, .ref pf, .int rs]))] H := hP
    have hD : va_D A [(al, .inr (4, [.int md, .ref (gE G), .int (nI 0)])), (mo, .inr (15, [.int (nI 1), .ref al, .long (lN zn), .null, .ref pf, .int rs]))] := hD
    refine lv_if_eq (tgt := 82) hx hb dX10_areAlike_77 (by decide) (fun c_6 => ?_) (fun c_6 => ?_)
    · skip
      have c_6 : 1 = 0 := (nI_eq (a := 1) (b := 0) (by omega) (by omega)).mp c_6
      exact absurd c_6 (by decide)
    · skip
      have c_6 : ¬ 1 = 0 := fun z => c_6 ((nI_eq (a := 1) (b := 0) (by omega) (by omega)).mpr z)
      refine lv_iconst (v := nI 0) hx hb dX10_areAlike_80 (by decide) ?_
      have hP9 := hP.sub (ws' := [(mo, .inr (15, [.int (nI 1), .ref al, .long (lN zn), .null, .ref pf, .int rs])), (al, .inr (4, [.int md, .ref (gE G), .int (nI 0)]))]) [1, 0] rfl
      have hD9 := hD.sub (ws' := [(mo, .inr (15, [.int (nI 1), .ref al, .long (lN zn), .null, .ref pf, .int rs])), (al, .inr (4, [.int md, .ref (gE G), .int (nI 0)]))]) [1, 0] (by decide) rfl
      subst hQ
      exact W.zret (v := nI 0) hx hb hr (by decide) (fun t ht hW => ⟨⟨nI 0, (), rfl, trivial, by rw [ht]; exact hP9, hD9⟩, hS.F ht⟩) hS.2.2 dX10_areAlike_81
  · skip
    have c_3 : ¬ 0 = 0 := fun z => c_3 ((nI_eq (a := 0) (b := 0) (by omega) (by omega)).mpr z)
    exact absurd c_3 (by decide)
set_option maxHeartbeats 4000000 in
set_option maxRecDepth 100000 in
theorem c_X10_begin (l : Launch) (G : GG) (mo : Nat) (th : Int32) (al : Nat) (zn : Nat) (pf : Nat) (rs : Int32) (md : Int32) (v : Int32) : Mi l G yX10_begin cX10_begin 2 (some .int) ({ frames := 3, cells := 0, slots := 0, locals := 64 } : Room) [.ref mo, .int v] [(mo, .inr (15, [.int th, .ref al, .long (lN zn), .null, .ref pf, .int rs])), (al, .inr (4, [.int md, .ref (gE G), .int (nI 0)]))] (fun (r : Int32) (u : Unit) => True) (fun (u : Unit) => [(mo, .inr (15, [.int (nI 1), .ref al, .long (lN zn), .null, .ref pf, .int rs])), (al, .inr (4, [.int md, .ref (gE G), .int (nI 0)]))]) := by
  intro sz
  refine Met.ofW (cc := cX10_begin) (maxL := 2) (ret := (some .int)) (by decide) rfl ?_
  intro p e s m args below meth c s₁ B9 hml hv
  obtain ⟨rfl, hsz, hP, hK, hD0, hE⟩ := hv
  have hx := B9.exec
  have hb := B9.bytes
  have hr := B9.returns
  have hts : ∀ w ∈ WW, w.before ([.ref mo, .int v] : List Value).toArray s = true := fun w h => atoms_spec (ws := .code yX10_begin cX10_begin 2 (some .int) :: WW) B9.pre w (List.mem_cons_of_mem _ h)
  have hown : s.vm.findClass RX10 = some m.cls := findClass_of_methodNamed B9.named
  subst hsz
  have hD := hD0.self (sz := s.heap.size)
  generalize hAe : va_A [(mo, .inr (15, [.int th, .ref al, .long (lN zn), .null, .ref pf, .int rs])), (al, .inr (4, [.int md, .ref (gE G), .int (nI 0)]))] s.heap.size = A at hD hE ⊢
  have hA : ∀ q : Nat, s.heap.size ≤ q → A q := fun q h => by rw [← hAe]; exact Or.inr h
  have hl := lv_entry ([.ref mo, .int v]) (n := 2) (Nat.le_of_ble_eq_true rfl)
  rw [lg_entry_eq]
  generalize (lg_sl ([.ref mo, .int v]) ++ List.replicate (2 - (lg_sl ([.ref mo, .int v])).length) Slot.unset).toArray = ls at hl ⊢
  have hl : lv_has ls 2 [(0, .ref mo), (1, .int v)] := hl
  refine qgen (fun Q hQ => ?_)
  refine hgen (fun H locs hP hD hS => ?_) hP hD
  refine lv_aload_n hx hb dX10_begin_0 rfl (lv_at hl 0 rfl) ?_
  refine lv_iload_n hx hb dX10_begin_1 rfl (lv_at hl 1 rfl) ?_
  refine fin_i hP hD hS hA [0, 1] [] (wr := []) rfl rfl (by decide) (by decide) (va_runV (As := [.int v]) (rest := []) ⟨hx, hb, hml, hown, hts⟩ (c_X10_isNone l G mo th al zn pf rs md v H.size) (cwV 1 hts (gV q1225 q1227 q40 q52 q1228) rfl rfl rfl (by decide +kernel) ⟨Nat.le_of_ble_eq_true rfl, Nat.le_of_ble_eq_true rfl⟩) (preV (q0 := 0) (ci := 15) hK hE hP hD hS hA [0, 1] rfl (by decide) rfl rfl) rfl rfl hl.1 rfl (lv_room (Nat.le_of_ble_eq_true rfl)) dX10_begin_2 ⟨Nat.le_of_ble_eq_true rfl, Nat.le_of_ble_eq_true rfl⟩) (fun r_2 u9 hw_1 H locs hP hD hS => ?_)
  subst hw_1
  have hP : va_P (gD G) vwCl [(mo, .inr (15, [.int (nI 1), .ref al, .long (lN zn), .null, .ref pf, .int rs])), (al, .inr (4, [.int md, .ref (gE G), .int (nI 0)]))] H := hP
  have hD : va_D A [(mo, .inr (15, [.int (nI 1), .ref al, .long (lN zn), .null, .ref pf, .int rs])), (al, .inr (4, [.int md, .ref (gE G), .int (nI 0)]))] := hD
  refine lv_if_eq (tgt := 10) hx hb dX10_begin_5 (by decide) (fun c_3 => ?_) (fun c_3 => ?_)
  · skip
    have c_3 : 1 = 0 := (nI_eq (a := 1) (b := 0) (by omega) (by omega)).mp c_3
    exact absurd c_3 (by decide)
  · skip
    have c_3 : ¬ 1 = 0 := fun z => c_3 ((nI_eq (a := 1) (b := 0) (by omega) (by omega)).mpr z)
    refine lv_iconst (v := nI 0) hx hb dX10_begin_8 (by decide) ?_
    have hP9 := hP.sub (ws' := [(mo, .inr (15, [.int (nI 1), .ref al, .long (lN zn), .null, .ref pf, .int rs])), (al, .inr (4, [.int md, .ref (gE G), .int (nI 0)]))]) [0, 1] rfl
    have hD9 := hD.sub (ws' := [(mo, .inr (15, [.int (nI 1), .ref al, .long (lN zn), .null, .ref pf, .int rs])), (al, .inr (4, [.int md, .ref (gE G), .int (nI 0)]))]) [0, 1] (by decide) rfl
    subst hQ
    exact W.iret (v := nI 0) hx hb hr (fun t ht hW => ⟨⟨nI 0, (), rfl, trivial, by rw [ht]; exact hP9, hD9⟩, hS.F ht⟩) hS.2.2 dX10_begin_9
set_option maxHeartbeats 4000000 in
set_option maxRecDepth 100000 in
theorem c_X10_mark (l : Launch) (G : GG) (mo : Nat) (th : Int32) (al : Nat) (zn : Nat) (pf : Nat) (rs : Int32) (md : Int32) (v : Int32) (v2 : Int32) (x : Int32) : Mi l G yX10_mark cX10_mark 5 (some .int) ({ frames := 3, cells := 0, slots := 0, locals := 65 } : Room) [.ref mo, .int v, .int v2, .int x] [(mo, .inr (15, [.int th, .ref al, .long (lN zn), .null, .ref pf, .int rs])), (al, .inr (4, [.int md, .ref (gE G), .int (nI 0)]))] (fun (r : Int32) (u : Unit) => True) (fun (u : Unit) => [(mo, .inr (15, [.int (nI 1), .ref al, .long (lN zn), .null, .ref pf, .int rs])), (al, .inr (4, [.int md, .ref (gE G), .int (nI 0)]))]) := by
  intro sz
  refine Met.ofW (cc := cX10_mark) (maxL := 5) (ret := (some .int)) (by decide) rfl ?_
  intro p e s m args below meth c s₁ B9 hml hv
  obtain ⟨rfl, hsz, hP, hK, hD0, hE⟩ := hv
  have hx := B9.exec
  have hb := B9.bytes
  have hr := B9.returns
  have hts : ∀ w ∈ WW, w.before ([.ref mo, .int v, .int v2, .int x] : List Value).toArray s = true := fun w h => atoms_spec (ws := .code yX10_mark cX10_mark 5 (some .int) :: WW) B9.pre w (List.mem_cons_of_mem _ h)
  have hown : s.vm.findClass RX10 = some m.cls := findClass_of_methodNamed B9.named
  subst hsz
  have hD := hD0.self (sz := s.heap.size)
  generalize hAe : va_A [(mo, .inr (15, [.int th, .ref al, .long (lN zn), .null, .ref pf, .int rs])), (al, .inr (4, [.int md, .ref (gE G), .int (nI 0)]))] s.heap.size = A at hD hE ⊢
  have hA : ∀ q : Nat, s.heap.size ≤ q → A q := fun q h => by rw [← hAe]; exact Or.inr h
  have hl := lv_entry ([.ref mo, .int v, .int v2, .int x]) (n := 5) (Nat.le_of_ble_eq_true rfl)
  rw [lg_entry_eq]
  generalize (lg_sl ([.ref mo, .int v, .int v2, .int x]) ++ List.replicate (5 - (lg_sl ([.ref mo, .int v, .int v2, .int x])).length) Slot.unset).toArray = ls at hl ⊢
  have hl : lv_has ls 5 [(0, .ref mo), (1, .int v), (2, .int v2), (3, .int x)] := hl
  refine qgen (fun Q hQ => ?_)
  refine hgen (fun H locs hP hD hS => ?_) hP hD
  refine lv_aload_n hx hb dX10_mark_0 rfl (lv_at hl 0 rfl) ?_
  refine lv_iload_n hx hb dX10_mark_1 rfl (lv_at hl 1 rfl) ?_
  refine lv_iload_n hx hb dX10_mark_2 rfl (lv_at hl 2 rfl) ?_
  refine fin_i hP hD hS hA [0, 1] [] (wr := []) rfl rfl (by decide) (by decide) (va_runV (As := [.int v, .int v2]) (rest := []) ⟨hx, hb, hml, hown, hts⟩ (c_X10_isNoCell l G mo th al zn pf rs md v v2 H.size) (cwV 2 hts (gV q998 q1000 q35 q52 q1001) rfl rfl rfl (by decide +kernel) ⟨Nat.le_of_ble_eq_true rfl, Nat.le_of_ble_eq_true rfl⟩) (preV (q0 := 0) (ci := 15) hK hE hP hD hS hA [0, 1] rfl (by decide) rfl rfl) rfl rfl hl.1 rfl (lv_room (Nat.le_of_ble_eq_true rfl)) dX10_mark_3 ⟨Nat.le_of_ble_eq_true rfl, Nat.le_of_ble_eq_true rfl⟩) (fun r_2 u9 hw_1 H locs hP hD hS => ?_)
  subst hw_1
  have hP : va_P (gD G) vwCl [(mo, .inr (15, [.int (nI 1), .ref al, .long (lN zn), .null, .ref pf, .int rs])), (al, .inr (4, [.int md, .ref (gE G), .int (nI 0)]))] H := hP
  have hD : va_D A [(mo, .inr (15, [.int (nI 1), .ref al, .long (lN zn), .null, .ref pf, .int rs])), (al, .inr (4, [.int md, .ref (gE G), .int (nI 0)]))] := hD
  refine lv_if_ne (tgt := 30) hx hb dX10_mark_6 (by decide) (fun c_3 => ?_) (fun c_3 => ?_)
  · skip
    have c_3 : ¬ 1 = 0 := fun z => c_3 ((nI_eq (a := 1) (b := 0) (by omega) (by omega)).mpr z)
    refine lv_iconst (v := nI 0) hx hb dX10_mark_30 (by decide) ?_
    have hP9 := hP.sub (ws' := [(mo, .inr (15, [.int (nI 1), .ref al, .long (lN zn), .null, .ref pf, .int rs])), (al, .inr (4, [.int md, .ref (gE G), .int (nI 0)]))]) [0, 1] rfl
    have hD9 := hD.sub (ws' := [(mo, .inr (15, [.int (nI 1), .ref al, .long (lN zn), .null, .ref pf, .int rs])), (al, .inr (4, [.int md, .ref (gE G), .int (nI 0)]))]) [0, 1] (by decide) rfl
    subst hQ
    exact W.iret (v := nI 0) hx hb hr (fun t ht hW => ⟨⟨nI 0, (), rfl, trivial, by rw [ht]; exact hP9, hD9⟩, hS.F ht⟩) hS.2.2 dX10_mark_31
  · skip
    have c_3 : 1 = 0 := (nI_eq (a := 1) (b := 0) (by omega) (by omega)).mp c_3
    exact absurd c_3 (by decide)
set_option maxHeartbeats 4000000 in
set_option maxRecDepth 100000 in
theorem c_X10_marked (l : Launch) (G : GG) (mo : Nat) (th : Int32) (al : Nat) (zn : Nat) (pf : Nat) (rs : Int32) (md : Int32) (v : Int32) (v2 : Int32) : Mi l G yX10_marked cX10_marked 3 (some .int) ({ frames := 3, cells := 0, slots := 0, locals := 65 } : Room) [.ref mo, .int v, .int v2] [(mo, .inr (15, [.int th, .ref al, .long (lN zn), .null, .ref pf, .int rs])), (al, .inr (4, [.int md, .ref (gE G), .int (nI 0)]))] (fun (r : Int32) (u : Unit) => True) (fun (u : Unit) => [(mo, .inr (15, [.int (nI 1), .ref al, .long (lN zn), .null, .ref pf, .int rs])), (al, .inr (4, [.int md, .ref (gE G), .int (nI 0)]))]) := by
  intro sz
  refine Met.ofW (cc := cX10_marked) (maxL := 3) (ret := (some .int)) (by decide) rfl ?_
  intro p e s m args below meth c s₁ B9 hml hv
  obtain ⟨rfl, hsz, hP, hK, hD0, hE⟩ := hv
  have hx := B9.exec
  have hb := B9.bytes
  have hr := B9.returns
  have hts : ∀ w ∈ WW, w.before ([.ref mo, .int v, .int v2] : List Value).toArray s = true := fun w h => atoms_spec (ws := .code yX10_marked cX10_marked 3 (some .int) :: WW) B9.pre w (List.mem_cons_of_mem _ h)
  have hown : s.vm.findClass RX10 = some m.cls := findClass_of_methodNamed B9.named
  subst hsz
  have hD := hD0.self (sz := s.heap.size)
  generalize hAe : va_A [(mo, .inr (15, [.int th, .ref al, .long (lN zn), .null, .ref pf, .int rs])), (al, .inr (4, [.int md, .ref (gE G), .int (nI 0)]))] s.heap.size = A at hD hE ⊢
  have hA : ∀ q : Nat, s.heap.size ≤ q → A q := fun q h => by rw [← hAe]; exact Or.inr h
  have hl := lv_entry ([.ref mo, .int v, .int v2]) (n := 3) (Nat.le_of_ble_eq_true rfl)
  rw [lg_entry_eq]
  generalize (lg_sl ([.ref mo, .int v, .int v2]) ++ List.replicate (3 - (lg_sl ([.ref mo, .int v, .int v2])).length) Slot.unset).toArray = ls at hl ⊢
  have hl : lv_has ls 3 [(0, .ref mo), (1, .int v), (2, .int v2)] := hl
  refine qgen (fun Q hQ => ?_)
  refine hgen (fun H locs hP hD hS => ?_) hP hD
  refine lv_aload_n hx hb dX10_marked_0 rfl (lv_at hl 0 rfl) ?_
  refine lv_iload_n hx hb dX10_marked_1 rfl (lv_at hl 1 rfl) ?_
  refine lv_iload_n hx hb dX10_marked_2 rfl (lv_at hl 2 rfl) ?_
  refine fin_i hP hD hS hA [0, 1] [] (wr := []) rfl rfl (by decide) (by decide) (va_runV (As := [.int v, .int v2]) (rest := []) ⟨hx, hb, hml, hown, hts⟩ (c_X10_isNoCell l G mo th al zn pf rs md v v2 H.size) (cwV 2 hts (gV q998 q1000 q35 q52 q1001) rfl rfl rfl (by decide +kernel) ⟨Nat.le_of_ble_eq_true rfl, Nat.le_of_ble_eq_true rfl⟩) (preV (q0 := 0) (ci := 15) hK hE hP hD hS hA [0, 1] rfl (by decide) rfl rfl) rfl rfl hl.1 rfl (lv_room (Nat.le_of_ble_eq_true rfl)) dX10_marked_3 ⟨Nat.le_of_ble_eq_true rfl, Nat.le_of_ble_eq_true rfl⟩) (fun r_2 u9 hw_1 H locs hP hD hS => ?_)
  subst hw_1
  have hP : va_P (gD G) vwCl [(mo, .inr (15, [.int (nI 1), .ref al, .long (lN zn), .null, .ref pf, .int rs])), (al, .inr (4, [.int md, .ref (gE G), .int (nI 0)]))] H := hP
  have hD : va_D A [(mo, .inr (15, [.int (nI 1), .ref al, .long (lN zn), .null, .ref pf, .int rs])), (al, .inr (4, [.int md, .ref (gE G), .int (nI 0)]))] := hD
  refine lv_if_eq (tgt := 13) hx hb dX10_marked_6 (by decide) (fun c_3 => ?_) (fun c_3 => ?_)
  · skip
    have c_3 : 1 = 0 := (nI_eq (a := 1) (b := 0) (by omega) (by omega)).mp c_3
    exact absurd c_3 (by decide)
  · skip
    have c_3 : ¬ 1 = 0 := fun z => c_3 ((nI_eq (a := 1) (b := 0) (by omega) (by omega)).mpr z)
    refine lv_iconst (v := nI 0) hx hb dX10_marked_9 (by decide) ?_
    refine lv_goto (tgt := 31) hx hb dX10_marked_10 (by decide) ?_
    have hP9 := hP.sub (ws' := [(mo, .inr (15, [.int (nI 1), .ref al, .long (lN zn), .null, .ref pf, .int rs])), (al, .inr (4, [.int md, .ref (gE G), .int (nI 0)]))]) [0, 1] rfl
    have hD9 := hD.sub (ws' := [(mo, .inr (15, [.int (nI 1), .ref al, .long (lN zn), .null, .ref pf, .int rs])), (al, .inr (4, [.int md, .ref (gE G), .int (nI 0)]))]) [0, 1] (by decide) rfl
    subst hQ
    exact W.iret (v := nI 0) hx hb hr (fun t ht hW => ⟨⟨nI 0, (), rfl, trivial, by rw [ht]; exact hP9, hD9⟩, hS.F ht⟩) hS.2.2 dX10_marked_31
set_option maxHeartbeats 4000000 in
set_option maxRecDepth 100000 in
theorem c_X10_wrong_ (l : Launch) (G : GG) (mo : Nat) (th : Int32) (al : Nat) (zn : Nat) (pf : Nat) (rs : Int32) (md : Int32) (v : Int32) : Mi l G yX10_wrong_ cX10_wrong_ 3 (some .int) ({ frames := 3, cells := 0, slots := 0, locals := 64 } : Room) [.ref mo, .int v] [(mo, .inr (15, [.int th, .ref al, .long (lN zn), .null, .ref pf, .int rs])), (al, .inr (4, [.int md, .ref (gE G), .int (nI 0)]))] (fun (r : Int32) (u : Unit) => True) (fun (u : Unit) => [(mo, .inr (15, [.int (nI 1), .ref al, .long (lN zn), .null, .ref pf, .int rs])), (al, .inr (4, [.int md, .ref (gE G), .int (nI 0)]))]) := by
  intro sz
  refine Met.ofW (cc := cX10_wrong_) (maxL := 3) (ret := (some .int)) (by decide) rfl ?_
  intro p e s m args below meth c s₁ B9 hml hv
  obtain ⟨rfl, hsz, hP, hK, hD0, hE⟩ := hv
  have hx := B9.exec
  have hb := B9.bytes
  have hr := B9.returns
  have hts : ∀ w ∈ WW, w.before ([.ref mo, .int v] : List Value).toArray s = true := fun w h => atoms_spec (ws := .code yX10_wrong_ cX10_wrong_ 3 (some .int) :: WW) B9.pre w (List.mem_cons_of_mem _ h)
  have hown : s.vm.findClass RX10 = some m.cls := findClass_of_methodNamed B9.named
  subst hsz
  have hD := hD0.self (sz := s.heap.size)
  generalize hAe : va_A [(mo, .inr (15, [.int th, .ref al, .long (lN zn), .null, .ref pf, .int rs])), (al, .inr (4, [.int md, .ref (gE G), .int (nI 0)]))] s.heap.size = A at hD hE ⊢
  have hA : ∀ q : Nat, s.heap.size ≤ q → A q := fun q h => by rw [← hAe]; exact Or.inr h
  have hl := lv_entry ([.ref mo, .int v]) (n := 3) (Nat.le_of_ble_eq_true rfl)
  rw [lg_entry_eq]
  generalize (lg_sl ([.ref mo, .int v]) ++ List.replicate (3 - (lg_sl ([.ref mo, .int v])).length) Slot.unset).toArray = ls at hl ⊢
  have hl : lv_has ls 3 [(0, .ref mo), (1, .int v)] := hl
  refine qgen (fun Q hQ => ?_)
  refine hgen (fun H locs hP hD hS => ?_) hP hD
  refine lv_aload_n hx hb dX10_wrong__0 rfl (lv_at hl 0 rfl) ?_
  refine lv_iload_n hx hb dX10_wrong__1 rfl (lv_at hl 1 rfl) ?_
  refine fin_i hP hD hS hA [0, 1] [] (wr := []) rfl rfl (by decide) (by decide) (va_runV (As := [.int v]) (rest := []) ⟨hx, hb, hml, hown, hts⟩ (c_X10_isNone l G mo th al zn pf rs md v H.size) (cwV 1 hts (gV q1225 q1227 q40 q52 q1228) rfl rfl rfl (by decide +kernel) ⟨Nat.le_of_ble_eq_true rfl, Nat.le_of_ble_eq_true rfl⟩) (preV (q0 := 0) (ci := 15) hK hE hP hD hS hA [0, 1] rfl (by decide) rfl rfl) rfl rfl hl.1 rfl (lv_room (Nat.le_of_ble_eq_true rfl)) dX10_wrong__2 ⟨Nat.le_of_ble_eq_true rfl, Nat.le_of_ble_eq_true rfl⟩) (fun r_2 u9 hw_1 H locs hP hD hS => ?_)
  subst hw_1
  have hP : va_P (gD G) vwCl [(mo, .inr (15, [.int (nI 1), .ref al, .long (lN zn), .null, .ref pf, .int rs])), (al, .inr (4, [.int md, .ref (gE G), .int (nI 0)]))] H := hP
  have hD : va_D A [(mo, .inr (15, [.int (nI 1), .ref al, .long (lN zn), .null, .ref pf, .int rs])), (al, .inr (4, [.int md, .ref (gE G), .int (nI 0)]))] := hD
  refine lv_if_eq (tgt := 10) hx hb dX10_wrong__5 (by decide) (fun c_3 => ?_) (fun c_3 => ?_)
  · skip
    have c_3 : 1 = 0 := (nI_eq (a := 1) (b := 0) (by omega) (by omega)).mp c_3
    exact absurd c_3 (by decide)
  · skip
    have c_3 : ¬ 1 = 0 := fun z => c_3 ((nI_eq (a := 1) (b := 0) (by omega) (by omega)).mpr z)
    refine lv_iconst (v := nI 0) hx hb dX10_wrong__8 (by decide) ?_
    have hP9 := hP.sub (ws' := [(mo, .inr (15, [.int (nI 1), .ref al, .long (lN zn), .null, .ref pf, .int rs])), (al, .inr (4, [.int md, .ref (gE G), .int (nI 0)]))]) [0, 1] rfl
    have hD9 := hD.sub (ws' := [(mo, .inr (15, [.int (nI 1), .ref al, .long (lN zn), .null, .ref pf, .int rs])), (al, .inr (4, [.int md, .ref (gE G), .int (nI 0)]))]) [0, 1] (by decide) rfl
    subst hQ
    exact W.iret (v := nI 0) hx hb hr (fun t ht hW => ⟨⟨nI 0, (), rfl, trivial, by rw [ht]; exact hP9, hD9⟩, hS.F ht⟩) hS.2.2 dX10_wrong__9
set_option maxHeartbeats 4000000 in
set_option maxRecDepth 100000 in
theorem c_X10_hint (l : Launch) (G : GG) (mo : Nat) (th : Int32) (al : Nat) (zn : Nat) (pf : Nat) (rs : Int32) (md : Int32) (v : Int32) : Mi l G yX10_hint cX10_hint 6 (some .int) ({ frames := 3, cells := 0, slots := 0, locals := 64 } : Room) [.ref mo, .int v] [(mo, .inr (15, [.int th, .ref al, .long (lN zn), .null, .ref pf, .int rs])), (al, .inr (4, [.int md, .ref (gE G), .int (nI 0)]))] (fun (r : Int32) (u : Unit) => True) (fun (u : Unit) => [(mo, .inr (15, [.int (nI 1), .ref al, .long (lN zn), .null, .ref pf, .int rs])), (al, .inr (4, [.int md, .ref (gE G), .int (nI 0)]))]) := by
  intro sz
  refine Met.ofW (cc := cX10_hint) (maxL := 6) (ret := (some .int)) (by decide) rfl ?_
  intro p e s m args below meth c s₁ B9 hml hv
  obtain ⟨rfl, hsz, hP, hK, hD0, hE⟩ := hv
  have hx := B9.exec
  have hb := B9.bytes
  have hr := B9.returns
  have hts : ∀ w ∈ WW, w.before ([.ref mo, .int v] : List Value).toArray s = true := fun w h => atoms_spec (ws := .code yX10_hint cX10_hint 6 (some .int) :: WW) B9.pre w (List.mem_cons_of_mem _ h)
  have hown : s.vm.findClass RX10 = some m.cls := findClass_of_methodNamed B9.named
  subst hsz
  have hD := hD0.self (sz := s.heap.size)
  generalize hAe : va_A [(mo, .inr (15, [.int th, .ref al, .long (lN zn), .null, .ref pf, .int rs])), (al, .inr (4, [.int md, .ref (gE G), .int (nI 0)]))] s.heap.size = A at hD hE ⊢
  have hA : ∀ q : Nat, s.heap.size ≤ q → A q := fun q h => by rw [← hAe]; exact Or.inr h
  have hl := lv_entry ([.ref mo, .int v]) (n := 6) (Nat.le_of_ble_eq_true rfl)
  rw [lg_entry_eq]
  generalize (lg_sl ([.ref mo, .int v]) ++ List.replicate (6 - (lg_sl ([.ref mo, .int v])).length) Slot.unset).toArray = ls at hl ⊢
  have hl : lv_has ls 6 [(0, .ref mo), (1, .int v)] := hl
  refine qgen (fun Q hQ => ?_)
  refine hgen (fun H locs hP hD hS => ?_) hP hD
  refine lv_aload_n hx hb dX10_hint_0 rfl (lv_at hl 0 rfl) ?_
  refine lv_iload_n hx hb dX10_hint_1 rfl (lv_at hl 1 rfl) ?_
  refine fin_i hP hD hS hA [0, 1] [] (wr := []) rfl rfl (by decide) (by decide) (va_runV (As := [.int v]) (rest := []) ⟨hx, hb, hml, hown, hts⟩ (c_X10_isNone l G mo th al zn pf rs md v H.size) (cwV 1 hts (gV q1225 q1227 q40 q52 q1228) rfl rfl rfl (by decide +kernel) ⟨Nat.le_of_ble_eq_true rfl, Nat.le_of_ble_eq_true rfl⟩) (preV (q0 := 0) (ci := 15) hK hE hP hD hS hA [0, 1] rfl (by decide) rfl rfl) rfl rfl hl.1 rfl (lv_room (Nat.le_of_ble_eq_true rfl)) dX10_hint_2 ⟨Nat.le_of_ble_eq_true rfl, Nat.le_of_ble_eq_true rfl⟩) (fun r_2 u9 hw_1 H locs hP hD hS => ?_)
  subst hw_1
  have hP : va_P (gD G) vwCl [(mo, .inr (15, [.int (nI 1), .ref al, .long (lN zn), .null, .ref pf, .int rs])), (al, .inr (4, [.int md, .ref (gE G), .int (nI 0)]))] H := hP
  have hD : va_D A [(mo, .inr (15, [.int (nI 1), .ref al, .long (lN zn), .null, .ref pf, .int rs])), (al, .inr (4, [.int md, .ref (gE G), .int (nI 0)]))] := hD
  refine lv_if_eq (tgt := 10) hx hb dX10_hint_5 (by decide) (fun c_3 => ?_) (fun c_3 => ?_)
  · skip
    have c_3 : 1 = 0 := (nI_eq (a := 1) (b := 0) (by omega) (by omega)).mp c_3
    exact absurd c_3 (by decide)
  · skip
    have c_3 : ¬ 1 = 0 := fun z => c_3 ((nI_eq (a := 1) (b := 0) (by omega) (by omega)).mpr z)
    refine lv_iconst (v := nI 0) hx hb dX10_hint_8 (by decide) ?_
    have hP9 := hP.sub (ws' := [(mo, .inr (15, [.int (nI 1), .ref al, .long (lN zn), .null, .ref pf, .int rs])), (al, .inr (4, [.int md, .ref (gE G), .int (nI 0)]))]) [0, 1] rfl
    have hD9 := hD.sub (ws' := [(mo, .inr (15, [.int (nI 1), .ref al, .long (lN zn), .null, .ref pf, .int rs])), (al, .inr (4, [.int md, .ref (gE G), .int (nI 0)]))]) [0, 1] (by decide) rfl
    subst hQ
    exact W.iret (v := nI 0) hx hb hr (fun t ht hW => ⟨⟨nI 0, (), rfl, trivial, by rw [ht]; exact hP9, hD9⟩, hS.F ht⟩) hS.2.2 dX10_hint_9
set_option maxHeartbeats 4000000 in
set_option maxRecDepth 100000 in
theorem c_mtell_1 (l : Launch) (G : GG) (mo : Nat) (th : Int32) (al : Nat) (zn : Nat) (pf : Nat) (rs : Int32) (md : Int32) (v : Int32) (v2 : Int32) (x : Int32) (hbad : v2 < nI 0 ∨ nI 15 < v2) : Mi l G yX10_tell cX10_tell 10 (some .int) ({ frames := 2, cells := 0, slots := 0, locals := 42 } : Room) [.ref mo, .int v, .int v2, .int x] [(mo, .inr (15, [.int th, .ref al, .long (lN zn), .null, .ref pf, .int rs])), (al, .inr (4, [.int md, .ref (gE G), .int (nI 0)]))] (fun (r : Int32) (u : Unit) => True) (fun (u : Unit) => [(mo, .inr (15, [.int (nI 1), .ref al, .long (lN zn), .null, .ref pf, .int rs])), (al, .inr (4, [.int md, .ref (gE G), .int (nI 0)]))]) := by
  intro sz
  refine Met.ofW (cc := cX10_tell) (maxL := 10) (ret := (some .int)) (by decide) rfl ?_
  intro p e s m args below meth c s₁ B9 hml hv
  obtain ⟨rfl, hsz, hP, hK, hD0, hE⟩ := hv
  have hx := B9.exec
  have hb := B9.bytes
  have hr := B9.returns
  have hts : ∀ w ∈ WW, w.before ([.ref mo, .int v, .int v2, .int x] : List Value).toArray s = true := fun w h => atoms_spec (ws := .code yX10_tell cX10_tell 10 (some .int) :: WW) B9.pre w (List.mem_cons_of_mem _ h)
  have hown : s.vm.findClass RX10 = some m.cls := findClass_of_methodNamed B9.named
  subst hsz
  have hD := hD0.self (sz := s.heap.size)
  generalize hAe : va_A [(mo, .inr (15, [.int th, .ref al, .long (lN zn), .null, .ref pf, .int rs])), (al, .inr (4, [.int md, .ref (gE G), .int (nI 0)]))] s.heap.size = A at hD hE ⊢
  have hA : ∀ q : Nat, s.heap.size ≤ q → A q := fun q h => by rw [← hAe]; exact Or.inr h
  have hl := lv_entry ([.ref mo, .int v, .int v2, .int x]) (n := 10) (Nat.le_of_ble_eq_true rfl)
  rw [lg_entry_eq]
  generalize (lg_sl ([.ref mo, .int v, .int v2, .int x]) ++ List.replicate (10 - (lg_sl ([.ref mo, .int v, .int v2, .int x])).length) Slot.unset).toArray = ls at hl ⊢
  have hl : lv_has ls 10 [(0, .ref mo), (1, .int v), (2, .int v2), (3, .int x)] := hl
  refine qgen (fun Q hQ => ?_)
  refine hgen (fun H locs hP hD hS => ?_) hP hD
  refine lv_aload_n hx hb dX10_tell_0 rfl (lv_at hl 0 rfl) ?_
  refine lv_iload_n hx hb dX10_tell_1 rfl (lv_at hl 2 rfl) ?_
  refine fin_i hP hD hS hA [] [0, 1] (wr := [(mo, .inr (15, [.int th, .ref al, .long (lN zn), .null, .ref pf, .int rs])), (al, .inr (4, [.int md, .ref (gE G), .int (nI 0)]))]) rfl rfl (by decide) (by decide) (va_runS (As := [.int v2]) (rest := [.ref mo]) ⟨hx, hb, hml, hown, hts⟩ (c_isCell_bad l G v2 (by assumption) H.size) (va_cwS 1 hts (gSt q1009 q1010 q52 q1011) rfl rfl rfl (by decide +kernel) ⟨Nat.le_of_ble_eq_true rfl, Nat.le_of_ble_eq_true rfl⟩) (preS hK hE hP hD hS hA [] rfl (by decide)) rfl rfl hl.1 rfl (lv_room (Nat.le_of_ble_eq_true rfl)) dX10_tell_2 ⟨Nat.le_of_ble_eq_true rfl, Nat.le_of_ble_eq_true rfl⟩) (fun r_2 u9 hw_1 H locs hP hD hS => ?_)
  subst hw_1
  have hP : va_P (gD G) vwCl [(mo, .inr (15, [.int th, .ref al, .long (lN zn), .null, .ref pf, .int rs])), (al, .inr (4, [.int md, .ref (gE G), .int (nI 0)]))] H := hP
  have hD : va_D A [(mo, .inr (15, [.int th, .ref al, .long (lN zn), .null, .ref pf, .int rs])), (al, .inr (4, [.int md, .ref (gE G), .int (nI 0)]))] := hD
  refine lv_if_ne (tgt := 12) hx hb dX10_tell_5 (by decide) (fun c_3 => ?_) (fun c_3 => ?_)
  · skip
    have c_3 : ¬ 0 = 0 := fun z => c_3 ((nI_eq (a := 0) (b := 0) (by omega) (by omega)).mpr z)
    exact absurd c_3 (by decide)
  · skip
    have c_3 : 0 = 0 := (nI_eq (a := 0) (b := 0) (by omega) (by omega)).mp c_3
    refine lv_iconst (v := nI 1) hx hb dX10_tell_8 (by decide) ?_
    refine lv_goto (tgt := 46) hx hb dX10_tell_9 (by decide) ?_
    refine fin_i hP hD hS hA [0] [1] (wr := [(al, .inr (4, [.int md, .ref (gE G), .int (nI 0)]))]) rfl rfl (by decide) (by decide) (va_runV (As := [.int (nI 1)]) (rest := []) ⟨hx, hb, hml, hown, hts⟩ (c_isWrong_k l G mo th al zn pf rs 1 (by omega) (by omega) H.size) (cwV 1 hts (gV q962 q964 q34 q52 q965) rfl rfl rfl (by decide +kernel) ⟨Nat.le_of_ble_eq_true rfl, Nat.le_of_ble_eq_true rfl⟩) (preV (q0 := 0) (ci := 15) hK hE hP hD hS hA [0] rfl (by decide) rfl rfl) rfl rfl hl.1 rfl (lv_room (Nat.le_of_ble_eq_true rfl)) dX10_tell_46 ⟨Nat.le_of_ble_eq_true rfl, Nat.le_of_ble_eq_true rfl⟩) (fun r_5 u9 hw_4 H locs hP hD hS => ?_)
    subst hw_4
    have hP : va_P (gD G) vwCl [(al, .inr (4, [.int md, .ref (gE G), .int (nI 0)])), (mo, .inr (15, [.int (nI 1), .ref al, .long (lN zn), .null, .ref pf, .int rs]))] H := hP
    have hD : va_D A [(al, .inr (4, [.int md, .ref (gE G), .int (nI 0)])), (mo, .inr (15, [.int (nI 1), .ref al, .long (lN zn), .null, .ref pf, .int rs]))] := hD
    refine lv_if_eq (tgt := 54) hx hb dX10_tell_49 (by decide) (fun c_6 => ?_) (fun c_6 => ?_)
    · skip
      have c_6 : 1 = 0 := (nI_eq (a := 1) (b := 0) (by omega) (by omega)).mp c_6
      exact absurd c_6 (by decide)
    · skip
      have c_6 : ¬ 1 = 0 := fun z => c_6 ((nI_eq (a := 1) (b := 0) (by omega) (by omega)).mpr z)
      refine lv_iconst (v := nI 0) hx hb dX10_tell_52 (by decide) ?_
      have hP9 := hP.sub (ws' := [(mo, .inr (15, [.int (nI 1), .ref al, .long (lN zn), .null, .ref pf, .int rs])), (al, .inr (4, [.int md, .ref (gE G), .int (nI 0)]))]) [1, 0] rfl
      have hD9 := hD.sub (ws' := [(mo, .inr (15, [.int (nI 1), .ref al, .long (lN zn), .null, .ref pf, .int rs])), (al, .inr (4, [.int md, .ref (gE G), .int (nI 0)]))]) [1, 0] (by decide) rfl
      subst hQ
      exact W.iret (v := nI 0) hx hb hr (fun t ht hW => ⟨⟨nI 0, (), rfl, trivial, by rw [ht]; exact hP9, hD9⟩, hS.F ht⟩) hS.2.2 dX10_tell_53
set_option maxHeartbeats 4000000 in
set_option maxRecDepth 100000 in
theorem c_mtell_2a (l : Launch) (G : GG) (mo : Nat) (th : Int32) (al : Nat) (zn : Nat) (pf : Nat) (rs : Int32) (md : Int32) (v : Int32) (k : Nat) (x : Int32) (hk : k < 16) (hbad : v < nI 0 ∨ nI 4 < v) : Mi l G yX10_tell cX10_tell 10 (some .int) ({ frames := 2, cells := 0, slots := 0, locals := 42 } : Room) [.ref mo, .int v, .int (nI k), .int x] [(mo, .inr (15, [.int th, .ref al, .long (lN zn), .null, .ref pf, .int rs])), (al, .inr (4, [.int md, .ref (gE G), .int (nI 0)]))] (fun (r : Int32) (u : Unit) => True) (fun (u : Unit) => [(mo, .inr (15, [.int (nI 2), .ref al, .long (lN zn), .null, .ref pf, .int rs])), (al, .inr (4, [.int md, .ref (gE G), .int (nI 0)]))]) := by
  intro sz
  refine Met.ofW (cc := cX10_tell) (maxL := 10) (ret := (some .int)) (by decide) rfl ?_
  intro p e s m args below meth c s₁ B9 hml hv
  obtain ⟨rfl, hsz, hP, hK, hD0, hE⟩ := hv
  have hx := B9.exec
  have hb := B9.bytes
  have hr := B9.returns
  have hts : ∀ w ∈ WW, w.before ([.ref mo, .int v, .int (nI k), .int x] : List Value).toArray s = true := fun w h => atoms_spec (ws := .code yX10_tell cX10_tell 10 (some .int) :: WW) B9.pre w (List.mem_cons_of_mem _ h)
  have hown : s.vm.findClass RX10 = some m.cls := findClass_of_methodNamed B9.named
  subst hsz
  have hD := hD0.self (sz := s.heap.size)
  generalize hAe : va_A [(mo, .inr (15, [.int th, .ref al, .long (lN zn), .null, .ref pf, .int rs])), (al, .inr (4, [.int md, .ref (gE G), .int (nI 0)]))] s.heap.size = A at hD hE ⊢
  have hA : ∀ q : Nat, s.heap.size ≤ q → A q := fun q h => by rw [← hAe]; exact Or.inr h
  have hl := lv_entry ([.ref mo, .int v, .int (nI k), .int x]) (n := 10) (Nat.le_of_ble_eq_true rfl)
  rw [lg_entry_eq]
  generalize (lg_sl ([.ref mo, .int v, .int (nI k), .int x]) ++ List.replicate (10 - (lg_sl ([.ref mo, .int v, .int (nI k), .int x])).length) Slot.unset).toArray = ls at hl ⊢
  have hl : lv_has ls 10 [(0, .ref mo), (1, .int v), (2, .int (nI k)), (3, .int x)] := hl
  refine qgen (fun Q hQ => ?_)
  refine hgen (fun H locs hP hD hS => ?_) hP hD
  refine lv_aload_n hx hb dX10_tell_0 rfl (lv_at hl 0 rfl) ?_
  refine lv_iload_n hx hb dX10_tell_1 rfl (lv_at hl 2 rfl) ?_
  refine fin_i hP hD hS hA [] [0, 1] (wr := [(mo, .inr (15, [.int th, .ref al, .long (lN zn), .null, .ref pf, .int rs])), (al, .inr (4, [.int md, .ref (gE G), .int (nI 0)]))]) rfl rfl (by decide) (by decide) (va_runS (As := [.int (nI k)]) (rest := [.ref mo]) ⟨hx, hb, hml, hown, hts⟩ (c_isCell_ok l G k (by omega) H.size) (va_cwS 1 hts (gSt q1009 q1010 q52 q1011) rfl rfl rfl (by decide +kernel) ⟨Nat.le_of_ble_eq_true rfl, Nat.le_of_ble_eq_true rfl⟩) (preS hK hE hP hD hS hA [] rfl (by decide)) rfl rfl hl.1 rfl (lv_room (Nat.le_of_ble_eq_true rfl)) dX10_tell_2 ⟨Nat.le_of_ble_eq_true rfl, Nat.le_of_ble_eq_true rfl⟩) (fun r_2 u9 hw_1 H locs hP hD hS => ?_)
  subst hw_1
  have hP : va_P (gD G) vwCl [(mo, .inr (15, [.int th, .ref al, .long (lN zn), .null, .ref pf, .int rs])), (al, .inr (4, [.int md, .ref (gE G), .int (nI 0)]))] H := hP
  have hD : va_D A [(mo, .inr (15, [.int th, .ref al, .long (lN zn), .null, .ref pf, .int rs])), (al, .inr (4, [.int md, .ref (gE G), .int (nI 0)]))] := hD
  refine lv_if_ne (tgt := 12) hx hb dX10_tell_5 (by decide) (fun c_3 => ?_) (fun c_3 => ?_)
  · skip
    have c_3 : ¬ 1 = 0 := fun z => c_3 ((nI_eq (a := 1) (b := 0) (by omega) (by omega)).mpr z)
    refine lv_iload_n hx hb dX10_tell_12 rfl (lv_at hl 1 rfl) ?_
    refine lv_iconst (v := nI 0) hx hb dX10_tell_13 (by decide) ?_
    refine lv_iconst (v := nI 4) hx hb dX10_tell_14 (by decide) ?_
    refine fin_i hP hD hS hA [] [0, 1] (wr := [(mo, .inr (15, [.int th, .ref al, .long (lN zn), .null, .ref pf, .int rs])), (al, .inr (4, [.int md, .ref (gE G), .int (nI 0)]))]) rfl rfl (by decide) (by decide) (va_runS (As := [.int v, .int (nI 0), .int (nI 4)]) (rest := [.ref mo]) ⟨hx, hb, hml, hown, hts⟩ (c_isBetween_bad l G v 0 4 (by assumption) H.size) (va_cwS 3 hts (gSt q1006 q1007 q52 q1008) rfl rfl rfl (by decide +kernel) ⟨Nat.le_of_ble_eq_true rfl, Nat.le_of_ble_eq_true rfl⟩) (preS hK hE hP hD hS hA [] rfl (by decide)) rfl rfl hl.1 rfl (lv_room (Nat.le_of_ble_eq_true rfl)) dX10_tell_15 ⟨Nat.le_of_ble_eq_true rfl, Nat.le_of_ble_eq_true rfl⟩) (fun r_5 u9 hw_4 H locs hP hD hS => ?_)
    subst hw_4
    have hP : va_P (gD G) vwCl [(mo, .inr (15, [.int th, .ref al, .long (lN zn), .null, .ref pf, .int rs])), (al, .inr (4, [.int md, .ref (gE G), .int (nI 0)]))] H := hP
    have hD : va_D A [(mo, .inr (15, [.int th, .ref al, .long (lN zn), .null, .ref pf, .int rs])), (al, .inr (4, [.int md, .ref (gE G), .int (nI 0)]))] := hD
    refine lv_if_eq (tgt := 30) hx hb dX10_tell_18 (by decide) (fun c_6 => ?_) (fun c_6 => ?_)
    · skip
      have c_6 : 0 = 0 := (nI_eq (a := 0) (b := 0) (by omega) (by omega)).mp c_6
      refine lv_iconst (v := nI 2) hx hb dX10_tell_30 (by decide) ?_
      refine lv_goto (tgt := 46) hx hb dX10_tell_31 (by decide) ?_
      refine fin_i hP hD hS hA [0] [1] (wr := [(al, .inr (4, [.int md, .ref (gE G), .int (nI 0)]))]) rfl rfl (by decide) (by decide) (va_runV (As := [.int (nI 2)]) (rest := []) ⟨hx, hb, hml, hown, hts⟩ (c_isWrong_k l G mo th al zn pf rs 2 (by omega) (by omega) H.size) (cwV 1 hts (gV q962 q964 q34 q52 q965) rfl rfl rfl (by decide +kernel) ⟨Nat.le_of_ble_eq_true rfl, Nat.le_of_ble_eq_true rfl⟩) (preV (q0 := 0) (ci := 15) hK hE hP hD hS hA [0] rfl (by decide) rfl rfl) rfl rfl hl.1 rfl (lv_room (Nat.le_of_ble_eq_true rfl)) dX10_tell_46 ⟨Nat.le_of_ble_eq_true rfl, Nat.le_of_ble_eq_true rfl⟩) (fun r_8 u9 hw_7 H locs hP hD hS => ?_)
      subst hw_7
      have hP : va_P (gD G) vwCl [(al, .inr (4, [.int md, .ref (gE G), .int (nI 0)])), (mo, .inr (15, [.int (nI 2), .ref al, .long (lN zn), .null, .ref pf, .int rs]))] H := hP
      have hD : va_D A [(al, .inr (4, [.int md, .ref (gE G), .int (nI 0)])), (mo, .inr (15, [.int (nI 2), .ref al, .long (lN zn), .null, .ref pf, .int rs]))] := hD
      refine lv_if_eq (tgt := 54) hx hb dX10_tell_49 (by decide) (fun c_9 => ?_) (fun c_9 => ?_)
      · skip
        have c_9 : 1 = 0 := (nI_eq (a := 1) (b := 0) (by omega) (by omega)).mp c_9
        exact absurd c_9 (by decide)
      · skip
        have c_9 : ¬ 1 = 0 := fun z => c_9 ((nI_eq (a := 1) (b := 0) (by omega) (by omega)).mpr z)
        refine lv_iconst (v := nI 0) hx hb dX10_tell_52 (by decide) ?_
        have hP9 := hP.sub (ws' := [(mo, .inr (15, [.int (nI 2), .ref al, .long (lN zn), .null, .ref pf, .int rs])), (al, .inr (4, [.int md, .ref (gE G), .int (nI 0)]))]) [1, 0] rfl
        have hD9 := hD.sub (ws' := [(mo, .inr (15, [.int (nI 2), .ref al, .long (lN zn), .null, .ref pf, .int rs])), (al, .inr (4, [.int md, .ref (gE G), .int (nI 0)]))]) [1, 0] (by decide) rfl
        subst hQ
        exact W.iret (v := nI 0) hx hb hr (fun t ht hW => ⟨⟨nI 0, (), rfl, trivial, by rw [ht]; exact hP9, hD9⟩, hS.F ht⟩) hS.2.2 dX10_tell_53
    · skip
      have c_6 : ¬ 0 = 0 := fun z => c_6 ((nI_eq (a := 0) (b := 0) (by omega) (by omega)).mpr z)
      exact absurd c_6 (by decide)
  · skip
    have c_3 : 1 = 0 := (nI_eq (a := 1) (b := 0) (by omega) (by omega)).mp c_3
    exact absurd c_3 (by decide)
set_option maxHeartbeats 4000000 in
set_option maxRecDepth 100000 in
theorem c_mtell_2b (l : Launch) (G : GG) (mo : Nat) (th : Int32) (al : Nat) (zn : Nat) (pf : Nat) (rs : Int32) (md : Int32) (rl : Nat) (k : Nat) (x : Int32) (hrl : rl < 5) (hk : k < 16) (hbad : x < nI 1 ∨ nI 4 < x) : Mi l G yX10_tell cX10_tell 10 (some .int) ({ frames := 2, cells := 0, slots := 0, locals := 42 } : Room) [.ref mo, .int (nI rl), .int (nI k), .int x] [(mo, .inr (15, [.int th, .ref al, .long (lN zn), .null, .ref pf, .int rs])), (al, .inr (4, [.int md, .ref (gE G), .int (nI 0)]))] (fun (r : Int32) (u : Unit) => True) (fun (u : Unit) => [(mo, .inr (15, [.int (nI 2), .ref al, .long (lN zn), .null, .ref pf, .int rs])), (al, .inr (4, [.int md, .ref (gE G), .int (nI 0)]))]) := by
  intro sz
  refine Met.ofW (cc := cX10_tell) (maxL := 10) (ret := (some .int)) (by decide) rfl ?_
  intro p e s m args below meth c s₁ B9 hml hv
  obtain ⟨rfl, hsz, hP, hK, hD0, hE⟩ := hv
  have hx := B9.exec
  have hb := B9.bytes
  have hr := B9.returns
  have hts : ∀ w ∈ WW, w.before ([.ref mo, .int (nI rl), .int (nI k), .int x] : List Value).toArray s = true := fun w h => atoms_spec (ws := .code yX10_tell cX10_tell 10 (some .int) :: WW) B9.pre w (List.mem_cons_of_mem _ h)
  have hown : s.vm.findClass RX10 = some m.cls := findClass_of_methodNamed B9.named
  subst hsz
  have hD := hD0.self (sz := s.heap.size)
  generalize hAe : va_A [(mo, .inr (15, [.int th, .ref al, .long (lN zn), .null, .ref pf, .int rs])), (al, .inr (4, [.int md, .ref (gE G), .int (nI 0)]))] s.heap.size = A at hD hE ⊢
  have hA : ∀ q : Nat, s.heap.size ≤ q → A q := fun q h => by rw [← hAe]; exact Or.inr h
  have hl := lv_entry ([.ref mo, .int (nI rl), .int (nI k), .int x]) (n := 10) (Nat.le_of_ble_eq_true rfl)
  rw [lg_entry_eq]
  generalize (lg_sl ([.ref mo, .int (nI rl), .int (nI k), .int x]) ++ List.replicate (10 - (lg_sl ([.ref mo, .int (nI rl), .int (nI k), .int x])).length) Slot.unset).toArray = ls at hl ⊢
  have hl : lv_has ls 10 [(0, .ref mo), (1, .int (nI rl)), (2, .int (nI k)), (3, .int x)] := hl
  refine qgen (fun Q hQ => ?_)
  refine hgen (fun H locs hP hD hS => ?_) hP hD
  refine lv_aload_n hx hb dX10_tell_0 rfl (lv_at hl 0 rfl) ?_
  refine lv_iload_n hx hb dX10_tell_1 rfl (lv_at hl 2 rfl) ?_
  refine fin_i hP hD hS hA [] [0, 1] (wr := [(mo, .inr (15, [.int th, .ref al, .long (lN zn), .null, .ref pf, .int rs])), (al, .inr (4, [.int md, .ref (gE G), .int (nI 0)]))]) rfl rfl (by decide) (by decide) (va_runS (As := [.int (nI k)]) (rest := [.ref mo]) ⟨hx, hb, hml, hown, hts⟩ (c_isCell_ok l G k (by omega) H.size) (va_cwS 1 hts (gSt q1009 q1010 q52 q1011) rfl rfl rfl (by decide +kernel) ⟨Nat.le_of_ble_eq_true rfl, Nat.le_of_ble_eq_true rfl⟩) (preS hK hE hP hD hS hA [] rfl (by decide)) rfl rfl hl.1 rfl (lv_room (Nat.le_of_ble_eq_true rfl)) dX10_tell_2 ⟨Nat.le_of_ble_eq_true rfl, Nat.le_of_ble_eq_true rfl⟩) (fun r_2 u9 hw_1 H locs hP hD hS => ?_)
  subst hw_1
  have hP : va_P (gD G) vwCl [(mo, .inr (15, [.int th, .ref al, .long (lN zn), .null, .ref pf, .int rs])), (al, .inr (4, [.int md, .ref (gE G), .int (nI 0)]))] H := hP
  have hD : va_D A [(mo, .inr (15, [.int th, .ref al, .long (lN zn), .null, .ref pf, .int rs])), (al, .inr (4, [.int md, .ref (gE G), .int (nI 0)]))] := hD
  refine lv_if_ne (tgt := 12) hx hb dX10_tell_5 (by decide) (fun c_3 => ?_) (fun c_3 => ?_)
  · skip
    have c_3 : ¬ 1 = 0 := fun z => c_3 ((nI_eq (a := 1) (b := 0) (by omega) (by omega)).mpr z)
    refine lv_iload_n hx hb dX10_tell_12 rfl (lv_at hl 1 rfl) ?_
    refine lv_iconst (v := nI 0) hx hb dX10_tell_13 (by decide) ?_
    refine lv_iconst (v := nI 4) hx hb dX10_tell_14 (by decide) ?_
    refine fin_i hP hD hS hA [] [0, 1] (wr := [(mo, .inr (15, [.int th, .ref al, .long (lN zn), .null, .ref pf, .int rs])), (al, .inr (4, [.int md, .ref (gE G), .int (nI 0)]))]) rfl rfl (by decide) (by decide) (va_runS (As := [.int (nI rl), .int (nI 0), .int (nI 4)]) (rest := [.ref mo]) ⟨hx, hb, hml, hown, hts⟩ (c_isBetween_ok l G rl 0 4 (by omega) (by omega) (by omega) H.size) (va_cwS 3 hts (gSt q1006 q1007 q52 q1008) rfl rfl rfl (by decide +kernel) ⟨Nat.le_of_ble_eq_true rfl, Nat.le_of_ble_eq_true rfl⟩) (preS hK hE hP hD hS hA [] rfl (by decide)) rfl rfl hl.1 rfl (lv_room (Nat.le_of_ble_eq_true rfl)) dX10_tell_15 ⟨Nat.le_of_ble_eq_true rfl, Nat.le_of_ble_eq_true rfl⟩) (fun r_5 u9 hw_4 H locs hP hD hS => ?_)
    subst hw_4
    have hP : va_P (gD G) vwCl [(mo, .inr (15, [.int th, .ref al, .long (lN zn), .null, .ref pf, .int rs])), (al, .inr (4, [.int md, .ref (gE G), .int (nI 0)]))] H := hP
    have hD : va_D A [(mo, .inr (15, [.int th, .ref al, .long (lN zn), .null, .ref pf, .int rs])), (al, .inr (4, [.int md, .ref (gE G), .int (nI 0)]))] := hD
    refine lv_if_eq (tgt := 30) hx hb dX10_tell_18 (by decide) (fun c_6 => ?_) (fun c_6 => ?_)
    · skip
      have c_6 : 1 = 0 := (nI_eq (a := 1) (b := 0) (by omega) (by omega)).mp c_6
      exact absurd c_6 (by decide)
    · skip
      have c_6 : ¬ 1 = 0 := fun z => c_6 ((nI_eq (a := 1) (b := 0) (by omega) (by omega)).mpr z)
      refine lv_iload_n hx hb dX10_tell_21 rfl (lv_at hl 3 rfl) ?_
      refine lv_iconst (v := nI 1) hx hb dX10_tell_22 (by decide) ?_
      refine lv_iconst (v := nI 4) hx hb dX10_tell_23 (by decide) ?_
      refine fin_i hP hD hS hA [] [0, 1] (wr := [(mo, .inr (15, [.int th, .ref al, .long (lN zn), .null, .ref pf, .int rs])), (al, .inr (4, [.int md, .ref (gE G), .int (nI 0)]))]) rfl rfl (by decide) (by decide) (va_runS (As := [.int x, .int (nI 1), .int (nI 4)]) (rest := [.ref mo]) ⟨hx, hb, hml, hown, hts⟩ (c_isBetween_bad l G x 1 4 (by assumption) H.size) (va_cwS 3 hts (gSt q1006 q1007 q52 q1008) rfl rfl rfl (by decide +kernel) ⟨Nat.le_of_ble_eq_true rfl, Nat.le_of_ble_eq_true rfl⟩) (preS hK hE hP hD hS hA [] rfl (by decide)) rfl rfl hl.1 rfl (lv_room (Nat.le_of_ble_eq_true rfl)) dX10_tell_24 ⟨Nat.le_of_ble_eq_true rfl, Nat.le_of_ble_eq_true rfl⟩) (fun r_8 u9 hw_7 H locs hP hD hS => ?_)
      subst hw_7
      have hP : va_P (gD G) vwCl [(mo, .inr (15, [.int th, .ref al, .long (lN zn), .null, .ref pf, .int rs])), (al, .inr (4, [.int md, .ref (gE G), .int (nI 0)]))] H := hP
      have hD : va_D A [(mo, .inr (15, [.int th, .ref al, .long (lN zn), .null, .ref pf, .int rs])), (al, .inr (4, [.int md, .ref (gE G), .int (nI 0)]))] := hD
      refine lv_if_ne (tgt := 34) hx hb dX10_tell_27 (by decide) (fun c_9 => ?_) (fun c_9 => ?_)
      · skip
        have c_9 : ¬ 0 = 0 := fun z => c_9 ((nI_eq (a := 0) (b := 0) (by omega) (by omega)).mpr z)
        exact absurd c_9 (by decide)
      · skip
        have c_9 : 0 = 0 := (nI_eq (a := 0) (b := 0) (by omega) (by omega)).mp c_9
        refine lv_iconst (v := nI 2) hx hb dX10_tell_30 (by decide) ?_
        refine lv_goto (tgt := 46) hx hb dX10_tell_31 (by decide) ?_
        refine fin_i hP hD hS hA [0] [1] (wr := [(al, .inr (4, [.int md, .ref (gE G), .int (nI 0)]))]) rfl rfl (by decide) (by decide) (va_runV (As := [.int (nI 2)]) (rest := []) ⟨hx, hb, hml, hown, hts⟩ (c_isWrong_k l G mo th al zn pf rs 2 (by omega) (by omega) H.size) (cwV 1 hts (gV q962 q964 q34 q52 q965) rfl rfl rfl (by decide +kernel) ⟨Nat.le_of_ble_eq_true rfl, Nat.le_of_ble_eq_true rfl⟩) (preV (q0 := 0) (ci := 15) hK hE hP hD hS hA [0] rfl (by decide) rfl rfl) rfl rfl hl.1 rfl (lv_room (Nat.le_of_ble_eq_true rfl)) dX10_tell_46 ⟨Nat.le_of_ble_eq_true rfl, Nat.le_of_ble_eq_true rfl⟩) (fun r_11 u9 hw_10 H locs hP hD hS => ?_)
        subst hw_10
        have hP : va_P (gD G) vwCl [(al, .inr (4, [.int md, .ref (gE G), .int (nI 0)])), (mo, .inr (15, [.int (nI 2), .ref al, .long (lN zn), .null, .ref pf, .int rs]))] H := hP
        have hD : va_D A [(al, .inr (4, [.int md, .ref (gE G), .int (nI 0)])), (mo, .inr (15, [.int (nI 2), .ref al, .long (lN zn), .null, .ref pf, .int rs]))] := hD
        refine lv_if_eq (tgt := 54) hx hb dX10_tell_49 (by decide) (fun c_12 => ?_) (fun c_12 => ?_)
        · skip
          have c_12 : 1 = 0 := (nI_eq (a := 1) (b := 0) (by omega) (by omega)).mp c_12
          exact absurd c_12 (by decide)
        · skip
          have c_12 : ¬ 1 = 0 := fun z => c_12 ((nI_eq (a := 1) (b := 0) (by omega) (by omega)).mpr z)
          refine lv_iconst (v := nI 0) hx hb dX10_tell_52 (by decide) ?_
          have hP9 := hP.sub (ws' := [(mo, .inr (15, [.int (nI 2), .ref al, .long (lN zn), .null, .ref pf, .int rs])), (al, .inr (4, [.int md, .ref (gE G), .int (nI 0)]))]) [1, 0] rfl
          have hD9 := hD.sub (ws' := [(mo, .inr (15, [.int (nI 2), .ref al, .long (lN zn), .null, .ref pf, .int rs])), (al, .inr (4, [.int md, .ref (gE G), .int (nI 0)]))]) [1, 0] (by decide) rfl
          subst hQ
          exact W.iret (v := nI 0) hx hb hr (fun t ht hW => ⟨⟨nI 0, (), rfl, trivial, by rw [ht]; exact hP9, hD9⟩, hS.F ht⟩) hS.2.2 dX10_tell_53
  · skip
    have c_3 : 1 = 0 := (nI_eq (a := 1) (b := 0) (by omega) (by omega)).mp c_3
    exact absurd c_3 (by decide)
set_option maxHeartbeats 4000000 in
set_option maxRecDepth 100000 in
theorem c_mtell_3 (l : Launch) (G : GG) (mo : Nat) (th : Int32) (al : Nat) (zn : Nat) (pf : Nat) (rs : Int32) (md : Int32) (rl : Nat) (k : Nat) (x : Nat) (hrl : rl < 5) (hk : k < 16) (hx1 : 1 ≤ x) (hx4 : x ≤ 4) : Mi l G yX10_tell cX10_tell 10 (some .int) ({ frames := 2, cells := 0, slots := 0, locals := 42 } : Room) [.ref mo, .int (nI rl), .int (nI k), .int (nI x)] [(mo, .inr (15, [.int th, .ref al, .long (lN zn), .null, .ref pf, .int rs])), (al, .inr (4, [.int md, .ref (gE G), .int (nI 0)]))] (fun (r : Int32) (u : Unit) => True) (fun (u : Unit) => [(mo, .inr (15, [.int (nI 3), .ref al, .long (lN zn), .null, .ref pf, .int rs])), (al, .inr (4, [.int md, .ref (gE G), .int (nI 0)]))]) := by
  intro sz
  refine Met.ofW (cc := cX10_tell) (maxL := 10) (ret := (some .int)) (by decide) rfl ?_
  intro p e s m args below meth c s₁ B9 hml hv
  obtain ⟨rfl, hsz, hP, hK, hD0, hE⟩ := hv
  have hx := B9.exec
  have hb := B9.bytes
  have hr := B9.returns
  have hts : ∀ w ∈ WW, w.before ([.ref mo, .int (nI rl), .int (nI k), .int (nI x)] : List Value).toArray s = true := fun w h => atoms_spec (ws := .code yX10_tell cX10_tell 10 (some .int) :: WW) B9.pre w (List.mem_cons_of_mem _ h)
  have hown : s.vm.findClass RX10 = some m.cls := findClass_of_methodNamed B9.named
  subst hsz
  have hD := hD0.self (sz := s.heap.size)
  generalize hAe : va_A [(mo, .inr (15, [.int th, .ref al, .long (lN zn), .null, .ref pf, .int rs])), (al, .inr (4, [.int md, .ref (gE G), .int (nI 0)]))] s.heap.size = A at hD hE ⊢
  have hA : ∀ q : Nat, s.heap.size ≤ q → A q := fun q h => by rw [← hAe]; exact Or.inr h
  have hl := lv_entry ([.ref mo, .int (nI rl), .int (nI k), .int (nI x)]) (n := 10) (Nat.le_of_ble_eq_true rfl)
  rw [lg_entry_eq]
  generalize (lg_sl ([.ref mo, .int (nI rl), .int (nI k), .int (nI x)]) ++ List.replicate (10 - (lg_sl ([.ref mo, .int (nI rl), .int (nI k), .int (nI x)])).length) Slot.unset).toArray = ls at hl ⊢
  have hl : lv_has ls 10 [(0, .ref mo), (1, .int (nI rl)), (2, .int (nI k)), (3, .int (nI x))] := hl
  refine qgen (fun Q hQ => ?_)
  refine hgen (fun H locs hP hD hS => ?_) hP hD
  refine lv_aload_n hx hb dX10_tell_0 rfl (lv_at hl 0 rfl) ?_
  refine lv_iload_n hx hb dX10_tell_1 rfl (lv_at hl 2 rfl) ?_
  refine fin_i hP hD hS hA [] [0, 1] (wr := [(mo, .inr (15, [.int th, .ref al, .long (lN zn), .null, .ref pf, .int rs])), (al, .inr (4, [.int md, .ref (gE G), .int (nI 0)]))]) rfl rfl (by decide) (by decide) (va_runS (As := [.int (nI k)]) (rest := [.ref mo]) ⟨hx, hb, hml, hown, hts⟩ (c_isCell_ok l G k (by omega) H.size) (va_cwS 1 hts (gSt q1009 q1010 q52 q1011) rfl rfl rfl (by decide +kernel) ⟨Nat.le_of_ble_eq_true rfl, Nat.le_of_ble_eq_true rfl⟩) (preS hK hE hP hD hS hA [] rfl (by decide)) rfl rfl hl.1 rfl (lv_room (Nat.le_of_ble_eq_true rfl)) dX10_tell_2 ⟨Nat.le_of_ble_eq_true rfl, Nat.le_of_ble_eq_true rfl⟩) (fun r_2 u9 hw_1 H locs hP hD hS => ?_)
  subst hw_1
  have hP : va_P (gD G) vwCl [(mo, .inr (15, [.int th, .ref al, .long (lN zn), .null, .ref pf, .int rs])), (al, .inr (4, [.int md, .ref (gE G), .int (nI 0)]))] H := hP
  have hD : va_D A [(mo, .inr (15, [.int th, .ref al, .long (lN zn), .null, .ref pf, .int rs])), (al, .inr (4, [.int md, .ref (gE G), .int (nI 0)]))] := hD
  refine lv_if_ne (tgt := 12) hx hb dX10_tell_5 (by decide) (fun c_3 => ?_) (fun c_3 => ?_)
  · skip
    have c_3 : ¬ 1 = 0 := fun z => c_3 ((nI_eq (a := 1) (b := 0) (by omega) (by omega)).mpr z)
    refine lv_iload_n hx hb dX10_tell_12 rfl (lv_at hl 1 rfl) ?_
    refine lv_iconst (v := nI 0) hx hb dX10_tell_13 (by decide) ?_
    refine lv_iconst (v := nI 4) hx hb dX10_tell_14 (by decide) ?_
    refine fin_i hP hD hS hA [] [0, 1] (wr := [(mo, .inr (15, [.int th, .ref al, .long (lN zn), .null, .ref pf, .int rs])), (al, .inr (4, [.int md, .ref (gE G), .int (nI 0)]))]) rfl rfl (by decide) (by decide) (va_runS (As := [.int (nI rl), .int (nI 0), .int (nI 4)]) (rest := [.ref mo]) ⟨hx, hb, hml, hown, hts⟩ (c_isBetween_ok l G rl 0 4 (by omega) (by omega) (by omega) H.size) (va_cwS 3 hts (gSt q1006 q1007 q52 q1008) rfl rfl rfl (by decide +kernel) ⟨Nat.le_of_ble_eq_true rfl, Nat.le_of_ble_eq_true rfl⟩) (preS hK hE hP hD hS hA [] rfl (by decide)) rfl rfl hl.1 rfl (lv_room (Nat.le_of_ble_eq_true rfl)) dX10_tell_15 ⟨Nat.le_of_ble_eq_true rfl, Nat.le_of_ble_eq_true rfl⟩) (fun r_5 u9 hw_4 H locs hP hD hS => ?_)
    subst hw_4
    have hP : va_P (gD G) vwCl [(mo, .inr (15, [.int th, .ref al, .long (lN zn), .null, .ref pf, .int rs])), (al, .inr (4, [.int md, .ref (gE G), .int (nI 0)]))] H := hP
    have hD : va_D A [(mo, .inr (15, [.int th, .ref al, .long (lN zn), .null, .ref pf, .int rs])), (al, .inr (4, [.int md, .ref (gE G), .int (nI 0)]))] := hD
    refine lv_if_eq (tgt := 30) hx hb dX10_tell_18 (by decide) (fun c_6 => ?_) (fun c_6 => ?_)
    · skip
      have c_6 : 1 = 0 := (nI_eq (a := 1) (b := 0) (by omega) (by omega)).mp c_6
      exact absurd c_6 (by decide)
    · skip
      have c_6 : ¬ 1 = 0 := fun z => c_6 ((nI_eq (a := 1) (b := 0) (by omega) (by omega)).mpr z)
      refine lv_iload_n hx hb dX10_tell_21 rfl (lv_at hl 3 rfl) ?_
      refine lv_iconst (v := nI 1) hx hb dX10_tell_22 (by decide) ?_
      refine lv_iconst (v := nI 4) hx hb dX10_tell_23 (by decide) ?_
      refine fin_i hP hD hS hA [] [0, 1] (wr := [(mo, .inr (15, [.int th, .ref al, .long (lN zn), .null, .ref pf, .int rs])), (al, .inr (4, [.int md, .ref (gE G), .int (nI 0)]))]) rfl rfl (by decide) (by decide) (va_runS (As := [.int (nI x), .int (nI 1), .int (nI 4)]) (rest := [.ref mo]) ⟨hx, hb, hml, hown, hts⟩ (c_isBetween_ok l G x 1 4 (by omega) (by omega) (by omega) H.size) (va_cwS 3 hts (gSt q1006 q1007 q52 q1008) rfl rfl rfl (by decide +kernel) ⟨Nat.le_of_ble_eq_true rfl, Nat.le_of_ble_eq_true rfl⟩) (preS hK hE hP hD hS hA [] rfl (by decide)) rfl rfl hl.1 rfl (lv_room (Nat.le_of_ble_eq_true rfl)) dX10_tell_24 ⟨Nat.le_of_ble_eq_true rfl, Nat.le_of_ble_eq_true rfl⟩) (fun r_8 u9 hw_7 H locs hP hD hS => ?_)
      subst hw_7
      have hP : va_P (gD G) vwCl [(mo, .inr (15, [.int th, .ref al, .long (lN zn), .null, .ref pf, .int rs])), (al, .inr (4, [.int md, .ref (gE G), .int (nI 0)]))] H := hP
      have hD : va_D A [(mo, .inr (15, [.int th, .ref al, .long (lN zn), .null, .ref pf, .int rs])), (al, .inr (4, [.int md, .ref (gE G), .int (nI 0)]))] := hD
      refine lv_if_ne (tgt := 34) hx hb dX10_tell_27 (by decide) (fun c_9 => ?_) (fun c_9 => ?_)
      · skip
        have c_9 : ¬ 1 = 0 := fun z => c_9 ((nI_eq (a := 1) (b := 0) (by omega) (by omega)).mpr z)
        refine lv_aload_n hx hb dX10_tell_34 rfl (lv_at hl 0 rfl) ?_
        refine va_get (D := gD G) (ci := 15) (v := .null) (C := RX10) (T := TX10) (N := 6) hx hb hts fwX10 hown hK hP 0 rfl rfl 3 (by decide) (hts _ q930) (fun _ h9 => h9) rfl dX10_tell_35 ?_
        refine lv_ifnonnullN hx hb dX10_tell_38 ?_
        refine lv_iconst (v := nI 3) hx hb dX10_tell_41 (by decide) ?_
        refine lv_goto (tgt := 46) hx hb dX10_tell_42 (by decide) ?_
        refine fin_i hP hD hS hA [0] [1] (wr := [(al, .inr (4, [.int md, .ref (gE G), .int (nI 0)]))]) rfl rfl (by decide) (by decide) (va_runV (As := [.int (nI 3)]) (rest := []) ⟨hx, hb, hml, hown, hts⟩ (c_isWrong_k l G mo th al zn pf rs 3 (by omega) (by omega) H.size) (cwV 1 hts (gV q962 q964 q34 q52 q965) rfl rfl rfl (by decide +kernel) ⟨Nat.le_of_ble_eq_true rfl, Nat.le_of_ble_eq_true rfl⟩) (preV (q0 := 0) (ci := 15) hK hE hP hD hS hA [0] rfl (by decide) rfl rfl) rfl rfl hl.1 rfl (lv_room (Nat.le_of_ble_eq_true rfl)) dX10_tell_46 ⟨Nat.le_of_ble_eq_true rfl, Nat.le_of_ble_eq_true rfl⟩) (fun r_11 u9 hw_10 H locs hP hD hS => ?_)
        subst hw_10
        have hP : va_P (gD G) vwCl [(al, .inr (4, [.int md, .ref (gE G), .int (nI 0)])), (mo, .inr (15, [.int (nI 3), .ref al, .long (lN zn), .null, .ref pf, .int rs]))] H := hP
        have hD : va_D A [(al, .inr (4, [.int md, .ref (gE G), .int (nI 0)])), (mo, .inr (15, [.int (nI 3), .ref al, .long (lN zn), .null, .ref pf, .int rs]))] := hD
        refine lv_if_eq (tgt := 54) hx hb dX10_tell_49 (by decide) (fun c_12 => ?_) (fun c_12 => ?_)
        · skip
          have c_12 : 1 = 0 := (nI_eq (a := 1) (b := 0) (by omega) (by omega)).mp c_12
          exact absurd c_12 (by decide)
        · skip
          have c_12 : ¬ 1 = 0 := fun z => c_12 ((nI_eq (a := 1) (b := 0) (by omega) (by omega)).mpr z)
          refine lv_iconst (v := nI 0) hx hb dX10_tell_52 (by decide) ?_
          have hP9 := hP.sub (ws' := [(mo, .inr (15, [.int (nI 3), .ref al, .long (lN zn), .null, .ref pf, .int rs])), (al, .inr (4, [.int md, .ref (gE G), .int (nI 0)]))]) [1, 0] rfl
          have hD9 := hD.sub (ws' := [(mo, .inr (15, [.int (nI 3), .ref al, .long (lN zn), .null, .ref pf, .int rs])), (al, .inr (4, [.int md, .ref (gE G), .int (nI 0)]))]) [1, 0] (by decide) rfl
          subst hQ
          exact W.iret (v := nI 0) hx hb hr (fun t ht hW => ⟨⟨nI 0, (), rfl, trivial, by rw [ht]; exact hP9, hD9⟩, hS.F ht⟩) hS.2.2 dX10_tell_53
      · skip
        have c_9 : 1 = 0 := (nI_eq (a := 1) (b := 0) (by omega) (by omega)).mp c_9
        exact absurd c_9 (by decide)
  · skip
    have c_3 : 1 = 0 := (nI_eq (a := 1) (b := 0) (by omega) (by omega)).mp c_3
    exact absurd c_3 (by decide)
set_option maxHeartbeats 4000000 in
set_option maxRecDepth 100000 in
theorem c_mcand_1 (l : Launch) (G : GG) (mo : Nat) (th : Int32) (al : Nat) (zn : Nat) (pf : Nat) (rs : Int32) (md : Int32) (v : Int32) (hbad : v < nI 0 ∨ nI 15 < v) : Mi l G yX10_candidates cX10_candidates 2 (some .int) ({ frames := 2, cells := 0, slots := 0, locals := 42 } : Room) [.ref mo, .int v] [(mo, .inr (15, [.int th, .ref al, .long (lN zn), .null, .ref pf, .int rs])), (al, .inr (4, [.int md, .ref (gE G), .int (nI 0)]))] (fun (r : Int32) (u : Unit) => True) (fun (u : Unit) => [(mo, .inr (15, [.int (nI 1), .ref al, .long (lN zn), .null, .ref pf, .int rs])), (al, .inr (4, [.int md, .ref (gE G), .int (nI 0)]))]) := by
  intro sz
  refine Met.ofW (cc := cX10_candidates) (maxL := 2) (ret := (some .int)) (by decide) rfl ?_
  intro p e s m args below meth c s₁ B9 hml hv
  obtain ⟨rfl, hsz, hP, hK, hD0, hE⟩ := hv
  have hx := B9.exec
  have hb := B9.bytes
  have hr := B9.returns
  have hts : ∀ w ∈ WW, w.before ([.ref mo, .int v] : List Value).toArray s = true := fun w h => atoms_spec (ws := .code yX10_candidates cX10_candidates 2 (some .int) :: WW) B9.pre w (List.mem_cons_of_mem _ h)
  have hown : s.vm.findClass RX10 = some m.cls := findClass_of_methodNamed B9.named
  subst hsz
  have hD := hD0.self (sz := s.heap.size)
  generalize hAe : va_A [(mo, .inr (15, [.int th, .ref al, .long (lN zn), .null, .ref pf, .int rs])), (al, .inr (4, [.int md, .ref (gE G), .int (nI 0)]))] s.heap.size = A at hD hE ⊢
  have hA : ∀ q : Nat, s.heap.size ≤ q → A q := fun q h => by rw [← hAe]; exact Or.inr h
  have hl := lv_entry ([.ref mo, .int v]) (n := 2) (Nat.le_of_ble_eq_true rfl)
  rw [lg_entry_eq]
  generalize (lg_sl ([.ref mo, .int v]) ++ List.replicate (2 - (lg_sl ([.ref mo, .int v])).length) Slot.unset).toArray = ls at hl ⊢
  have hl : lv_has ls 2 [(0, .ref mo), (1, .int v)] := hl
  refine qgen (fun Q hQ => ?_)
  refine hgen (fun H locs hP hD hS => ?_) hP hD
  refine lv_aload_n hx hb dX10_candidates_0 rfl (lv_at hl 0 rfl) ?_
  refine lv_iload_n hx hb dX10_candidates_1 rfl (lv_at hl 1 rfl) ?_
  refine fin_i hP hD hS hA [] [0, 1] (wr := [(mo, .inr (15, [.int th, .ref al, .long (lN zn), .null, .ref pf, .int rs])), (al, .inr (4, [.int md, .ref (gE G), .int (nI 0)]))]) rfl rfl (by decide) (by decide) (va_runS (As := [.int v]) (rest := [.ref mo]) ⟨hx, hb, hml, hown, hts⟩ (c_isCell_bad l G v (by assumption) H.size) (va_cwS 1 hts (gSt q1009 q1010 q52 q1011) rfl rfl rfl (by decide +kernel) ⟨Nat.le_of_ble_eq_true rfl, Nat.le_of_ble_eq_true rfl⟩) (preS hK hE hP hD hS hA [] rfl (by decide)) rfl rfl hl.1 rfl (lv_room (Nat.le_of_ble_eq_true rfl)) dX10_candidates_2 ⟨Nat.le_of_ble_eq_true rfl, Nat.le_of_ble_eq_true rfl⟩) (fun r_2 u9 hw_1 H locs hP hD hS => ?_)
  subst hw_1
  have hP : va_P (gD G) vwCl [(mo, .inr (15, [.int th, .ref al, .long (lN zn), .null, .ref pf, .int rs])), (al, .inr (4, [.int md, .ref (gE G), .int (nI 0)]))] H := hP
  have hD : va_D A [(mo, .inr (15, [.int th, .ref al, .long (lN zn), .null, .ref pf, .int rs])), (al, .inr (4, [.int md, .ref (gE G), .int (nI 0)]))] := hD
  refine lv_if_ne (tgt := 12) hx hb dX10_candidates_5 (by decide) (fun c_3 => ?_) (fun c_3 => ?_)
  · skip
    have c_3 : ¬ 0 = 0 := fun z => c_3 ((nI_eq (a := 0) (b := 0) (by omega) (by omega)).mpr z)
    exact absurd c_3 (by decide)
  · skip
    have c_3 : 0 = 0 := (nI_eq (a := 0) (b := 0) (by omega) (by omega)).mp c_3
    refine lv_iconst (v := nI 1) hx hb dX10_candidates_8 (by decide) ?_
    refine lv_goto (tgt := 24) hx hb dX10_candidates_9 (by decide) ?_
    refine fin_i hP hD hS hA [0] [1] (wr := [(al, .inr (4, [.int md, .ref (gE G), .int (nI 0)]))]) rfl rfl (by decide) (by decide) (va_runV (As := [.int (nI 1)]) (rest := []) ⟨hx, hb, hml, hown, hts⟩ (c_isWrong_k l G mo th al zn pf rs 1 (by omega) (by omega) H.size) (cwV 1 hts (gV q962 q964 q34 q52 q965) rfl rfl rfl (by decide +kernel) ⟨Nat.le_of_ble_eq_true rfl, Nat.le_of_ble_eq_true rfl⟩) (preV (q0 := 0) (ci := 15) hK hE hP hD hS hA [0] rfl (by decide) rfl rfl) rfl rfl hl.1 rfl (lv_room (Nat.le_of_ble_eq_true rfl)) dX10_candidates_24 ⟨Nat.le_of_ble_eq_true rfl, Nat.le_of_ble_eq_true rfl⟩) (fun r_5 u9 hw_4 H locs hP hD hS => ?_)
    subst hw_4
    have hP : va_P (gD G) vwCl [(al, .inr (4, [.int md, .ref (gE G), .int (nI 0)])), (mo, .inr (15, [.int (nI 1), .ref al, .long (lN zn), .null, .ref pf, .int rs]))] H := hP
    have hD : va_D A [(al, .inr (4, [.int md, .ref (gE G), .int (nI 0)])), (mo, .inr (15, [.int (nI 1), .ref al, .long (lN zn), .null, .ref pf, .int rs]))] := hD
    refine lv_if_eq (tgt := 34) hx hb dX10_candidates_27 (by decide) (fun c_6 => ?_) (fun c_6 => ?_)
    · skip
      have c_6 : 1 = 0 := (nI_eq (a := 1) (b := 0) (by omega) (by omega)).mp c_6
      exact absurd c_6 (by decide)
    · skip
      have c_6 : ¬ 1 = 0 := fun z => c_6 ((nI_eq (a := 1) (b := 0) (by omega) (by omega)).mpr z)
      refine lv_iconst (v := nI 0) hx hb dX10_candidates_30 (by decide) ?_
      refine lv_goto (tgt := 40) hx hb dX10_candidates_31 (by decide) ?_
      have hP9 := hP.sub (ws' := [(mo, .inr (15, [.int (nI 1), .ref al, .long (lN zn), .null, .ref pf, .int rs])), (al, .inr (4, [.int md, .ref (gE G), .int (nI 0)]))]) [1, 0] rfl
      have hD9 := hD.sub (ws' := [(mo, .inr (15, [.int (nI 1), .ref al, .long (lN zn), .null, .ref pf, .int rs])), (al, .inr (4, [.int md, .ref (gE G), .int (nI 0)]))]) [1, 0] (by decide) rfl
      subst hQ
      exact W.iret (v := nI 0) hx hb hr (fun t ht hW => ⟨⟨nI 0, (), rfl, trivial, by rw [ht]; exact hP9, hD9⟩, hS.F ht⟩) hS.2.2 dX10_candidates_40
set_option maxHeartbeats 4000000 in
set_option maxRecDepth 100000 in
theorem c_mcand_2 (l : Launch) (G : GG) (mo : Nat) (th : Int32) (al : Nat) (zn : Nat) (pf : Nat) (rs : Int32) (md : Int32) (k : Nat) (hk : k < 16) : Mi l G yX10_candidates cX10_candidates 2 (some .int) ({ frames := 2, cells := 0, slots := 0, locals := 42 } : Room) [.ref mo, .int (nI k)] [(mo, .inr (15, [.int th, .ref al, .long (lN zn), .null, .ref pf, .int rs])), (al, .inr (4, [.int md, .ref (gE G), .int (nI 0)]))] (fun (r : Int32) (u : Unit) => True) (fun (u : Unit) => [(mo, .inr (15, [.int (nI 2), .ref al, .long (lN zn), .null, .ref pf, .int rs])), (al, .inr (4, [.int md, .ref (gE G), .int (nI 0)]))]) := by
  intro sz
  refine Met.ofW (cc := cX10_candidates) (maxL := 2) (ret := (some .int)) (by decide) rfl ?_
  intro p e s m args below meth c s₁ B9 hml hv
  obtain ⟨rfl, hsz, hP, hK, hD0, hE⟩ := hv
  have hx := B9.exec
  have hb := B9.bytes
  have hr := B9.returns
  have hts : ∀ w ∈ WW, w.before ([.ref mo, .int (nI k)] : List Value).toArray s = true := fun w h => atoms_spec (ws := .code yX10_candidates cX10_candidates 2 (some .int) :: WW) B9.pre w (List.mem_cons_of_mem _ h)
  have hown : s.vm.findClass RX10 = some m.cls := findClass_of_methodNamed B9.named
  subst hsz
  have hD := hD0.self (sz := s.heap.size)
  generalize hAe : va_A [(mo, .inr (15, [.int th, .ref al, .long (lN zn), .null, .ref pf, .int rs])), (al, .inr (4, [.int md, .ref (gE G), .int (nI 0)]))] s.heap.size = A at hD hE ⊢
  have hA : ∀ q : Nat, s.heap.size ≤ q → A q := fun q h => by rw [← hAe]; exact Or.inr h
  have hl := lv_entry ([.ref mo, .int (nI k)]) (n := 2) (Nat.le_of_ble_eq_true rfl)
  rw [lg_entry_eq]
  generalize (lg_sl ([.ref mo, .int (nI k)]) ++ List.replicate (2 - (lg_sl ([.ref mo, .int (nI k)])).length) Slot.unset).toArray = ls at hl ⊢
  have hl : lv_has ls 2 [(0, .ref mo), (1, .int (nI k))] := hl
  refine qgen (fun Q hQ => ?_)
  refine hgen (fun H locs hP hD hS => ?_) hP hD
  refine lv_aload_n hx hb dX10_candidates_0 rfl (lv_at hl 0 rfl) ?_
  refine lv_iload_n hx hb dX10_candidates_1 rfl (lv_at hl 1 rfl) ?_
  refine fin_i hP hD hS hA [] [0, 1] (wr := [(mo, .inr (15, [.int th, .ref al, .long (lN zn), .null, .ref pf, .int rs])), (al, .inr (4, [.int md, .ref (gE G), .int (nI 0)]))]) rfl rfl (by decide) (by decide) (va_runS (As := [.int (nI k)]) (rest := [.ref mo]) ⟨hx, hb, hml, hown, hts⟩ (c_isCell_ok l G k (by omega) H.size) (va_cwS 1 hts (gSt q1009 q1010 q52 q1011) rfl rfl rfl (by decide +kernel) ⟨Nat.le_of_ble_eq_true rfl, Nat.le_of_ble_eq_true rfl⟩) (preS hK hE hP hD hS hA [] rfl (by decide)) rfl rfl hl.1 rfl (lv_room (Nat.le_of_ble_eq_true rfl)) dX10_candidates_2 ⟨Nat.le_of_ble_eq_true rfl, Nat.le_of_ble_eq_true rfl⟩) (fun r_2 u9 hw_1 H locs hP hD hS => ?_)
  subst hw_1
  have hP : va_P (gD G) vwCl [(mo, .inr (15, [.int th, .ref al, .long (lN zn), .null, .ref pf, .int rs])), (al, .inr (4, [.int md, .ref (gE G), .int (nI 0)]))] H := hP
  have hD : va_D A [(mo, .inr (15, [.int th, .ref al, .long (lN zn), .null, .ref pf, .int rs])), (al, .inr (4, [.int md, .ref (gE G), .int (nI 0)]))] := hD
  refine lv_if_ne (tgt := 12) hx hb dX10_candidates_5 (by decide) (fun c_3 => ?_) (fun c_3 => ?_)
  · skip
    have c_3 : ¬ 1 = 0 := fun z => c_3 ((nI_eq (a := 1) (b := 0) (by omega) (by omega)).mpr z)
    refine lv_aload_n hx hb dX10_candidates_12 rfl (lv_at hl 0 rfl) ?_
    refine va_get (D := gD G) (ci := 15) (v := .null) (C := RX10) (T := TX10) (N := 6) hx hb hts fwX10 hown hK hP 0 rfl rfl 3 (by decide) (hts _ q930) (fun _ h9 => h9) rfl dX10_candidates_13 ?_
    refine lv_ifnonnullN hx hb dX10_candidates_16 ?_
    refine lv_iconst (v := nI 2) hx hb dX10_candidates_19 (by decide) ?_
    refine lv_goto (tgt := 24) hx hb dX10_candidates_20 (by decide) ?_
    refine fin_i hP hD hS hA [0] [1] (wr := [(al, .inr (4, [.int md, .ref (gE G), .int (nI 0)]))]) rfl rfl (by decide) (by decide) (va_runV (As := [.int (nI 2)]) (rest := []) ⟨hx, hb, hml, hown, hts⟩ (c_isWrong_k l G mo th al zn pf rs 2 (by omega) (by omega) H.size) (cwV 1 hts (gV q962 q964 q34 q52 q965) rfl rfl rfl (by decide +kernel) ⟨Nat.le_of_ble_eq_true rfl, Nat.le_of_ble_eq_true rfl⟩) (preV (q0 := 0) (ci := 15) hK hE hP hD hS hA [0] rfl (by decide) rfl rfl) rfl rfl hl.1 rfl (lv_room (Nat.le_of_ble_eq_true rfl)) dX10_candidates_24 ⟨Nat.le_of_ble_eq_true rfl, Nat.le_of_ble_eq_true rfl⟩) (fun r_5 u9 hw_4 H locs hP hD hS => ?_)
    subst hw_4
    have hP : va_P (gD G) vwCl [(al, .inr (4, [.int md, .ref (gE G), .int (nI 0)])), (mo, .inr (15, [.int (nI 2), .ref al, .long (lN zn), .null, .ref pf, .int rs]))] H := hP
    have hD : va_D A [(al, .inr (4, [.int md, .ref (gE G), .int (nI 0)])), (mo, .inr (15, [.int (nI 2), .ref al, .long (lN zn), .null, .ref pf, .int rs]))] := hD
    refine lv_if_eq (tgt := 34) hx hb dX10_candidates_27 (by decide) (fun c_6 => ?_) (fun c_6 => ?_)
    · skip
      have c_6 : 1 = 0 := (nI_eq (a := 1) (b := 0) (by omega) (by omega)).mp c_6
      exact absurd c_6 (by decide)
    · skip
      have c_6 : ¬ 1 = 0 := fun z => c_6 ((nI_eq (a := 1) (b := 0) (by omega) (by omega)).mpr z)
      refine lv_iconst (v := nI 0) hx hb dX10_candidates_30 (by decide) ?_
      refine lv_goto (tgt := 40) hx hb dX10_candidates_31 (by decide) ?_
      have hP9 := hP.sub (ws' := [(mo, .inr (15, [.int (nI 2), .ref al, .long (lN zn), .null, .ref pf, .int rs])), (al, .inr (4, [.int md, .ref (gE G), .int (nI 0)]))]) [1, 0] rfl
      have hD9 := hD.sub (ws' := [(mo, .inr (15, [.int (nI 2), .ref al, .long (lN zn), .null, .ref pf, .int rs])), (al, .inr (4, [.int md, .ref (gE G), .int (nI 0)]))]) [1, 0] (by decide) rfl
      subst hQ
      exact W.iret (v := nI 0) hx hb hr (fun t ht hW => ⟨⟨nI 0, (), rfl, trivial, by rw [ht]; exact hP9, hD9⟩, hS.F ht⟩) hS.2.2 dX10_candidates_40
  · skip
    have c_3 : 1 = 0 := (nI_eq (a := 1) (b := 0) (by omega) (by omega)).mp c_3
    exact absurd c_3 (by decide)
set_option maxHeartbeats 4000000 in
set_option maxRecDepth 100000 in
theorem c_X10_isWhole (l : Launch) (G : GG) (mo : Nat) (th : Int32) (al : Nat) (zn : Nat) (pf : Nat) (rs : Int32) (md : Int32) : Mi l G yX10_isWhole cX10_isWhole 6 (some .boolean) ({ frames := 1, cells := 0, slots := 0, locals := 21 } : Room) [.ref mo] [(mo, .inr (15, [.int th, .ref al, .long (lN zn), .null, .ref pf, .int rs])), (al, .inr (4, [.int md, .ref (gE G), .int (nI 0)]))] (fun (r : Int32) (u : Unit) => True) (fun (u : Unit) => [(mo, .inr (15, [.int (nI 1), .ref al, .long (lN zn), .null, .ref pf, .int rs])), (al, .inr (4, [.int md, .ref (gE G), .int (nI 0)]))]) := by
  intro sz
  refine Met.ofW (cc := cX10_isWhole) (maxL := 6) (ret := (some .boolean)) (by decide) rfl ?_
  intro p e s m args below meth c s₁ B9 hml hv
  obtain ⟨rfl, hsz, hP, hK, hD0, hE⟩ := hv
  have hx := B9.exec
  have hb := B9.bytes
  have hr := B9.returns
  have hts : ∀ w ∈ WW, w.before ([.ref mo] : List Value).toArray s = true := fun w h => atoms_spec (ws := .code yX10_isWhole cX10_isWhole 6 (some .boolean) :: WW) B9.pre w (List.mem_cons_of_mem _ h)
  have hown : s.vm.findClass RX10 = some m.cls := findClass_of_methodNamed B9.named
  subst hsz
  have hD := hD0.self (sz := s.heap.size)
  generalize hAe : va_A [(mo, .inr (15, [.int th, .ref al, .long (lN zn), .null, .ref pf, .int rs])), (al, .inr (4, [.int md, .ref (gE G), .int (nI 0)]))] s.heap.size = A at hD hE ⊢
  have hA : ∀ q : Nat, s.heap.size ≤ q → A q := fun q h => by rw [← hAe]; exact Or.inr h
  have hl := lv_entry ([.ref mo]) (n := 6) (Nat.le_of_ble_eq_true rfl)
  rw [lg_entry_eq]
  generalize (lg_sl ([.ref mo]) ++ List.replicate (6 - (lg_sl ([.ref mo])).length) Slot.unset).toArray = ls at hl ⊢
  have hl : lv_has ls 6 [(0, .ref mo)] := hl
  refine qgen (fun Q hQ => ?_)
  refine hgen (fun H locs hP hD hS => ?_) hP hD
  refine lv_aload_n hx hb dX10_isWhole_0 rfl (lv_at hl 0 rfl) ?_
  refine lv_aload_n hx hb dX10_isWhole_1 rfl (lv_at hl 0 rfl) ?_
  refine va_get (D := gD G) (ci := 15) (v := .null) (C := RX10) (T := TX10) (N := 6) hx hb hts fwX10 hown hK hP 0 rfl rfl 3 (by decide) (hts _ q930) (fun _ h9 => h9) rfl dX10_isWhole_2 ?_
  refine lv_ifnonnullN hx hb dX10_isWhole_5 ?_
  refine lv_iconst (v := nI 1) hx hb dX10_isWhole_8 (by decide) ?_
  refine lv_goto (tgt := 13) hx hb dX10_isWhole_9 (by decide) ?_
  refine fin_i hP hD hS hA [0] [1] (wr := [(al, .inr (4, [.int md, .ref (gE G), .int (nI 0)]))]) rfl rfl (by decide) (by decide) (va_runV (As := [.int (nI 1)]) (rest := []) ⟨hx, hb, hml, hown, hts⟩ (c_isWrong_k l G mo th al zn pf rs 1 (by omega) (by omega) H.size) (cwV 1 hts (gV q962 q964 q34 q52 q965) rfl rfl rfl (by decide +kernel) ⟨Nat.le_of_ble_eq_true rfl, Nat.le_of_ble_eq_true rfl⟩) (preV (q0 := 0) (ci := 15) hK hE hP hD hS hA [0] rfl (by decide) rfl rfl) rfl rfl hl.1 rfl (lv_room (Nat.le_of_ble_eq_true rfl)) dX10_isWhole_13 ⟨Nat.le_of_ble_eq_true rfl, Nat.le_of_ble_eq_true rfl⟩) (fun r_2 u9 hw_1 H locs hP hD hS => ?_)
  subst hw_1
  have hP : va_P (gD G) vwCl [(al, .inr (4, [.int md, .ref (gE G), .int (nI 0)])), (mo, .inr (15, [.int (nI 1), .ref al, .long (lN zn), .null, .ref pf, .int rs]))] H := hP
  have hD : va_D A [(al, .inr (4, [.int md, .ref (gE G), .int (nI 0)])), (mo, .inr (15, [.int (nI 1), .ref al, .long (lN zn), .null, .ref pf, .int rs]))] := hD
  refine lv_if_eq (tgt := 21) hx hb dX10_isWhole_16 (by decide) (fun c_3 => ?_) (fun c_3 => ?_)
  · skip
    have c_3 : 1 = 0 := (nI_eq (a := 1) (b := 0) (by omega) (by omega)).mp c_3
    exact absurd c_3 (by decide)
  · skip
    have c_3 : ¬ 1 = 0 := fun z => c_3 ((nI_eq (a := 1) (b := 0) (by omega) (by omega)).mpr z)
    refine lv_iconst (v := nI 0) hx hb dX10_isWhole_19 (by decide) ?_
    have hP9 := hP.sub (ws' := [(mo, .inr (15, [.int (nI 1), .ref al, .long (lN zn), .null, .ref pf, .int rs])), (al, .inr (4, [.int md, .ref (gE G), .int (nI 0)]))]) [1, 0] rfl
    have hD9 := hD.sub (ws' := [(mo, .inr (15, [.int (nI 1), .ref al, .long (lN zn), .null, .ref pf, .int rs])), (al, .inr (4, [.int md, .ref (gE G), .int (nI 0)]))]) [1, 0] (by decide) rfl
    subst hQ
    exact W.zret (v := nI 0) hx hb hr (by decide) (fun t ht hW => ⟨⟨nI 0, (), rfl, trivial, by rw [ht]; exact hP9, hD9⟩, hS.F ht⟩) hS.2.2 dX10_isWhole_20
set_option maxHeartbeats 4000000 in
set_option maxRecDepth 100000 in
theorem c_X10_isSound (l : Launch) (G : GG) (mo : Nat) (th : Int32) (al : Nat) (zn : Nat) (pf : Nat) (rs : Int32) (md : Int32) : Mi l G yX10_isSound cX10_isSound 1 (some .boolean) ({ frames := 0, cells := 0, slots := 0, locals := 0 } : Room) [.ref mo] [(mo, .inr (15, [.int th, .ref al, .long (lN zn), .null, .ref pf, .int rs])), (al, .inr (4, [.int md, .ref (gE G), .int (nI 0)]))] (fun (r : Int32) (u : Unit) => r = nI 1) (fun (u : Unit) => [(mo, .inr (15, [.int (nI 0), .ref al, .long (lN zn), .null, .ref pf, .int rs])), (al, .inr (4, [.int md, .ref (gE G), .int (nI 0)]))]) := by
  intro sz
  refine Met.ofW (cc := cX10_isSound) (maxL := 1) (ret := (some .boolean)) (by decide) rfl ?_
  intro p e s m args below meth c s₁ B9 hml hv
  obtain ⟨rfl, hsz, hP, hK, hD0, hE⟩ := hv
  have hx := B9.exec
  have hb := B9.bytes
  have hr := B9.returns
  have hts : ∀ w ∈ WW, w.before ([.ref mo] : List Value).toArray s = true := fun w h => atoms_spec (ws := .code yX10_isSound cX10_isSound 1 (some .boolean) :: WW) B9.pre w (List.mem_cons_of_mem _ h)
  have hown : s.vm.findClass RX10 = some m.cls := findClass_of_methodNamed B9.named
  subst hsz
  have hD := hD0.self (sz := s.heap.size)
  generalize hAe : va_A [(mo, .inr (15, [.int th, .ref al, .long (lN zn), .null, .ref pf, .int rs])), (al, .inr (4, [.int md, .ref (gE G), .int (nI 0)]))] s.heap.size = A at hD hE ⊢
  have hA : ∀ q : Nat, s.heap.size ≤ q → A q := fun q h => by rw [← hAe]; exact Or.inr h
  have hl := lv_entry ([.ref mo]) (n := 1) (Nat.le_of_ble_eq_true rfl)
  rw [lg_entry_eq]
  generalize (lg_sl ([.ref mo]) ++ List.replicate (1 - (lg_sl ([.ref mo])).length) Slot.unset).toArray = ls at hl ⊢
  have hl : lv_has ls 1 [(0, .ref mo)] := hl
  refine qgen (fun Q hQ => ?_)
  refine hgen (fun H locs hP hD hS => ?_) hP hD
  refine lv_aload_n hx hb dX10_isSound_0 rfl (lv_at hl 0 rfl) ?_
  refine lv_iconst (v := nI 0) hx hb dX10_isSound_1 (by decide) ?_
  refine va_put (D := gD G) (ci := 15) (v := .int (nI 0)) (ty := .int) (C := RX10) (T := TX10) (N := 6) hx hb hts fwX10 tyX10 tyX10_ok nmX10 hown hK hP hD hS 0 rfl rfl 0 (by decide) (hts _ q927) (fun _ h9 => h9) rfl (by decide +kernel) rfl rfl (Nat.le_of_ble_eq_true rfl) dX10_isSound_2 (fun H locs hP hD hS => ?_)
  have hP : va_P (gD G) vwCl [(mo, .inr (15, [.int (nI 0), .ref al, .long (lN zn), .null, .ref pf, .int rs])), (al, .inr (4, [.int md, .ref (gE G), .int (nI 0)]))] H := hP
  have hD : va_D A [(mo, .inr (15, [.int (nI 0), .ref al, .long (lN zn), .null, .ref pf, .int rs])), (al, .inr (4, [.int md, .ref (gE G), .int (nI 0)]))] := hD
  refine lv_iconst (v := nI 1) hx hb dX10_isSound_5 (by decide) ?_
  have hP9 := hP.sub (ws' := [(mo, .inr (15, [.int (nI 0), .ref al, .long (lN zn), .null, .ref pf, .int rs])), (al, .inr (4, [.int md, .ref (gE G), .int (nI 0)]))]) [0, 1] rfl
  have hD9 := hD.sub (ws' := [(mo, .inr (15, [.int (nI 0), .ref al, .long (lN zn), .null, .ref pf, .int rs])), (al, .inr (4, [.int md, .ref (gE G), .int (nI 0)]))]) [0, 1] (by decide) rfl
  subst hQ
  exact W.zret (v := nI 1) hx hb hr (by decide) (fun t ht hW => ⟨⟨nI 1, (), rfl, rfl, by rw [ht]; exact hP9, hD9⟩, hS.F ht⟩) hS.2.2 dX10_isSound_6
set_option maxHeartbeats 4000000 in
set_option maxRecDepth 100000 in
theorem c_X10_reason (l : Launch) (G : GG) (mo : Nat) (th : Int32) (al : Nat) (zn : Nat) (pf : Nat) (rs : Int32) (md : Int32) : Mi l G yX10_reason cX10_reason 1 (some .int) ({ frames := 0, cells := 0, slots := 0, locals := 0 } : Room) [.ref mo] [(mo, .inr (15, [.int th, .ref al, .long (lN zn), .null, .ref pf, .int rs])), (al, .inr (4, [.int md, .ref (gE G), .int (nI 0)]))] (fun (r : Int32) (u : Unit) => r = rs) (fun (u : Unit) => [(mo, .inr (15, [.int (nI 0), .ref al, .long (lN zn), .null, .ref pf, .int rs])), (al, .inr (4, [.int md, .ref (gE G), .int (nI 0)]))]) := by
  intro sz
  refine Met.ofW (cc := cX10_reason) (maxL := 1) (ret := (some .int)) (by decide) rfl ?_
  intro p e s m args below meth c s₁ B9 hml hv
  obtain ⟨rfl, hsz, hP, hK, hD0, hE⟩ := hv
  have hx := B9.exec
  have hb := B9.bytes
  have hr := B9.returns
  have hts : ∀ w ∈ WW, w.before ([.ref mo] : List Value).toArray s = true := fun w h => atoms_spec (ws := .code yX10_reason cX10_reason 1 (some .int) :: WW) B9.pre w (List.mem_cons_of_mem _ h)
  have hown : s.vm.findClass RX10 = some m.cls := findClass_of_methodNamed B9.named
  subst hsz
  have hD := hD0.self (sz := s.heap.size)
  generalize hAe : va_A [(mo, .inr (15, [.int th, .ref al, .long (lN zn), .null, .ref pf, .int rs])), (al, .inr (4, [.int md, .ref (gE G), .int (nI 0)]))] s.heap.size = A at hD hE ⊢
  have hA : ∀ q : Nat, s.heap.size ≤ q → A q := fun q h => by rw [← hAe]; exact Or.inr h
  have hl := lv_entry ([.ref mo]) (n := 1) (Nat.le_of_ble_eq_true rfl)
  rw [lg_entry_eq]
  generalize (lg_sl ([.ref mo]) ++ List.replicate (1 - (lg_sl ([.ref mo])).length) Slot.unset).toArray = ls at hl ⊢
  have hl : lv_has ls 1 [(0, .ref mo)] := hl
  refine qgen (fun Q hQ => ?_)
  refine hgen (fun H locs hP hD hS => ?_) hP hD
  refine lv_aload_n hx hb dX10_reason_0 rfl (lv_at hl 0 rfl) ?_
  refine lv_iconst (v := nI 0) hx hb dX10_reason_1 (by decide) ?_
  refine va_put (D := gD G) (ci := 15) (v := .int (nI 0)) (ty := .int) (C := RX10) (T := TX10) (N := 6) hx hb hts fwX10 tyX10 tyX10_ok nmX10 hown hK hP hD hS 0 rfl rfl 0 (by decide) (hts _ q927) (fun _ h9 => h9) rfl (by decide +kernel) rfl rfl (Nat.le_of_ble_eq_true rfl) dX10_reason_2 (fun H locs hP hD hS => ?_)
  have hP : va_P (gD G) vwCl [(mo, .inr (15, [.int (nI 0), .ref al, .long (lN zn), .null, .ref pf, .int rs])), (al, .inr (4, [.int md, .ref (gE G), .int (nI 0)]))] H := hP
  have hD : va_D A [(mo, .inr (15, [.int (nI 0), .ref al, .long (lN zn), .null, .ref pf, .int rs])), (al, .inr (4, [.int md, .ref (gE G), .int (nI 0)]))] := hD
  refine lv_aload_n hx hb dX10_reason_5 rfl (lv_at hl 0 rfl) ?_
  refine va_get (D := gD G) (ci := 15) (v := .int rs) (C := RX10) (T := TX10) (N := 6) hx hb hts fwX10 hown hK hP 0 rfl rfl 5 (by decide) (hts _ q932) (fun _ h9 => h9) rfl dX10_reason_6 ?_
  have hP9 := hP.sub (ws' := [(mo, .inr (15, [.int (nI 0), .ref al, .long (lN zn), .null, .ref pf, .int rs])), (al, .inr (4, [.int md, .ref (gE G), .int (nI 0)]))]) [0, 1] rfl
  have hD9 := hD.sub (ws' := [(mo, .inr (15, [.int (nI 0), .ref al, .long (lN zn), .null, .ref pf, .int rs])), (al, .inr (4, [.int md, .ref (gE G), .int (nI 0)]))]) [0, 1] (by decide) rfl
  subst hQ
  exact W.iret (v := rs) hx hb hr (fun t ht hW => ⟨⟨rs, (), rfl, rfl, by rw [ht]; exact hP9, hD9⟩, hS.F ht⟩) hS.2.2 dX10_reason_9
