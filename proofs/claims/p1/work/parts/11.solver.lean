theorem q2 : (Jvm.Cond.selects "Pegboardry$Board" ({ cls := "Pegboardry$Board", name := "fill", desc := "()V" } : Jvm.MethodName) ({ cls := "Pegboardry$Board", name := "fill", desc := "()V" } : Jvm.MethodName)) ∈ WW := inW 2 (by decide +kernel) rfl
theorem q3 : (Jvm.Cond.selects "Pegboardry$Solver" ({ cls := "Pegboardry$Solver", name := "takeOneAway", desc := "(LPegboardry$Puzzle;I)Z" } : Jvm.MethodName) ({ cls := "Pegboardry$Solver", name := "takeOneAway", desc := "(LPegboardry$Puzzle;I)Z" } : Jvm.MethodName)) ∈ WW := inW 3 (by decide +kernel) rfl
theorem q5 : (Jvm.Cond.selects "Pegboardry$Board" ({ cls := "Pegboardry$Board", name := "yieldsTo", desc := "(ILPegboardry$Puzzle;II)Z" } : Jvm.MethodName) ({ cls := "Pegboardry$Board", name := "yieldsTo", desc := "(ILPegboardry$Puzzle;II)Z" } : Jvm.MethodName)) ∈ WW := inW 5 (by decide +kernel) rfl
theorem q6 : (Jvm.Cond.selects "Pegboardry$Board" ({ cls := "Pegboardry$Board", name := "isOnlyCandidateElsewhere", desc := "(III)Z" } : Jvm.MethodName) ({ cls := "Pegboardry$Board", name := "isOnlyCandidateElsewhere", desc := "(III)Z" } : Jvm.MethodName)) ∈ WW := inW 6 (by decide +kernel) rfl
theorem q7 : (Jvm.Cond.selects "Pegboardry$Board" ({ cls := "Pegboardry$Board", name := "isOnlyPlaceOfOther", desc := "(III)Z" } : Jvm.MethodName) ({ cls := "Pegboardry$Board", name := "isOnlyPlaceOfOther", desc := "(III)Z" } : Jvm.MethodName)) ∈ WW := inW 7 (by decide +kernel) rfl
theorem q8 : (Jvm.Cond.selects "Pegboardry$Board" ({ cls := "Pegboardry$Board", name := "isInPairElsewhere", desc := "(III)Z" } : Jvm.MethodName) ({ cls := "Pegboardry$Board", name := "isInPairElsewhere", desc := "(III)Z" } : Jvm.MethodName)) ∈ WW := inW 8 (by decide +kernel) rfl
theorem q11 : (Jvm.Cond.selects "Pegboardry$Board" ({ cls := "Pegboardry$Board", name := "takeAway", desc := "(II)V" } : Jvm.MethodName) ({ cls := "Pegboardry$Board", name := "takeAway", desc := "(II)V" } : Jvm.MethodName)) ∈ WW := inW 11 (by decide +kernel) rfl
theorem q12 : (Jvm.Cond.selects "Pegboardry$Solver" ({ cls := "Pegboardry$Solver", name := "keepStep", desc := "(III)V" } : Jvm.MethodName) ({ cls := "Pegboardry$Solver", name := "keepStep", desc := "(III)V" } : Jvm.MethodName)) ∈ WW := inW 12 (by decide +kernel) rfl
theorem q13 : (Jvm.Cond.selects "Pegboardry$Board" ({ cls := "Pegboardry$Board", name := "isBroken", desc := "()Z" } : Jvm.MethodName) ({ cls := "Pegboardry$Board", name := "isBroken", desc := "()Z" } : Jvm.MethodName)) ∈ WW := inW 13 (by decide +kernel) rfl
theorem q14 : (Jvm.Cond.selects "Pegboardry$Board" ({ cls := "Pegboardry$Board", name := "isSettled", desc := "()Z" } : Jvm.MethodName) ({ cls := "Pegboardry$Board", name := "isSettled", desc := "()Z" } : Jvm.MethodName)) ∈ WW := inW 14 (by decide +kernel) rfl
theorem q49 : (Jvm.Cond.initialized "Pegboardry$Solver") ∈ WW := inW 49 (by decide +kernel) rfl
theorem nq130 : (Jvm.Cond.fieldLinkNest "Pegboardry$Solver" (66 : Nat) "Pegboardry$Board" "masks" "[I" "Pegboardry") ∈ NWs := inN 130 (by decide +kernel) rfl
theorem q136 : (Jvm.Cond.fieldLink "Pegboardry$Solver" (12 : Nat) "Pegboardry$Solver" "board" "LPegboardry$Board;") ∈ WW := inW 136 (by decide +kernel) rfl
theorem q138 : (Jvm.Cond.fieldLink "Pegboardry$Solver" (18 : Nat) "Pegboardry$Solver" "stepRow" "[I") ∈ WW := inW 138 (by decide +kernel) rfl
theorem q140 : (Jvm.Cond.fieldLink "Pegboardry$Solver" (22 : Nat) "Pegboardry$Solver" "settledRow" "[I") ∈ WW := inW 140 (by decide +kernel) rfl
theorem q142 : (Jvm.Cond.fieldLink "Pegboardry$Solver" (25 : Nat) "Pegboardry$Solver" "stepCount" "I") ∈ WW := inW 142 (by decide +kernel) rfl
theorem q144 : (Jvm.Cond.fieldLink "Pegboardry$Solver" (29 : Nat) "Pegboardry$Solver" "settledCount" "I") ∈ WW := inW 144 (by decide +kernel) rfl
theorem q146 : (Jvm.Cond.fieldLink "Pegboardry$Solver" (32 : Nat) "Pegboardry$Solver" "outcome" "C") ∈ WW := inW 146 (by decide +kernel) rfl
theorem nq241 : (Jvm.Cond.methodLinkNest "Pegboardry$Solver" (36 : Nat) ({ cls := "Pegboardry$Board", name := "fill", desc := "()V" } : Jvm.MethodName) "Pegboardry") ∈ NWs := inN 241 (by decide +kernel) rfl
theorem q243 : (Jvm.Cond.instanceMethod ({ cls := "Pegboardry$Board", name := "fill", desc := "()V" } : Jvm.MethodName)) ∈ WW := inW 243 (by decide +kernel) rfl
theorem q244 : (Jvm.Cond.code ({ cls := "Pegboardry$Board", name := "fill", desc := "()V" } : Jvm.MethodName) prog_2_method_2_code (2 : Nat) (Option.none : Option Jvm.ClassFile.FieldType)) ∈ WW := inW 244 (by decide +kernel) rfl
theorem q245 : (Jvm.Cond.methodLink "Pegboardry$Solver" (39 : Nat) ({ cls := "Pegboardry$Solver", name := "takeOneAway", desc := "(LPegboardry$Puzzle;I)Z" } : Jvm.MethodName)) ∈ WW := inW 245 (by decide +kernel) rfl
theorem q247 : (Jvm.Cond.instanceMethod ({ cls := "Pegboardry$Solver", name := "takeOneAway", desc := "(LPegboardry$Puzzle;I)Z" } : Jvm.MethodName)) ∈ WW := inW 247 (by decide +kernel) rfl
theorem q248 : (Jvm.Cond.code ({ cls := "Pegboardry$Solver", name := "takeOneAway", desc := "(LPegboardry$Puzzle;I)Z" } : Jvm.MethodName) prog_7_method_3_code (6 : Nat) (Option.some Jvm.ClassFile.FieldType.boolean)) ∈ WW := inW 248 (by decide +kernel) rfl
theorem nq249 : (Jvm.Cond.methodLinkNest "Pegboardry$Solver" (50 : Nat) ({ cls := "Pegboardry$Board", name := "holds", desc := "(II)Z" } : Jvm.MethodName) "Pegboardry") ∈ NWs := inN 249 (by decide +kernel) rfl
theorem nq253 : (Jvm.Cond.methodLinkNest "Pegboardry$Solver" (54 : Nat) ({ cls := "Pegboardry$Board", name := "yieldsTo", desc := "(ILPegboardry$Puzzle;II)Z" } : Jvm.MethodName) "Pegboardry") ∈ NWs := inN 253 (by decide +kernel) rfl
theorem q255 : (Jvm.Cond.instanceMethod ({ cls := "Pegboardry$Board", name := "yieldsTo", desc := "(ILPegboardry$Puzzle;II)Z" } : Jvm.MethodName)) ∈ WW := inW 255 (by decide +kernel) rfl
theorem q256 : (Jvm.Cond.code ({ cls := "Pegboardry$Board", name := "yieldsTo", desc := "(ILPegboardry$Puzzle;II)Z" } : Jvm.MethodName) prog_2_method_9_code (7 : Nat) (Option.some Jvm.ClassFile.FieldType.boolean)) ∈ WW := inW 256 (by decide +kernel) rfl
theorem q257 : (Jvm.Cond.methodLink "Pegboardry$Board" (32 : Nat) ({ cls := "Pegboardry$Board", name := "isOnlyCandidateElsewhere", desc := "(III)Z" } : Jvm.MethodName)) ∈ WW := inW 257 (by decide +kernel) rfl
theorem q259 : (Jvm.Cond.instanceMethod ({ cls := "Pegboardry$Board", name := "isOnlyCandidateElsewhere", desc := "(III)Z" } : Jvm.MethodName)) ∈ WW := inW 259 (by decide +kernel) rfl
theorem q260 : (Jvm.Cond.code ({ cls := "Pegboardry$Board", name := "isOnlyCandidateElsewhere", desc := "(III)Z" } : Jvm.MethodName) prog_2_method_10_code (6 : Nat) (Option.some Jvm.ClassFile.FieldType.boolean)) ∈ WW := inW 260 (by decide +kernel) rfl
theorem q267 : (Jvm.Cond.methodLink "Pegboardry$Board" (36 : Nat) ({ cls := "Pegboardry$Board", name := "isOnlyPlaceOfOther", desc := "(III)Z" } : Jvm.MethodName)) ∈ WW := inW 267 (by decide +kernel) rfl
theorem q269 : (Jvm.Cond.instanceMethod ({ cls := "Pegboardry$Board", name := "isOnlyPlaceOfOther", desc := "(III)Z" } : Jvm.MethodName)) ∈ WW := inW 269 (by decide +kernel) rfl
theorem q270 : (Jvm.Cond.code ({ cls := "Pegboardry$Board", name := "isOnlyPlaceOfOther", desc := "(III)Z" } : Jvm.MethodName) prog_2_method_11_code (7 : Nat) (Option.some Jvm.ClassFile.FieldType.boolean)) ∈ WW := inW 270 (by decide +kernel) rfl
theorem q271 : (Jvm.Cond.methodLink "Pegboardry$Board" (39 : Nat) ({ cls := "Pegboardry$Board", name := "isInPairElsewhere", desc := "(III)Z" } : Jvm.MethodName)) ∈ WW := inW 271 (by decide +kernel) rfl
theorem q273 : (Jvm.Cond.instanceMethod ({ cls := "Pegboardry$Board", name := "isInPairElsewhere", desc := "(III)Z" } : Jvm.MethodName)) ∈ WW := inW 273 (by decide +kernel) rfl
theorem q274 : (Jvm.Cond.code ({ cls := "Pegboardry$Board", name := "isInPairElsewhere", desc := "(III)Z" } : Jvm.MethodName) prog_2_method_12_code (8 : Nat) (Option.some Jvm.ClassFile.FieldType.boolean)) ∈ WW := inW 274 (by decide +kernel) rfl
theorem nq302 : (Jvm.Cond.methodLinkNest "Pegboardry$Solver" (58 : Nat) ({ cls := "Pegboardry$Board", name := "takeAway", desc := "(II)V" } : Jvm.MethodName) "Pegboardry") ∈ NWs := inN 302 (by decide +kernel) rfl
theorem q304 : (Jvm.Cond.instanceMethod ({ cls := "Pegboardry$Board", name := "takeAway", desc := "(II)V" } : Jvm.MethodName)) ∈ WW := inW 304 (by decide +kernel) rfl
theorem q305 : (Jvm.Cond.code ({ cls := "Pegboardry$Board", name := "takeAway", desc := "(II)V" } : Jvm.MethodName) prog_2_method_4_code (3 : Nat) (Option.none : Option Jvm.ClassFile.FieldType)) ∈ WW := inW 305 (by decide +kernel) rfl
theorem q306 : (Jvm.Cond.methodLink "Pegboardry$Solver" (62 : Nat) ({ cls := "Pegboardry$Solver", name := "keepStep", desc := "(III)V" } : Jvm.MethodName)) ∈ WW := inW 306 (by decide +kernel) rfl
theorem q308 : (Jvm.Cond.instanceMethod ({ cls := "Pegboardry$Solver", name := "keepStep", desc := "(III)V" } : Jvm.MethodName)) ∈ WW := inW 308 (by decide +kernel) rfl
theorem q309 : (Jvm.Cond.code ({ cls := "Pegboardry$Solver", name := "keepStep", desc := "(III)V" } : Jvm.MethodName) prog_7_method_4_code (4 : Nat) (Option.none : Option Jvm.ClassFile.FieldType)) ∈ WW := inW 309 (by decide +kernel) rfl
theorem q310 : (Jvm.Cond.methodLink "Pegboardry$Solver" (69 : Nat) ({ cls := "java/lang/Integer", name := "bitCount", desc := "(I)I" } : Jvm.MethodName)) ∈ WW := inW 310 (by decide +kernel) rfl
theorem nq311 : (Jvm.Cond.methodLinkNest "Pegboardry$Solver" (43 : Nat) ({ cls := "Pegboardry$Board", name := "isBroken", desc := "()Z" } : Jvm.MethodName) "Pegboardry") ∈ NWs := inN 311 (by decide +kernel) rfl
theorem q313 : (Jvm.Cond.instanceMethod ({ cls := "Pegboardry$Board", name := "isBroken", desc := "()Z" } : Jvm.MethodName)) ∈ WW := inW 313 (by decide +kernel) rfl
theorem q314 : (Jvm.Cond.code ({ cls := "Pegboardry$Board", name := "isBroken", desc := "()Z" } : Jvm.MethodName) prog_2_method_8_code (2 : Nat) (Option.some Jvm.ClassFile.FieldType.boolean)) ∈ WW := inW 314 (by decide +kernel) rfl
theorem nq315 : (Jvm.Cond.methodLinkNest "Pegboardry$Solver" (47 : Nat) ({ cls := "Pegboardry$Board", name := "isSettled", desc := "()Z" } : Jvm.MethodName) "Pegboardry") ∈ NWs := inN 315 (by decide +kernel) rfl
theorem q317 : (Jvm.Cond.instanceMethod ({ cls := "Pegboardry$Board", name := "isSettled", desc := "()Z" } : Jvm.MethodName)) ∈ WW := inW 317 (by decide +kernel) rfl
theorem q318 : (Jvm.Cond.code ({ cls := "Pegboardry$Board", name := "isSettled", desc := "()Z" } : Jvm.MethodName) prog_2_method_7_code (2 : Nat) (Option.some Jvm.ClassFile.FieldType.boolean)) ∈ WW := inW 318 (by decide +kernel) rfl
theorem nq442 : (Jvm.Cond.fieldLinkNest "Pegboardry$Board" (27 : Nat) "Pegboardry$Puzzle" "givenRow" "[I" "Pegboardry") ∈ NWs := inN 442 (by decide +kernel) rfl
theorem dX0_yieldsTo_0 : decode cX0_yieldsTo 0 = .ok (.iload_n 3, 1) := by decide +kernel
theorem dX0_yieldsTo_1 : decode cX0_yieldsTo 1 = .ok (.iconst 4, 1) := by decide +kernel
theorem dX0_yieldsTo_2 : decode cX0_yieldsTo 2 = .ok (.idiv, 1) := by decide +kernel
theorem dX0_yieldsTo_3 : decode cX0_yieldsTo 3 = .ok (.istore 5, 2) := by decide +kernel
theorem dX0_yieldsTo_5 : decode cX0_yieldsTo 5 = .ok (.iconst 4, 1) := by decide +kernel
theorem dX0_yieldsTo_6 : decode cX0_yieldsTo 6 = .ok (.iload_n 3, 1) := by decide +kernel
theorem dX0_yieldsTo_7 : decode cX0_yieldsTo 7 = .ok (.iconst 4, 1) := by decide +kernel
theorem dX0_yieldsTo_8 : decode cX0_yieldsTo 8 = .ok (.irem, 1) := by decide +kernel
theorem dX0_yieldsTo_9 : decode cX0_yieldsTo 9 = .ok (.iadd, 1) := by decide +kernel
theorem dX0_yieldsTo_10 : decode cX0_yieldsTo 10 = .ok (.istore 6, 2) := by decide +kernel
theorem dX0_yieldsTo_12 : decode cX0_yieldsTo 12 = .ok (.iload_n 1, 1) := by decide +kernel
theorem dX0_yieldsTo_13 : decode cX0_yieldsTo 13 = .ok (.tableswitch 160 0 4 #[35, 61, 91, 121, 151], 35) := by decide +kernel
theorem dX0_yieldsTo_48 : decode cX0_yieldsTo 48 = .ok (.aload_n 2, 1) := by decide +kernel
theorem dX0_yieldsTo_49 : decode cX0_yieldsTo 49 = .ok (.getfield 27, 3) := by decide +kernel
theorem dX0_yieldsTo_52 : decode cX0_yieldsTo 52 = .ok (.iload_n 3, 1) := by decide +kernel
theorem dX0_yieldsTo_53 : decode cX0_yieldsTo 53 = .ok (.iaload, 1) := by decide +kernel
theorem dX0_yieldsTo_54 : decode cX0_yieldsTo 54 = .ok (.ifCond .eq 18, 3) := by decide +kernel
theorem dX0_yieldsTo_72 : decode cX0_yieldsTo 72 = .ok (.iconst 0, 1) := by decide +kernel
theorem dX0_yieldsTo_73 : decode cX0_yieldsTo 73 = .ok (.ireturn, 1) := by decide +kernel
theorem dX0_yieldsTo_57 : decode cX0_yieldsTo 57 = .ok (.aload_n 2, 1) := by decide +kernel
theorem dX0_yieldsTo_58 : decode cX0_yieldsTo 58 = .ok (.getfield 27, 3) := by decide +kernel
theorem dX0_yieldsTo_61 : decode cX0_yieldsTo 61 = .ok (.iload_n 3, 1) := by decide +kernel
theorem dX0_yieldsTo_62 : decode cX0_yieldsTo 62 = .ok (.iaload, 1) := by decide +kernel
theorem dX0_yieldsTo_63 : decode cX0_yieldsTo 63 = .ok (.iload 4, 2) := by decide +kernel
theorem dX0_yieldsTo_65 : decode cX0_yieldsTo 65 = .ok (.if_icmp .eq 7, 3) := by decide +kernel
theorem dX0_yieldsTo_68 : decode cX0_yieldsTo 68 = .ok (.iconst 1, 1) := by decide +kernel
theorem dX0_yieldsTo_69 : decode cX0_yieldsTo 69 = .ok (.goto 4, 3) := by decide +kernel
theorem dX0_yieldsTo_74 : decode cX0_yieldsTo 74 = .ok (.aload_n 0, 1) := by decide +kernel
theorem dX0_yieldsTo_75 : decode cX0_yieldsTo 75 = .ok (.iload 5, 2) := by decide +kernel
theorem dX0_yieldsTo_77 : decode cX0_yieldsTo 77 = .ok (.iload_n 3, 1) := by decide +kernel
theorem dX0_yieldsTo_78 : decode cX0_yieldsTo 78 = .ok (.iload 4, 2) := by decide +kernel
theorem dX0_yieldsTo_80 : decode cX0_yieldsTo 80 = .ok (.invokevirtual 32, 3) := by decide +kernel
theorem dX0_yieldsTo_83 : decode cX0_yieldsTo 83 = .ok (.ifCond .ne 15, 3) := by decide +kernel
theorem dX0_yieldsTo_98 : decode cX0_yieldsTo 98 = .ok (.iconst 1, 1) := by decide +kernel
theorem dX0_yieldsTo_99 : decode cX0_yieldsTo 99 = .ok (.goto 4, 3) := by decide +kernel
theorem dX0_yieldsTo_103 : decode cX0_yieldsTo 103 = .ok (.ireturn, 1) := by decide +kernel
theorem dX0_yieldsTo_86 : decode cX0_yieldsTo 86 = .ok (.aload_n 0, 1) := by decide +kernel
theorem dX0_yieldsTo_87 : decode cX0_yieldsTo 87 = .ok (.iload 6, 2) := by decide +kernel
theorem dX0_yieldsTo_89 : decode cX0_yieldsTo 89 = .ok (.iload_n 3, 1) := by decide +kernel
theorem dX0_yieldsTo_90 : decode cX0_yieldsTo 90 = .ok (.iload 4, 2) := by decide +kernel
theorem dX0_yieldsTo_92 : decode cX0_yieldsTo 92 = .ok (.invokevirtual 32, 3) := by decide +kernel
theorem dX0_yieldsTo_95 : decode cX0_yieldsTo 95 = .ok (.ifCond .eq 7, 3) := by decide +kernel
theorem dX0_yieldsTo_102 : decode cX0_yieldsTo 102 = .ok (.iconst 0, 1) := by decide +kernel
theorem dX0_yieldsTo_104 : decode cX0_yieldsTo 104 = .ok (.aload_n 0, 1) := by decide +kernel
theorem dX0_yieldsTo_105 : decode cX0_yieldsTo 105 = .ok (.iload 5, 2) := by decide +kernel
theorem dX0_yieldsTo_107 : decode cX0_yieldsTo 107 = .ok (.iload_n 3, 1) := by decide +kernel
theorem dX0_yieldsTo_108 : decode cX0_yieldsTo 108 = .ok (.iload 4, 2) := by decide +kernel
theorem dX0_yieldsTo_110 : decode cX0_yieldsTo 110 = .ok (.invokevirtual 36, 3) := by decide +kernel
theorem dX0_yieldsTo_113 : decode cX0_yieldsTo 113 = .ok (.ifCond .ne 15, 3) := by decide +kernel
theorem dX0_yieldsTo_128 : decode cX0_yieldsTo 128 = .ok (.iconst 1, 1) := by decide +kernel
theorem dX0_yieldsTo_129 : decode cX0_yieldsTo 129 = .ok (.goto 4, 3) := by decide +kernel
theorem dX0_yieldsTo_133 : decode cX0_yieldsTo 133 = .ok (.ireturn, 1) := by decide +kernel
theorem dX0_yieldsTo_116 : decode cX0_yieldsTo 116 = .ok (.aload_n 0, 1) := by decide +kernel
theorem dX0_yieldsTo_117 : decode cX0_yieldsTo 117 = .ok (.iload 6, 2) := by decide +kernel
theorem dX0_yieldsTo_119 : decode cX0_yieldsTo 119 = .ok (.iload_n 3, 1) := by decide +kernel
theorem dX0_yieldsTo_120 : decode cX0_yieldsTo 120 = .ok (.iload 4, 2) := by decide +kernel
theorem dX0_yieldsTo_122 : decode cX0_yieldsTo 122 = .ok (.invokevirtual 36, 3) := by decide +kernel
theorem dX0_yieldsTo_125 : decode cX0_yieldsTo 125 = .ok (.ifCond .eq 7, 3) := by decide +kernel
theorem dX0_yieldsTo_132 : decode cX0_yieldsTo 132 = .ok (.iconst 0, 1) := by decide +kernel
theorem dX0_yieldsTo_134 : decode cX0_yieldsTo 134 = .ok (.aload_n 0, 1) := by decide +kernel
theorem dX0_yieldsTo_135 : decode cX0_yieldsTo 135 = .ok (.iload 5, 2) := by decide +kernel
theorem dX0_yieldsTo_137 : decode cX0_yieldsTo 137 = .ok (.iload_n 3, 1) := by decide +kernel
theorem dX0_yieldsTo_138 : decode cX0_yieldsTo 138 = .ok (.iload 4, 2) := by decide +kernel
theorem dX0_yieldsTo_140 : decode cX0_yieldsTo 140 = .ok (.invokevirtual 39, 3) := by decide +kernel
theorem dX0_yieldsTo_143 : decode cX0_yieldsTo 143 = .ok (.ifCond .ne 15, 3) := by decide +kernel
theorem dX0_yieldsTo_158 : decode cX0_yieldsTo 158 = .ok (.iconst 1, 1) := by decide +kernel
theorem dX0_yieldsTo_159 : decode cX0_yieldsTo 159 = .ok (.goto 4, 3) := by decide +kernel
theorem dX0_yieldsTo_163 : decode cX0_yieldsTo 163 = .ok (.ireturn, 1) := by decide +kernel
theorem dX0_yieldsTo_146 : decode cX0_yieldsTo 146 = .ok (.aload_n 0, 1) := by decide +kernel
theorem dX0_yieldsTo_147 : decode cX0_yieldsTo 147 = .ok (.iload 6, 2) := by decide +kernel
theorem dX0_yieldsTo_149 : decode cX0_yieldsTo 149 = .ok (.iload_n 3, 1) := by decide +kernel
theorem dX0_yieldsTo_150 : decode cX0_yieldsTo 150 = .ok (.iload 4, 2) := by decide +kernel
theorem dX0_yieldsTo_152 : decode cX0_yieldsTo 152 = .ok (.invokevirtual 39, 3) := by decide +kernel
theorem dX0_yieldsTo_155 : decode cX0_yieldsTo 155 = .ok (.ifCond .eq 7, 3) := by decide +kernel
theorem dX0_yieldsTo_162 : decode cX0_yieldsTo 162 = .ok (.iconst 0, 1) := by decide +kernel
theorem dX5_keepStep_0 : decode cX5_keepStep 0 = .ok (.aload_n 0, 1) := by decide +kernel
theorem dX5_keepStep_1 : decode cX5_keepStep 1 = .ok (.getfield 25, 3) := by decide +kernel
theorem dX5_keepStep_4 : decode cX5_keepStep 4 = .ok (.aload_n 0, 1) := by decide +kernel
theorem dX5_keepStep_5 : decode cX5_keepStep 5 = .ok (.getfield 18, 3) := by decide +kernel
theorem dX5_keepStep_8 : decode cX5_keepStep 8 = .ok (.arraylength, 1) := by decide +kernel
theorem dX5_keepStep_9 : decode cX5_keepStep 9 = .ok (.if_icmp .ge 32, 3) := by decide +kernel
theorem dX5_keepStep_41 : decode cX5_keepStep 41 = .ok (.aload_n 0, 1) := by decide +kernel
theorem dX5_keepStep_42 : decode cX5_keepStep 42 = .ok (.getfield 12, 3) := by decide +kernel
theorem dX5_keepStep_45 : decode cX5_keepStep 45 = .ok (.getfield 66, 3) := by decide +kernel
theorem dX5_keepStep_48 : decode cX5_keepStep 48 = .ok (.iload_n 2, 1) := by decide +kernel
theorem dX5_keepStep_49 : decode cX5_keepStep 49 = .ok (.iaload, 1) := by decide +kernel
theorem dX5_keepStep_50 : decode cX5_keepStep 50 = .ok (.invokestatic 69, 3) := by decide +kernel
theorem dX5_keepStep_53 : decode cX5_keepStep 53 = .ok (.iconst 1, 1) := by decide +kernel
theorem dX5_keepStep_54 : decode cX5_keepStep 54 = .ok (.if_icmp .ne 35, 3) := by decide +kernel
theorem dX5_keepStep_89 : decode cX5_keepStep 89 = .ok (.return_, 1) := by decide +kernel
theorem dX5_keepStep_57 : decode cX5_keepStep 57 = .ok (.aload_n 0, 1) := by decide +kernel
theorem dX5_keepStep_58 : decode cX5_keepStep 58 = .ok (.getfield 29, 3) := by decide +kernel
theorem dX5_keepStep_61 : decode cX5_keepStep 61 = .ok (.aload_n 0, 1) := by decide +kernel
theorem dX5_keepStep_62 : decode cX5_keepStep 62 = .ok (.getfield 22, 3) := by decide +kernel
theorem dX5_keepStep_65 : decode cX5_keepStep 65 = .ok (.arraylength, 1) := by decide +kernel
theorem dX5_keepStep_66 : decode cX5_keepStep 66 = .ok (.if_icmp .ge 23, 3) := by decide +kernel
theorem dX5_keepStep_69 : decode cX5_keepStep 69 = .ok (.aload_n 0, 1) := by decide +kernel
theorem dX5_keepStep_70 : decode cX5_keepStep 70 = .ok (.getfield 22, 3) := by decide +kernel
theorem dX5_keepStep_73 : decode cX5_keepStep 73 = .ok (.aload_n 0, 1) := by decide +kernel
theorem dX5_keepStep_74 : decode cX5_keepStep 74 = .ok (.getfield 29, 3) := by decide +kernel
theorem dX5_keepStep_77 : decode cX5_keepStep 77 = .ok (.iload_n 2, 1) := by decide +kernel
theorem dX5_keepStep_78 : decode cX5_keepStep 78 = .ok (.iastore, 1) := by decide +kernel
theorem dX5_keepStep_79 : decode cX5_keepStep 79 = .ok (.aload_n 0, 1) := by decide +kernel
theorem dX5_keepStep_80 : decode cX5_keepStep 80 = .ok (.dup, 1) := by decide +kernel
theorem dX5_keepStep_81 : decode cX5_keepStep 81 = .ok (.getfield 29, 3) := by decide +kernel
theorem dX5_keepStep_84 : decode cX5_keepStep 84 = .ok (.iconst 1, 1) := by decide +kernel
theorem dX5_keepStep_85 : decode cX5_keepStep 85 = .ok (.iadd, 1) := by decide +kernel
theorem dX5_keepStep_86 : decode cX5_keepStep 86 = .ok (.putfield 29, 3) := by decide +kernel
theorem dX5_keepStep_12 : decode cX5_keepStep 12 = .ok (.aload_n 0, 1) := by decide +kernel
theorem dX5_keepStep_13 : decode cX5_keepStep 13 = .ok (.getfield 18, 3) := by decide +kernel
theorem dX5_keepStep_16 : decode cX5_keepStep 16 = .ok (.aload_n 0, 1) := by decide +kernel
theorem dX5_keepStep_17 : decode cX5_keepStep 17 = .ok (.getfield 25, 3) := by decide +kernel
theorem dX5_keepStep_20 : decode cX5_keepStep 20 = .ok (.bipush 100, 2) := by decide +kernel
theorem dX5_keepStep_22 : decode cX5_keepStep 22 = .ok (.iload_n 1, 1) := by decide +kernel
theorem dX5_keepStep_23 : decode cX5_keepStep 23 = .ok (.imul, 1) := by decide +kernel
theorem dX5_keepStep_24 : decode cX5_keepStep 24 = .ok (.iconst 5, 1) := by decide +kernel
theorem dX5_keepStep_25 : decode cX5_keepStep 25 = .ok (.iload_n 2, 1) := by decide +kernel
theorem dX5_keepStep_26 : decode cX5_keepStep 26 = .ok (.imul, 1) := by decide +kernel
theorem dX5_keepStep_27 : decode cX5_keepStep 27 = .ok (.iadd, 1) := by decide +kernel
theorem dX5_keepStep_28 : decode cX5_keepStep 28 = .ok (.iload_n 3, 1) := by decide +kernel
theorem dX5_keepStep_29 : decode cX5_keepStep 29 = .ok (.iadd, 1) := by decide +kernel
theorem dX5_keepStep_30 : decode cX5_keepStep 30 = .ok (.iastore, 1) := by decide +kernel
theorem dX5_keepStep_31 : decode cX5_keepStep 31 = .ok (.aload_n 0, 1) := by decide +kernel
theorem dX5_keepStep_32 : decode cX5_keepStep 32 = .ok (.dup, 1) := by decide +kernel
theorem dX5_keepStep_33 : decode cX5_keepStep 33 = .ok (.getfield 25, 3) := by decide +kernel
theorem dX5_keepStep_36 : decode cX5_keepStep 36 = .ok (.iconst 1, 1) := by decide +kernel
theorem dX5_keepStep_37 : decode cX5_keepStep 37 = .ok (.iadd, 1) := by decide +kernel
theorem dX5_keepStep_38 : decode cX5_keepStep 38 = .ok (.putfield 25, 3) := by decide +kernel
theorem dX5_takeOneAway_0 : decode cX5_takeOneAway 0 = .ok (.iconst 0, 1) := by decide +kernel
theorem dX5_takeOneAway_1 : decode cX5_takeOneAway 1 = .ok (.istore_n 3, 1) := by decide +kernel
theorem dX5_takeOneAway_2 : decode cX5_takeOneAway 2 = .ok (.iload_n 3, 1) := by decide +kernel
theorem dX5_takeOneAway_3 : decode cX5_takeOneAway 3 = .ok (.iload_n 2, 1) := by decide +kernel
theorem dX5_takeOneAway_4 : decode cX5_takeOneAway 4 = .ok (.if_icmp .gt 92, 3) := by decide +kernel
theorem dX5_takeOneAway_96 : decode cX5_takeOneAway 96 = .ok (.iconst 0, 1) := by decide +kernel
theorem dX5_takeOneAway_97 : decode cX5_takeOneAway 97 = .ok (.ireturn, 1) := by decide +kernel
theorem dX5_takeOneAway_7 : decode cX5_takeOneAway 7 = .ok (.iconst 0, 1) := by decide +kernel
theorem dX5_takeOneAway_8 : decode cX5_takeOneAway 8 = .ok (.istore 4, 2) := by decide +kernel
theorem dX5_takeOneAway_10 : decode cX5_takeOneAway 10 = .ok (.iload 4, 2) := by decide +kernel
theorem dX5_takeOneAway_12 : decode cX5_takeOneAway 12 = .ok (.bipush 16, 2) := by decide +kernel
theorem dX5_takeOneAway_14 : decode cX5_takeOneAway 14 = .ok (.if_icmp .ge 76, 3) := by decide +kernel
theorem dX5_takeOneAway_90 : decode cX5_takeOneAway 90 = .ok (.iinc 3 1, 3) := by decide +kernel
theorem dX5_takeOneAway_93 : decode cX5_takeOneAway 93 = .ok (.goto (-91), 3) := by decide +kernel
theorem dX5_takeOneAway_17 : decode cX5_takeOneAway 17 = .ok (.iconst 1, 1) := by decide +kernel
theorem dX5_takeOneAway_18 : decode cX5_takeOneAway 18 = .ok (.istore 5, 2) := by decide +kernel
theorem dX5_takeOneAway_20 : decode cX5_takeOneAway 20 = .ok (.iload 5, 2) := by decide +kernel
theorem dX5_takeOneAway_22 : decode cX5_takeOneAway 22 = .ok (.iconst 4, 1) := by decide +kernel
theorem dX5_takeOneAway_23 : decode cX5_takeOneAway 23 = .ok (.if_icmp .gt 61, 3) := by decide +kernel
theorem dX5_takeOneAway_84 : decode cX5_takeOneAway 84 = .ok (.iinc 4 1, 3) := by decide +kernel
theorem dX5_takeOneAway_87 : decode cX5_takeOneAway 87 = .ok (.goto (-77), 3) := by decide +kernel
theorem dX5_takeOneAway_26 : decode cX5_takeOneAway 26 = .ok (.aload_n 0, 1) := by decide +kernel
theorem dX5_takeOneAway_27 : decode cX5_takeOneAway 27 = .ok (.getfield 12, 3) := by decide +kernel
theorem dX5_takeOneAway_30 : decode cX5_takeOneAway 30 = .ok (.iload 4, 2) := by decide +kernel
theorem dX5_takeOneAway_32 : decode cX5_takeOneAway 32 = .ok (.iload 5, 2) := by decide +kernel
theorem dX5_takeOneAway_34 : decode cX5_takeOneAway 34 = .ok (.invokevirtual 50, 3) := by decide +kernel
theorem dX5_takeOneAway_37 : decode cX5_takeOneAway 37 = .ok (.ifCond .eq 41, 3) := by decide +kernel
theorem dX5_takeOneAway_78 : decode cX5_takeOneAway 78 = .ok (.iinc 5 1, 3) := by decide +kernel
theorem dX5_takeOneAway_81 : decode cX5_takeOneAway 81 = .ok (.goto (-61), 3) := by decide +kernel
theorem dX5_takeOneAway_40 : decode cX5_takeOneAway 40 = .ok (.aload_n 0, 1) := by decide +kernel
theorem dX5_takeOneAway_41 : decode cX5_takeOneAway 41 = .ok (.getfield 12, 3) := by decide +kernel
theorem dX5_takeOneAway_44 : decode cX5_takeOneAway 44 = .ok (.iload_n 3, 1) := by decide +kernel
theorem dX5_takeOneAway_45 : decode cX5_takeOneAway 45 = .ok (.aload_n 1, 1) := by decide +kernel
theorem dX5_takeOneAway_46 : decode cX5_takeOneAway 46 = .ok (.iload 4, 2) := by decide +kernel
theorem dX5_takeOneAway_48 : decode cX5_takeOneAway 48 = .ok (.iload 5, 2) := by decide +kernel
theorem dX5_takeOneAway_50 : decode cX5_takeOneAway 50 = .ok (.invokevirtual 54, 3) := by decide +kernel
theorem dX5_takeOneAway_53 : decode cX5_takeOneAway 53 = .ok (.ifCond .eq 25, 3) := by decide +kernel
theorem dX5_takeOneAway_56 : decode cX5_takeOneAway 56 = .ok (.aload_n 0, 1) := by decide +kernel
theorem dX5_takeOneAway_57 : decode cX5_takeOneAway 57 = .ok (.getfield 12, 3) := by decide +kernel
theorem dX5_takeOneAway_60 : decode cX5_takeOneAway 60 = .ok (.iload 4, 2) := by decide +kernel
theorem dX5_takeOneAway_62 : decode cX5_takeOneAway 62 = .ok (.iload 5, 2) := by decide +kernel
theorem dX5_takeOneAway_64 : decode cX5_takeOneAway 64 = .ok (.invokevirtual 58, 3) := by decide +kernel
theorem dX5_takeOneAway_67 : decode cX5_takeOneAway 67 = .ok (.aload_n 0, 1) := by decide +kernel
theorem dX5_takeOneAway_68 : decode cX5_takeOneAway 68 = .ok (.iload_n 3, 1) := by decide +kernel
theorem dX5_takeOneAway_69 : decode cX5_takeOneAway 69 = .ok (.iload 4, 2) := by decide +kernel
theorem dX5_takeOneAway_71 : decode cX5_takeOneAway 71 = .ok (.iload 5, 2) := by decide +kernel
theorem dX5_takeOneAway_73 : decode cX5_takeOneAway 73 = .ok (.invokevirtual 62, 3) := by decide +kernel
theorem dX5_takeOneAway_76 : decode cX5_takeOneAway 76 = .ok (.iconst 1, 1) := by decide +kernel
theorem dX5_takeOneAway_77 : decode cX5_takeOneAway 77 = .ok (.ireturn, 1) := by decide +kernel
theorem dX5_run_0 : decode cX5_run 0 = .ok (.aload_n 0, 1) := by decide +kernel
theorem dX5_run_1 : decode cX5_run 1 = .ok (.getfield 12, 3) := by decide +kernel
theorem dX5_run_4 : decode cX5_run 4 = .ok (.invokevirtual 36, 3) := by decide +kernel
theorem dX5_run_7 : decode cX5_run 7 = .ok (.aload_n 0, 1) := by decide +kernel
theorem dX5_run_8 : decode cX5_run 8 = .ok (.iconst 0, 1) := by decide +kernel
theorem dX5_run_9 : decode cX5_run 9 = .ok (.putfield 25, 3) := by decide +kernel
theorem dX5_run_12 : decode cX5_run 12 = .ok (.aload_n 0, 1) := by decide +kernel
theorem dX5_run_13 : decode cX5_run 13 = .ok (.iconst 0, 1) := by decide +kernel
theorem dX5_run_14 : decode cX5_run 14 = .ok (.putfield 29, 3) := by decide +kernel
theorem dX5_run_17 : decode cX5_run 17 = .ok (.iconst 1, 1) := by decide +kernel
theorem dX5_run_18 : decode cX5_run 18 = .ok (.istore_n 3, 1) := by decide +kernel
theorem dX5_run_19 : decode cX5_run 19 = .ok (.iconst 0, 1) := by decide +kernel
theorem dX5_run_20 : decode cX5_run 20 = .ok (.istore 4, 2) := by decide +kernel
theorem dX5_run_22 : decode cX5_run 22 = .ok (.iload_n 3, 1) := by decide +kernel
theorem dX5_run_23 : decode cX5_run 23 = .ok (.ifCond .eq 41, 3) := by decide +kernel
theorem dX5_run_64 : decode cX5_run 64 = .ok (.aload_n 0, 1) := by decide +kernel
theorem dX5_run_65 : decode cX5_run 65 = .ok (.getfield 12, 3) := by decide +kernel
theorem dX5_run_68 : decode cX5_run 68 = .ok (.invokevirtual 43, 3) := by decide +kernel
theorem dX5_run_71 : decode cX5_run 71 = .ok (.ifCond .eq 12, 3) := by decide +kernel
theorem dX5_run_83 : decode cX5_run 83 = .ok (.aload_n 0, 1) := by decide +kernel
theorem dX5_run_84 : decode cX5_run 84 = .ok (.aload_n 0, 1) := by decide +kernel
theorem dX5_run_85 : decode cX5_run 85 = .ok (.getfield 12, 3) := by decide +kernel
theorem dX5_run_88 : decode cX5_run 88 = .ok (.invokevirtual 47, 3) := by decide +kernel
theorem dX5_run_91 : decode cX5_run 91 = .ok (.ifCond .eq 8, 3) := by decide +kernel
theorem dX5_run_99 : decode cX5_run 99 = .ok (.bipush 110, 2) := by decide +kernel
theorem dX5_run_101 : decode cX5_run 101 = .ok (.putfield 32, 3) := by decide +kernel
theorem dX5_run_104 : decode cX5_run 104 = .ok (.return_, 1) := by decide +kernel
theorem dX5_run_94 : decode cX5_run 94 = .ok (.bipush 115, 2) := by decide +kernel
theorem dX5_run_96 : decode cX5_run 96 = .ok (.goto 5, 3) := by decide +kernel
theorem dX5_run_74 : decode cX5_run 74 = .ok (.aload_n 0, 1) := by decide +kernel
theorem dX5_run_75 : decode cX5_run 75 = .ok (.bipush 98, 2) := by decide +kernel
theorem dX5_run_77 : decode cX5_run 77 = .ok (.putfield 32, 3) := by decide +kernel
theorem dX5_run_80 : decode cX5_run 80 = .ok (.goto 24, 3) := by decide +kernel
theorem dX5_run_26 : decode cX5_run 26 = .ok (.iload 4, 2) := by decide +kernel
theorem dX5_run_28 : decode cX5_run 28 = .ok (.bipush 64, 2) := by decide +kernel
theorem dX5_run_30 : decode cX5_run 30 = .ok (.if_icmp .ge 34, 3) := by decide +kernel
theorem dX5_run_33 : decode cX5_run 33 = .ok (.aload_n 0, 1) := by decide +kernel
theorem dX5_run_34 : decode cX5_run 34 = .ok (.aload_n 1, 1) := by decide +kernel
theorem dX5_run_35 : decode cX5_run 35 = .ok (.iload_n 2, 1) := by decide +kernel
theorem dX5_run_36 : decode cX5_run 36 = .ok (.invokevirtual 39, 3) := by decide +kernel
theorem dX5_run_39 : decode cX5_run 39 = .ok (.ifCond .eq 17, 3) := by decide +kernel
theorem dX5_run_56 : decode cX5_run 56 = .ok (.iconst 0, 1) := by decide +kernel
theorem dX5_run_57 : decode cX5_run 57 = .ok (.istore_n 3, 1) := by decide +kernel
theorem dX5_run_58 : decode cX5_run 58 = .ok (.iinc 4 1, 3) := by decide +kernel
theorem dX5_run_61 : decode cX5_run 61 = .ok (.goto (-39), 3) := by decide +kernel
theorem dX5_run_42 : decode cX5_run 42 = .ok (.aload_n 0, 1) := by decide +kernel
theorem dX5_run_43 : decode cX5_run 43 = .ok (.getfield 12, 3) := by decide +kernel
theorem dX5_run_46 : decode cX5_run 46 = .ok (.invokevirtual 43, 3) := by decide +kernel
theorem dX5_run_49 : decode cX5_run 49 = .ok (.ifCond .ne 7, 3) := by decide +kernel
theorem dX5_run_52 : decode cX5_run 52 = .ok (.iconst 1, 1) := by decide +kernel
theorem dX5_run_53 : decode cX5_run 53 = .ok (.goto 4, 3) := by decide +kernel
set_option maxHeartbeats 4000000 in
set_option maxRecDepth 100000 in
theorem c_X0_yieldsTo (l : Launch) (G : GG) (b : Nat) (mm : Nat) (f : Nat → Int32) (pz : Nat) (gr : Nat) (mr : Nat) (cg : Nat) (so : Nat) (sh : Nat) (s1 : Int32) (s2 : Int32) (gv : Nat → Int32) (rl : Nat) (k : Nat) (v : Int32) (hrl : rl < 4) (hk : k < 16) : Mi l G yX0_yieldsTo cX0_yieldsTo 7 (some .boolean) ({ frames := 2, cells := 0, slots := 0, locals := 49 } : Room) [.ref b, .int (nI rl), .ref pz, .int (nI k), .int v] [(b, .inr (5, [.ref mm])), (mm, .inl (gyI G, 16, .inl f)), (pz, .inr (8, [.ref gr, .ref mr, .ref cg, .ref so, .ref sh, .int s1, .int s2])), (gr, .inl (gyI G, 16, .inl gv))] (fun (r : Int32) (u : Unit) => True) (fun (u : Unit) => [(b, .inr (5, [.ref mm])), (mm, .inl (gyI G, 16, .inl f)), (pz, .inr (8, [.ref gr, .ref mr, .ref cg, .ref so, .ref sh, .int s1, .int s2])), (gr, .inl (gyI G, 16, .inl gv))]) := by
  intro sz
  refine Met.ofW (cc := cX0_yieldsTo) (maxL := 7) (ret := (some .boolean)) (by decide) rfl ?_
  intro p e s m args below meth c s₁ B9 hml hv
  obtain ⟨rfl, hsz, hP, hK, hD0, hE⟩ := hv
  have hx := B9.exec
  have hb := B9.bytes
  have hr := B9.returns
  have hts : ∀ w ∈ WW, w.before ([.ref b, .int (nI rl), .ref pz, .int (nI k), .int v] : List Value).toArray s = true := fun w h => atoms_spec (ws := .code yX0_yieldsTo cX0_yieldsTo 7 (some .boolean) :: WW) B9.pre w (List.mem_cons_of_mem _ h)
  have hown : s.vm.findClass RX0 = some m.cls := findClass_of_methodNamed B9.named
  subst hsz
  have hD := hD0.self (sz := s.heap.size)
  generalize hAe : va_A [(b, .inr (5, [.ref mm])), (mm, .inl (gyI G, 16, .inl f)), (pz, .inr (8, [.ref gr, .ref mr, .ref cg, .ref so, .ref sh, .int s1, .int s2])), (gr, .inl (gyI G, 16, .inl gv))] s.heap.size = A at hD hE ⊢
  have hA : ∀ q : Nat, s.heap.size ≤ q → A q := fun q h => by rw [← hAe]; exact Or.inr h
  have hl := lv_entry ([.ref b, .int (nI rl), .ref pz, .int (nI k), .int v]) (n := 7) (Nat.le_of_ble_eq_true rfl)
  rw [lg_entry_eq]
  generalize (lg_sl ([.ref b, .int (nI rl), .ref pz, .int (nI k), .int v]) ++ List.replicate (7 - (lg_sl ([.ref b, .int (nI rl), .ref pz, .int (nI k), .int v])).length) Slot.unset).toArray = ls at hl ⊢
  have hl : lv_has ls 7 [(0, .ref b), (1, .int (nI rl)), (2, .ref pz), (3, .int (nI k)), (4, .int v)] := hl
  refine qgen (fun Q hQ => ?_)
  refine hgen (fun H locs hP hD hS => ?_) hP hD
  refine lv_iload_n hx hb dX0_yieldsTo_0 rfl (lv_at hl 3 rfl) ?_
  refine lv_iconst (v := nI 4) hx hb dX0_yieldsTo_1 (by decide) ?_
  refine lv_idiv hx hb dX0_yieldsTo_2 (nI_ne0 (by omega) (by omega)) ?_
  refine lv_toe (pk_div (a := k) (d := 4) (by omega) (by omega) (by omega)) ?_
  refine lv_istore (lv' := [(5, .int (nI (k / 4))), (0, .ref b), (1, .int (nI rl)), (2, .ref pz), (3, .int (nI k)), (4, .int v)]) hx hb dX0_yieldsTo_3 hl (by decide) rfl (fun ls hl => ?_)
  refine lv_iconst (v := nI 4) hx hb dX0_yieldsTo_5 (by decide) ?_
  refine lv_iload_n hx hb dX0_yieldsTo_6 rfl (lv_at hl 4 rfl) ?_
  refine lv_iconst (v := nI 4) hx hb dX0_yieldsTo_7 (by decide) ?_
  refine lv_irem hx hb dX0_yieldsTo_8 (nI_ne0 (by omega) (by omega)) ?_
  refine lv_toe (pk_rem (a := k) (d := 4) (by omega) (by omega) (by omega)) ?_
  refine lv_iadd hx hb dX0_yieldsTo_9 ?_
  refine lv_toe (nI_add 4 (k % 4)) ?_
  refine lv_istore (lv' := [(6, .int (nI (4 + (k % 4)))), (5, .int (nI (k / 4))), (0, .ref b), (1, .int (nI rl)), (2, .ref pz), (3, .int (nI k)), (4, .int v)]) hx hb dX0_yieldsTo_10 hl (by decide) rfl (fun ls hl => ?_)
  refine lv_iload_n hx hb dX0_yieldsTo_12 rfl (lv_at hl 3 rfl) ?_
  rcases (show rl = 0 ∨ rl = 1 ∨ rl = 2 ∨ rl = 3 by omega) with rfl | rfl | rfl | rfl
  · skip
    refine lv_tableIn (off := 35) (tgt := 48) hx hb dX0_yieldsTo_13 (by decide) (by decide) (by decide) (by decide) ?_
    refine lv_aload_n hx hb dX0_yieldsTo_48 rfl (lv_at hl 4 rfl) ?_
    refine va_getN (D := gD G) (ci := 8) (v := .ref gr) (C := RX3) (T := TX3) (N := 7) hx hb hts fwX3 hown hK hP 2 rfl rfl 0 (by decide) (va_Nw.use rfl (hE.1.1 _ nq442)) (fun _ h9 => h9) rfl dX0_yieldsTo_49 ?_
    refine lv_iload_n hx hb dX0_yieldsTo_52 rfl (lv_at hl 5 rfl) ?_
    refine va_iald (D := gD G) (cA := gyI G) (n := 16) (f := gv) hx hb hK hP 3 0 rfl rfl (vp_in_nI (n := k) (N := 16) (by omega) (by omega)) dX0_yieldsTo_53 ?_
    refine lv_topi (fun w_1 ew_1 => ?_)
    refine lv_if_eq (tgt := 72) hx hb dX0_yieldsTo_54 (by decide) (fun c_2 => ?_) (fun c_2 => ?_)
    · skip
      refine lv_iconst (v := nI 0) hx hb dX0_yieldsTo_72 (by decide) ?_
      have hP9 := hP.sub (ws' := [(b, .inr (5, [.ref mm])), (mm, .inl (gyI G, 16, .inl f)), (pz, .inr (8, [.ref gr, .ref mr, .ref cg, .ref so, .ref sh, .int s1, .int s2])), (gr, .inl (gyI G, 16, .inl gv))]) [0, 1, 2, 3] rfl
      have hD9 := hD.sub (ws' := [(b, .inr (5, [.ref mm])), (mm, .inl (gyI G, 16, .inl f)), (pz, .inr (8, [.ref gr, .ref mr, .ref cg, .ref so, .ref sh, .int s1, .int s2])), (gr, .inl (gyI G, 16, .inl gv))]) [0, 1, 2, 3] (by decide) rfl
      subst hQ
      exact W.zret (v := nI 0) hx hb hr (by decide) (fun t ht hW => ⟨⟨nI 0, (), rfl, trivial, by rw [ht]; exact hP9, hD9⟩, hS.F ht⟩) hS.2.2 dX0_yieldsTo_73
    · skip
      refine lv_aload_n hx hb dX0_yieldsTo_57 rfl (lv_at hl 4 rfl) ?_
      refine va_getN (D := gD G) (ci := 8) (v := .ref gr) (C := RX3) (T := TX3) (N := 7) hx hb hts fwX3 hown hK hP 2 rfl rfl 0 (by decide) (va_Nw.use rfl (hE.1.1 _ nq442)) (fun _ h9 => h9) rfl dX0_yieldsTo_58 ?_
      refine lv_iload_n hx hb dX0_yieldsTo_61 rfl (lv_at hl 5 rfl) ?_
      refine va_iald (D := gD G) (cA := gyI G) (n := 16) (f := gv) hx hb hK hP 3 0 rfl rfl (vp_in_nI (n := k) (N := 16) (by omega) (by omega)) dX0_yieldsTo_62 ?_
      refine lv_topi (fun w_3 ew_3 => ?_)
      refine lv_iload hx hb dX0_yieldsTo_63 (lv_at hl 6 rfl) ?_
      refine lv_icmp_eq (tgt := 72) hx hb dX0_yieldsTo_65 (by decide) (fun c_4 => ?_) (fun c_4 => ?_)
      · skip
        refine lv_iconst (v := nI 0) hx hb dX0_yieldsTo_72 (by decide) ?_
        have hP9 := hP.sub (ws' := [(b, .inr (5, [.ref mm])), (mm, .inl (gyI G, 16, .inl f)), (pz, .inr (8, [.ref gr, .ref mr, .ref cg, .ref so, .ref sh, .int s1, .int s2])), (gr, .inl (gyI G, 16, .inl gv))]) [0, 1, 2, 3] rfl
        have hD9 := hD.sub (ws' := [(b, .inr (5, [.ref mm])), (mm, .inl (gyI G, 16, .inl f)), (pz, .inr (8, [.ref gr, .ref mr, .ref cg, .ref so, .ref sh, .int s1, .int s2])), (gr, .inl (gyI G, 16, .inl gv))]) [0, 1, 2, 3] (by decide) rfl
        subst hQ
        exact W.zret (v := nI 0) hx hb hr (by decide) (fun t ht hW => ⟨⟨nI 0, (), rfl, trivial, by rw [ht]; exact hP9, hD9⟩, hS.F ht⟩) hS.2.2 dX0_yieldsTo_73
      · skip
        refine lv_iconst (v := nI 1) hx hb dX0_yieldsTo_68 (by decide) ?_
        refine lv_goto (tgt := 73) hx hb dX0_yieldsTo_69 (by decide) ?_
        have hP9 := hP.sub (ws' := [(b, .inr (5, [.ref mm])), (mm, .inl (gyI G, 16, .inl f)), (pz, .inr (8, [.ref gr, .ref mr, .ref cg, .ref so, .ref sh, .int s1, .int s2])), (gr, .inl (gyI G, 16, .inl gv))]) [0, 1, 2, 3] rfl
        have hD9 := hD.sub (ws' := [(b, .inr (5, [.ref mm])), (mm, .inl (gyI G, 16, .inl f)), (pz, .inr (8, [.ref gr, .ref mr, .ref cg, .ref so, .ref sh, .int s1, .int s2])), (gr, .inl (gyI G, 16, .inl gv))]) [0, 1, 2, 3] (by decide) rfl
        subst hQ
        exact W.zret (v := nI 1) hx hb hr (by decide) (fun t ht hW => ⟨⟨nI 1, (), rfl, trivial, by rw [ht]; exact hP9, hD9⟩, hS.F ht⟩) hS.2.2 dX0_yieldsTo_73
  · skip
    refine lv_tableIn (off := 61) (tgt := 74) hx hb dX0_yieldsTo_13 (by decide) (by decide) (by decide) (by decide) ?_
    refine lv_aload_n hx hb dX0_yieldsTo_74 rfl (lv_at hl 2 rfl) ?_
    refine lv_iload hx hb dX0_yieldsTo_75 (lv_at hl 1 rfl) ?_
    refine lv_iload_n hx hb dX0_yieldsTo_77 rfl (lv_at hl 5 rfl) ?_
    refine lv_iload hx hb dX0_yieldsTo_78 (lv_at hl 6 rfl) ?_
    refine fin_i hP hD hS hA [0, 1] [2, 3] (wr := [(pz, .inr (8, [.ref gr, .ref mr, .ref cg, .ref so, .ref sh, .int s1, .int s2])), (gr, .inl (gyI G, 16, .inl gv))]) rfl rfl (by decide) (by decide) (va_runV (As := [.int (nI (k / 4)), .int (nI k), .int v]) (rest := []) ⟨hx, hb, hml, hown, hts⟩ (c_X0_isOnlyCandidateElsewhere l G b mm f (k / 4) k v (by omega) (by omega) H.size) (cwV 3 hts (gV q257 q259 q6 q50 q260) rfl rfl rfl (by decide +kernel) ⟨Nat.le_of_ble_eq_true rfl, Nat.le_of_ble_eq_true rfl⟩) (preV (q0 := 0) (ci := 5) hK hE hP hD hS hA [0, 1] rfl (by decide) rfl rfl) rfl rfl hl.1 rfl (lv_room (Nat.le_of_ble_eq_true rfl)) dX0_yieldsTo_80 ⟨Nat.le_of_ble_eq_true rfl, Nat.le_of_ble_eq_true rfl⟩) (fun r_6 u9 hw_5 H locs hP hD hS => ?_)
    have hP : va_P (gD G) vwCl [(pz, .inr (8, [.ref gr, .ref mr, .ref cg, .ref so, .ref sh, .int s1, .int s2])), (gr, .inl (gyI G, 16, .inl gv)), (b, .inr (5, [.ref mm])), (mm, .inl (gyI G, 16, .inl f))] H := hP
    have hD : va_D A [(pz, .inr (8, [.ref gr, .ref mr, .ref cg, .ref so, .ref sh, .int s1, .int s2])), (gr, .inl (gyI G, 16, .inl gv)), (b, .inr (5, [.ref mm])), (mm, .inl (gyI G, 16, .inl f))] := hD
    refine lv_if_ne (tgt := 98) hx hb dX0_yieldsTo_83 (by decide) (fun c_7 => ?_) (fun c_7 => ?_)
    · skip
      refine lv_iconst (v := nI 1) hx hb dX0_yieldsTo_98 (by decide) ?_
      refine lv_goto (tgt := 103) hx hb dX0_yieldsTo_99 (by decide) ?_
      have hP9 := hP.sub (ws' := [(b, .inr (5, [.ref mm])), (mm, .inl (gyI G, 16, .inl f)), (pz, .inr (8, [.ref gr, .ref mr, .ref cg, .ref so, .ref sh, .int s1, .int s2])), (gr, .inl (gyI G, 16, .inl gv))]) [2, 3, 0, 1] rfl
      have hD9 := hD.sub (ws' := [(b, .inr (5, [.ref mm])), (mm, .inl (gyI G, 16, .inl f)), (pz, .inr (8, [.ref gr, .ref mr, .ref cg, .ref so, .ref sh, .int s1, .int s2])), (gr, .inl (gyI G, 16, .inl gv))]) [2, 3, 0, 1] (by decide) rfl
      subst hQ
      exact W.zret (v := nI 1) hx hb hr (by decide) (fun t ht hW => ⟨⟨nI 1, (), rfl, trivial, by rw [ht]; exact hP9, hD9⟩, hS.F ht⟩) hS.2.2 dX0_yieldsTo_103
    · skip
      refine lv_aload_n hx hb dX0_yieldsTo_86 rfl (lv_at hl 2 rfl) ?_
      refine lv_iload hx hb dX0_yieldsTo_87 (lv_at hl 0 rfl) ?_
      refine lv_iload_n hx hb dX0_yieldsTo_89 rfl (lv_at hl 5 rfl) ?_
      refine lv_iload hx hb dX0_yieldsTo_90 (lv_at hl 6 rfl) ?_
      refine fin_i hP hD hS hA [2, 3] [0, 1] (wr := [(pz, .inr (8, [.ref gr, .ref mr, .ref cg, .ref so, .ref sh, .int s1, .int s2])), (gr, .inl (gyI G, 16, .inl gv))]) rfl rfl (by decide) (by decide) (va_runV (As := [.int (nI (4 + (k % 4))), .int (nI k), .int v]) (rest := []) ⟨hx, hb, hml, hown, hts⟩ (c_X0_isOnlyCandidateElsewhere l G b mm f (4 + (k % 4)) k v (by omega) (by omega) H.size) (cwV 3 hts (gV q257 q259 q6 q50 q260) rfl rfl rfl (by decide +kernel) ⟨Nat.le_of_ble_eq_true rfl, Nat.le_of_ble_eq_true rfl⟩) (preV (q0 := 2) (ci := 5) hK hE hP hD hS hA [2, 3] rfl (by decide) rfl rfl) rfl rfl hl.1 rfl (lv_room (Nat.le_of_ble_eq_true rfl)) dX0_yieldsTo_92 ⟨Nat.le_of_ble_eq_true rfl, Nat.le_of_ble_eq_true rfl⟩) (fun r_9 u9 hw_8 H locs hP hD hS => ?_)
      have hP : va_P (gD G) vwCl [(pz, .inr (8, [.ref gr, .ref mr, .ref cg, .ref so, .ref sh, .int s1, .int s2])), (gr, .inl (gyI G, 16, .inl gv)), (b, .inr (5, [.ref mm])), (mm, .inl (gyI G, 16, .inl f))] H := hP
      have hD : va_D A [(pz, .inr (8, [.ref gr, .ref mr, .ref cg, .ref so, .ref sh, .int s1, .int s2])), (gr, .inl (gyI G, 16, .inl gv)), (b, .inr (5, [.ref mm])), (mm, .inl (gyI G, 16, .inl f))] := hD
      refine lv_if_eq (tgt := 102) hx hb dX0_yieldsTo_95 (by decide) (fun c_10 => ?_) (fun c_10 => ?_)
      · skip
        refine lv_iconst (v := nI 0) hx hb dX0_yieldsTo_102 (by decide) ?_
        have hP9 := hP.sub (ws' := [(b, .inr (5, [.ref mm])), (mm, .inl (gyI G, 16, .inl f)), (pz, .inr (8, [.ref gr, .ref mr, .ref cg, .ref so, .ref sh, .int s1, .int s2])), (gr, .inl (gyI G, 16, .inl gv))]) [2, 3, 0, 1] rfl
        have hD9 := hD.sub (ws' := [(b, .inr (5, [.ref mm])), (mm, .inl (gyI G, 16, .inl f)), (pz, .inr (8, [.ref gr, .ref mr, .ref cg, .ref so, .ref sh, .int s1, .int s2])), (gr, .inl (gyI G, 16, .inl gv))]) [2, 3, 0, 1] (by decide) rfl
        subst hQ
        exact W.zret (v := nI 0) hx hb hr (by decide) (fun t ht hW => ⟨⟨nI 0, (), rfl, trivial, by rw [ht]; exact hP9, hD9⟩, hS.F ht⟩) hS.2.2 dX0_yieldsTo_103
      · skip
        refine lv_iconst (v := nI 1) hx hb dX0_yieldsTo_98 (by decide) ?_
        refine lv_goto (tgt := 103) hx hb dX0_yieldsTo_99 (by decide) ?_
        have hP9 := hP.sub (ws' := [(b, .inr (5, [.ref mm])), (mm, .inl (gyI G, 16, .inl f)), (pz, .inr (8, [.ref gr, .ref mr, .ref cg, .ref so, .ref sh, .int s1, .int s2])), (gr, .inl (gyI G, 16, .inl gv))]) [2, 3, 0, 1] rfl
        have hD9 := hD.sub (ws' := [(b, .inr (5, [.ref mm])), (mm, .inl (gyI G, 16, .inl f)), (pz, .inr (8, [.ref gr, .ref mr, .ref cg, .ref so, .ref sh, .int s1, .int s2])), (gr, .inl (gyI G, 16, .inl gv))]) [2, 3, 0, 1] (by decide) rfl
        subst hQ
        exact W.zret (v := nI 1) hx hb hr (by decide) (fun t ht hW => ⟨⟨nI 1, (), rfl, trivial, by rw [ht]; exact hP9, hD9⟩, hS.F ht⟩) hS.2.2 dX0_yieldsTo_103
  · skip
    refine lv_tableIn (off := 91) (tgt := 104) hx hb dX0_yieldsTo_13 (by decide) (by decide) (by decide) (by decide) ?_
    refine lv_aload_n hx hb dX0_yieldsTo_104 rfl (lv_at hl 2 rfl) ?_
    refine lv_iload hx hb dX0_yieldsTo_105 (lv_at hl 1 rfl) ?_
    refine lv_iload_n hx hb dX0_yieldsTo_107 rfl (lv_at hl 5 rfl) ?_
    refine lv_iload hx hb dX0_yieldsTo_108 (lv_at hl 6 rfl) ?_
    refine fin_i hP hD hS hA [0, 1] [2, 3] (wr := [(pz, .inr (8, [.ref gr, .ref mr, .ref cg, .ref so, .ref sh, .int s1, .int s2])), (gr, .inl (gyI G, 16, .inl gv))]) rfl rfl (by decide) (by decide) (va_runV (As := [.int (nI (k / 4)), .int (nI k), .int v]) (rest := []) ⟨hx, hb, hml, hown, hts⟩ (c_X0_isOnlyPlaceOfOther l G b mm f (k / 4) k v (by omega) (by omega) H.size) (cwV 3 hts (gV q267 q269 q7 q50 q270) rfl rfl rfl (by decide +kernel) ⟨Nat.le_of_ble_eq_true rfl, Nat.le_of_ble_eq_true rfl⟩) (preV (q0 := 0) (ci := 5) hK hE hP hD hS hA [0, 1] rfl (by decide) rfl rfl) rfl rfl hl.1 rfl (lv_room (Nat.le_of_ble_eq_true rfl)) dX0_yieldsTo_110 ⟨Nat.le_of_ble_eq_true rfl, Nat.le_of_ble_eq_true rfl⟩) (fun r_12 u9 hw_11 H locs hP hD hS => ?_)
    have hP : va_P (gD G) vwCl [(pz, .inr (8, [.ref gr, .ref mr, .ref cg, .ref so, .ref sh, .int s1, .int s2])), (gr, .inl (gyI G, 16, .inl gv)), (b, .inr (5, [.ref mm])), (mm, .inl (gyI G, 16, .inl f))] H := hP
    have hD : va_D A [(pz, .inr (8, [.ref gr, .ref mr, .ref cg, .ref so, .ref sh, .int s1, .int s2])), (gr, .inl (gyI G, 16, .inl gv)), (b, .inr (5, [.ref mm])), (mm, .inl (gyI G, 16, .inl f))] := hD
    refine lv_if_ne (tgt := 128) hx hb dX0_yieldsTo_113 (by decide) (fun c_13 => ?_) (fun c_13 => ?_)
    · skip
      refine lv_iconst (v := nI 1) hx hb dX0_yieldsTo_128 (by decide) ?_
      refine lv_goto (tgt := 133) hx hb dX0_yieldsTo_129 (by decide) ?_
      have hP9 := hP.sub (ws' := [(b, .inr (5, [.ref mm])), (mm, .inl (gyI G, 16, .inl f)), (pz, .inr (8, [.ref gr, .ref mr, .ref cg, .ref so, .ref sh, .int s1, .int s2])), (gr, .inl (gyI G, 16, .inl gv))]) [2, 3, 0, 1] rfl
      have hD9 := hD.sub (ws' := [(b, .inr (5, [.ref mm])), (mm, .inl (gyI G, 16, .inl f)), (pz, .inr (8, [.ref gr, .ref mr, .ref cg, .ref so, .ref sh, .int s1, .int s2])), (gr, .inl (gyI G, 16, .inl gv))]) [2, 3, 0, 1] (by decide) rfl
      subst hQ
      exact W.zret (v := nI 1) hx hb hr (by decide) (fun t ht hW => ⟨⟨nI 1, (), rfl, trivial, by rw [ht]; exact hP9, hD9⟩, hS.F ht⟩) hS.2.2 dX0_yieldsTo_133
    · skip
      refine lv_aload_n hx hb dX0_yieldsTo_116 rfl (lv_at hl 2 rfl) ?_
      refine lv_iload hx hb dX0_yieldsTo_117 (lv_at hl 0 rfl) ?_
      refine lv_iload_n hx hb dX0_yieldsTo_119 rfl (lv_at hl 5 rfl) ?_
      refine lv_iload hx hb dX0_yieldsTo_120 (lv_at hl 6 rfl) ?_
      refine fin_i hP hD hS hA [2, 3] [0, 1] (wr := [(pz, .inr (8, [.ref gr, .ref mr, .ref cg, .ref so, .ref sh, .int s1, .int s2])), (gr, .inl (gyI G, 16, .inl gv))]) rfl rfl (by decide) (by decide) (va_runV (As := [.int (nI (4 + (k % 4))), .int (nI k), .int v]) (rest := []) ⟨hx, hb, hml, hown, hts⟩ (c_X0_isOnlyPlaceOfOther l G b mm f (4 + (k % 4)) k v (by omega) (by omega) H.size) (cwV 3 hts (gV q267 q269 q7 q50 q270) rfl rfl rfl (by decide +kernel) ⟨Nat.le_of_ble_eq_true rfl, Nat.le_of_ble_eq_true rfl⟩) (preV (q0 := 2) (ci := 5) hK hE hP hD hS hA [2, 3] rfl (by decide) rfl rfl) rfl rfl hl.1 rfl (lv_room (Nat.le_of_ble_eq_true rfl)) dX0_yieldsTo_122 ⟨Nat.le_of_ble_eq_true rfl, Nat.le_of_ble_eq_true rfl⟩) (fun r_15 u9 hw_14 H locs hP hD hS => ?_)
      have hP : va_P (gD G) vwCl [(pz, .inr (8, [.ref gr, .ref mr, .ref cg, .ref so, .ref sh, .int s1, .int s2])), (gr, .inl (gyI G, 16, .inl gv)), (b, .inr (5, [.ref mm])), (mm, .inl (gyI G, 16, .inl f))] H := hP
      have hD : va_D A [(pz, .inr (8, [.ref gr, .ref mr, .ref cg, .ref so, .ref sh, .int s1, .int s2])), (gr, .inl (gyI G, 16, .inl gv)), (b, .inr (5, [.ref mm])), (mm, .inl (gyI G, 16, .inl f))] := hD
      refine lv_if_eq (tgt := 132) hx hb dX0_yieldsTo_125 (by decide) (fun c_16 => ?_) (fun c_16 => ?_)
      · skip
        refine lv_iconst (v := nI 0) hx hb dX0_yieldsTo_132 (by decide) ?_
        have hP9 := hP.sub (ws' := [(b, .inr (5, [.ref mm])), (mm, .inl (gyI G, 16, .inl f)), (pz, .inr (8, [.ref gr, .ref mr, .ref cg, .ref so, .ref sh, .int s1, .int s2])), (gr, .inl (gyI G, 16, .inl gv))]) [2, 3, 0, 1] rfl
        have hD9 := hD.sub (ws' := [(b, .inr (5, [.ref mm])), (mm, .inl (gyI G, 16, .inl f)), (pz, .inr (8, [.ref gr, .ref mr, .ref cg, .ref so, .ref sh, .int s1, .int s2])), (gr, .inl (gyI G, 16, .inl gv))]) [2, 3, 0, 1] (by decide) rfl
        subst hQ
        exact W.zret (v := nI 0) hx hb hr (by decide) (fun t ht hW => ⟨⟨nI 0, (), rfl, trivial, by rw [ht]; exact hP9, hD9⟩, hS.F ht⟩) hS.2.2 dX0_yieldsTo_133
      · skip
        refine lv_iconst (v := nI 1) hx hb dX0_yieldsTo_128 (by decide) ?_
        refine lv_goto (tgt := 133) hx hb dX0_yieldsTo_129 (by decide) ?_
        have hP9 := hP.sub (ws' := [(b, .inr (5, [.ref mm])), (mm, .inl (gyI G, 16, .inl f)), (pz, .inr (8, [.ref gr, .ref mr, .ref cg, .ref so, .ref sh, .int s1, .int s2])), (gr, .inl (gyI G, 16, .inl gv))]) [2, 3, 0, 1] rfl
        have hD9 := hD.sub (ws' := [(b, .inr (5, [.ref mm])), (mm, .inl (gyI G, 16, .inl f)), (pz, .inr (8, [.ref gr, .ref mr, .ref cg, .ref so, .ref sh, .int s1, .int s2])), (gr, .inl (gyI G, 16, .inl gv))]) [2, 3, 0, 1] (by decide) rfl
        subst hQ
        exact W.zret (v := nI 1) hx hb hr (by decide) (fun t ht hW => ⟨⟨nI 1, (), rfl, trivial, by rw [ht]; exact hP9, hD9⟩, hS.F ht⟩) hS.2.2 dX0_yieldsTo_133
  · skip
    refine lv_tableIn (off := 121) (tgt := 134) hx hb dX0_yieldsTo_13 (by decide) (by decide) (by decide) (by decide) ?_
    refine lv_aload_n hx hb dX0_yieldsTo_134 rfl (lv_at hl 2 rfl) ?_
    refine lv_iload hx hb dX0_yieldsTo_135 (lv_at hl 1 rfl) ?_
    refine lv_iload_n hx hb dX0_yieldsTo_137 rfl (lv_at hl 5 rfl) ?_
    refine lv_iload hx hb dX0_yieldsTo_138 (lv_at hl 6 rfl) ?_
    refine fin_i hP hD hS hA [0, 1] [2, 3] (wr := [(pz, .inr (8, [.ref gr, .ref mr, .ref cg, .ref so, .ref sh, .int s1, .int s2])), (gr, .inl (gyI G, 16, .inl gv))]) rfl rfl (by decide) (by decide) (va_runV (As := [.int (nI (k / 4)), .int (nI k), .int v]) (rest := []) ⟨hx, hb, hml, hown, hts⟩ (c_X0_isInPairElsewhere l G b mm f (k / 4) k v (by omega) (by omega) H.size) (cwV 3 hts (gV q271 q273 q8 q50 q274) rfl rfl rfl (by decide +kernel) ⟨Nat.le_of_ble_eq_true rfl, Nat.le_of_ble_eq_true rfl⟩) (preV (q0 := 0) (ci := 5) hK hE hP hD hS hA [0, 1] rfl (by decide) rfl rfl) rfl rfl hl.1 rfl (lv_room (Nat.le_of_ble_eq_true rfl)) dX0_yieldsTo_140 ⟨Nat.le_of_ble_eq_true rfl, Nat.le_of_ble_eq_true rfl⟩) (fun r_18 u9 hw_17 H locs hP hD hS => ?_)
    have hP : va_P (gD G) vwCl [(pz, .inr (8, [.ref gr, .ref mr, .ref cg, .ref so, .ref sh, .int s1, .int s2])), (gr, .inl (gyI G, 16, .inl gv)), (b, .inr (5, [.ref mm])), (mm, .inl (gyI G, 16, .inl f))] H := hP
    have hD : va_D A [(pz, .inr (8, [.ref gr, .ref mr, .ref cg, .ref so, .ref sh, .int s1, .int s2])), (gr, .inl (gyI G, 16, .inl gv)), (b, .inr (5, [.ref mm])), (mm, .inl (gyI G, 16, .inl f))] := hD
    refine lv_if_ne (tgt := 158) hx hb dX0_yieldsTo_143 (by decide) (fun c_19 => ?_) (fun c_19 => ?_)
    · skip
      refine lv_iconst (v := nI 1) hx hb dX0_yieldsTo_158 (by decide) ?_
      refine lv_goto (tgt := 163) hx hb dX0_yieldsTo_159 (by decide) ?_
      have hP9 := hP.sub (ws' := [(b, .inr (5, [.ref mm])), (mm, .inl (gyI G, 16, .inl f)), (pz, .inr (8, [.ref gr, .ref mr, .ref cg, .ref so, .ref sh, .int s1, .int s2])), (gr, .inl (gyI G, 16, .inl gv))]) [2, 3, 0, 1] rfl
      have hD9 := hD.sub (ws' := [(b, .inr (5, [.ref mm])), (mm, .inl (gyI G, 16, .inl f)), (pz, .inr (8, [.ref gr, .ref mr, .ref cg, .ref so, .ref sh, .int s1, .int s2])), (gr, .inl (gyI G, 16, .inl gv))]) [2, 3, 0, 1] (by decide) rfl
      subst hQ
      exact W.zret (v := nI 1) hx hb hr (by decide) (fun t ht hW => ⟨⟨nI 1, (), rfl, trivial, by rw [ht]; exact hP9, hD9⟩, hS.F ht⟩) hS.2.2 dX0_yieldsTo_163
    · skip
      refine lv_aload_n hx hb dX0_yieldsTo_146 rfl (lv_at hl 2 rfl) ?_
      refine lv_iload hx hb dX0_yieldsTo_147 (lv_at hl 0 rfl) ?_
      refine lv_iload_n hx hb dX0_yieldsTo_149 rfl (lv_at hl 5 rfl) ?_
      refine lv_iload hx hb dX0_yieldsTo_150 (lv_at hl 6 rfl) ?_
      refine fin_i hP hD hS hA [2, 3] [0, 1] (wr := [(pz, .inr (8, [.ref gr, .ref mr, .ref cg, .ref so, .ref sh, .int s1, .int s2])), (gr, .inl (gyI G, 16, .inl gv))]) rfl rfl (by decide) (by decide) (va_runV (As := [.int (nI (4 + (k % 4))), .int (nI k), .int v]) (rest := []) ⟨hx, hb, hml, hown, hts⟩ (c_X0_isInPairElsewhere l G b mm f (4 + (k % 4)) k v (by omega) (by omega) H.size) (cwV 3 hts (gV q271 q273 q8 q50 q274) rfl rfl rfl (by decide +kernel) ⟨Nat.le_of_ble_eq_true rfl, Nat.le_of_ble_eq_true rfl⟩) (preV (q0 := 2) (ci := 5) hK hE hP hD hS hA [2, 3] rfl (by decide) rfl rfl) rfl rfl hl.1 rfl (lv_room (Nat.le_of_ble_eq_true rfl)) dX0_yieldsTo_152 ⟨Nat.le_of_ble_eq_true rfl, Nat.le_of_ble_eq_true rfl⟩) (fun r_21 u9 hw_20 H locs hP hD hS => ?_)
      have hP : va_P (gD G) vwCl [(pz, .inr (8, [.ref gr, .ref mr, .ref cg, .ref so, .ref sh, .int s1, .int s2])), (gr, .inl (gyI G, 16, .inl gv)), (b, .inr (5, [.ref mm])), (mm, .inl (gyI G, 16, .inl f))] H := hP
      have hD : va_D A [(pz, .inr (8, [.ref gr, .ref mr, .ref cg, .ref so, .ref sh, .int s1, .int s2])), (gr, .inl (gyI G, 16, .inl gv)), (b, .inr (5, [.ref mm])), (mm, .inl (gyI G, 16, .inl f))] := hD
      refine lv_if_eq (tgt := 162) hx hb dX0_yieldsTo_155 (by decide) (fun c_22 => ?_) (fun c_22 => ?_)
      · skip
        refine lv_iconst (v := nI 0) hx hb dX0_yieldsTo_162 (by decide) ?_
        have hP9 := hP.sub (ws' := [(b, .inr (5, [.ref mm])), (mm, .inl (gyI G, 16, .inl f)), (pz, .inr (8, [.ref gr, .ref mr, .ref cg, .ref so, .ref sh, .int s1, .int s2])), (gr, .inl (gyI G, 16, .inl gv))]) [2, 3, 0, 1] rfl
        have hD9 := hD.sub (ws' := [(b, .inr (5, [.ref mm])), (mm, .inl (gyI G, 16, .inl f)), (pz, .inr (8, [.ref gr, .ref mr, .ref cg, .ref so, .ref sh, .int s1, .int s2])), (gr, .inl (gyI G, 16, .inl gv))]) [2, 3, 0, 1] (by decide) rfl
        subst hQ
        exact W.zret (v := nI 0) hx hb hr (by decide) (fun t ht hW => ⟨⟨nI 0, (), rfl, trivial, by rw [ht]; exact hP9, hD9⟩, hS.F ht⟩) hS.2.2 dX0_yieldsTo_163
      · skip
        refine lv_iconst (v := nI 1) hx hb dX0_yieldsTo_158 (by decide) ?_
        refine lv_goto (tgt := 163) hx hb dX0_yieldsTo_159 (by decide) ?_
        have hP9 := hP.sub (ws' := [(b, .inr (5, [.ref mm])), (mm, .inl (gyI G, 16, .inl f)), (pz, .inr (8, [.ref gr, .ref mr, .ref cg, .ref so, .ref sh, .int s1, .int s2])), (gr, .inl (gyI G, 16, .inl gv))]) [2, 3, 0, 1] rfl
        have hD9 := hD.sub (ws' := [(b, .inr (5, [.ref mm])), (mm, .inl (gyI G, 16, .inl f)), (pz, .inr (8, [.ref gr, .ref mr, .ref cg, .ref so, .ref sh, .int s1, .int s2])), (gr, .inl (gyI G, 16, .inl gv))]) [2, 3, 0, 1] (by decide) rfl
        subst hQ
        exact W.zret (v := nI 1) hx hb hr (by decide) (fun t ht hW => ⟨⟨nI 1, (), rfl, trivial, by rw [ht]; exact hP9, hD9⟩, hS.F ht⟩) hS.2.2 dX0_yieldsTo_163
set_option maxHeartbeats 4000000 in
set_option maxRecDepth 100000 in
theorem c_X5_keepStep (l : Launch) (G : GG) (sv : Nat) (b : Nat) (mm : Nat) (sr : Nat) (se : Nat) (f : Nat → Int32) (g : Nat → Int32) (hh : Nat → Int32) (sc : Nat) (tc : Nat) (oc : Int32) (rl : Int32) (k : Nat) (v : Int32) (hsc : sc ≤ 64) (htc : tc ≤ 16) (hk : k < 16) : Mv l G yX5_keepStep cX5_keepStep 4 ({ frames := 1, cells := 0, slots := 0, locals := 20 } : Room) [.ref sv, .int rl, .int (nI k), .int v] [(sv, .inr (10, [.ref b, .ref sr, .ref se, .int (nI sc), .int (nI tc), .int oc])), (b, .inr (5, [.ref mm])), (mm, .inl (gyI G, 16, .inl f)), (sr, .inl (gyI G, 64, .inl g)), (se, .inl (gyI G, 16, .inl hh))] (fun (u : (Nat → Int32) × (Nat → Int32) × Nat × Nat) => u.2.2.1 ≤ 64 ∧ u.2.2.2 ≤ 16) (fun (u : (Nat → Int32) × (Nat → Int32) × Nat × Nat) => [(sv, .inr (10, [.ref b, .ref sr, .ref se, .int (nI u.2.2.1), .int (nI u.2.2.2), .int oc])), (b, .inr (5, [.ref mm])), (mm, .inl (gyI G, 16, .inl f)), (sr, .inl (gyI G, 64, .inl u.1)), (se, .inl (gyI G, 16, .inl u.2.1))]) := by
  intro sz
  refine Met.ofW (cc := cX5_keepStep) (maxL := 4) (ret := none) (by decide) rfl ?_
  intro p e s m args below meth c s₁ B9 hml hv
  obtain ⟨rfl, hsz, hP, hK, hD0, hE⟩ := hv
  have hx := B9.exec
  have hb := B9.bytes
  have hr := B9.returns
  have hts : ∀ w ∈ WW, w.before ([.ref sv, .int rl, .int (nI k), .int v] : List Value).toArray s = true := fun w h => atoms_spec (ws := .code yX5_keepStep cX5_keepStep 4 none :: WW) B9.pre w (List.mem_cons_of_mem _ h)
  have hown : s.vm.findClass RX5 = some m.cls := findClass_of_methodNamed B9.named
  subst hsz
  have hD := hD0.self (sz := s.heap.size)
  generalize hAe : va_A [(sv, .inr (10, [.ref b, .ref sr, .ref se, .int (nI sc), .int (nI tc), .int oc])), (b, .inr (5, [.ref mm])), (mm, .inl (gyI G, 16, .inl f)), (sr, .inl (gyI G, 64, .inl g)), (se, .inl (gyI G, 16, .inl hh))] s.heap.size = A at hD hE ⊢
  have hA : ∀ q : Nat, s.heap.size ≤ q → A q := fun q h => by rw [← hAe]; exact Or.inr h
  have hl := lv_entry ([.ref sv, .int rl, .int (nI k), .int v]) (n := 4) (Nat.le_of_ble_eq_true rfl)
  rw [lg_entry_eq]
  generalize (lg_sl ([.ref sv, .int rl, .int (nI k), .int v]) ++ List.replicate (4 - (lg_sl ([.ref sv, .int rl, .int (nI k), .int v])).length) Slot.unset).toArray = ls at hl ⊢
  have hl : lv_has ls 4 [(0, .ref sv), (1, .int rl), (2, .int (nI k)), (3, .int v)] := hl
  refine qgen (fun Q hQ => ?_)
  refine hgen (fun H locs hP hD hS => ?_) hP hD
  refine lv_aload_n hx hb dX5_keepStep_0 rfl (lv_at hl 0 rfl) ?_
  refine va_get (D := gD G) (ci := 10) (v := .int (nI sc)) (C := RX5) (T := TX5) (N := 6) hx hb hts fwX5 hown hK hP 0 rfl rfl 3 (by decide) (hts _ q142) (fun _ h9 => h9) rfl dX5_keepStep_1 ?_
  refine lv_aload_n hx hb dX5_keepStep_4 rfl (lv_at hl 0 rfl) ?_
  refine va_get (D := gD G) (ci := 10) (v := .ref sr) (C := RX5) (T := TX5) (N := 6) hx hb hts fwX5 hown hK hP 0 rfl rfl 1 (by decide) (hts _ q138) (fun _ h9 => h9) rfl dX5_keepStep_5 ?_
  refine va_alen (D := gD G) (v := nI 64) hx hb hK hP 3 0 rfl rfl rfl dX5_keepStep_8 ?_
  refine lv_icmp_ge (tgt := 41) hx hb dX5_keepStep_9 (by decide) (fun c_1 => ?_) (fun c_1 => ?_)
  · skip
    have c_1 : 64 ≤ sc := (nI_leI (a := 64) (b := sc) (by omega) (by omega)).mp c_1
    refine lv_aload_n hx hb dX5_keepStep_41 rfl (lv_at hl 0 rfl) ?_
    refine va_get (D := gD G) (ci := 10) (v := .ref b) (C := RX5) (T := TX5) (N := 6) hx hb hts fwX5 hown hK hP 0 rfl rfl 0 (by decide) (hts _ q136) (fun _ h9 => h9) rfl dX5_keepStep_42 ?_
    refine va_getN (D := gD G) (ci := 5) (v := .ref mm) (C := RX0) (T := TX0) (N := 1) hx hb hts fwX0 hown hK hP 1 rfl rfl 0 (by decide) (va_Nw.use rfl (hE.1.1 _ nq130)) (fun _ h9 => h9) rfl dX5_keepStep_45 ?_
    refine lv_iload_n hx hb dX5_keepStep_48 rfl (lv_at hl 2 rfl) ?_
    refine va_iald (D := gD G) (cA := gyI G) (n := 16) (f := f) hx hb hK hP 2 0 rfl rfl (vp_in_nI (n := k) (N := 16) (by omega) (by omega)) dX5_keepStep_49 ?_
    refine lv_topi (fun w_2 ew_2 => ?_)
    refine fin_i hP hD hS hA [] [0, 1, 2, 3, 4] (wr := [(sv, .inr (10, [.ref b, .ref sr, .ref se, .int (nI sc), .int (nI tc), .int oc])), (b, .inr (5, [.ref mm])), (mm, .inl (gyI G, 16, .inl f)), (sr, .inl (gyI G, 64, .inl g)), (se, .inl (gyI G, 16, .inl hh))]) rfl rfl (by decide) (by decide) (va_runS (As := [.int w_2]) (rest := []) ⟨hx, hb, hml, hown, hts⟩ (c_J6_bitCount_0f7a4 l G w_2 H.size) (va_cwS 1 hts (gSt q310 q277 q70 q278) rfl rfl rfl (by decide +kernel) ⟨Nat.le_of_ble_eq_true rfl, Nat.le_of_ble_eq_true rfl⟩) (preS hK hE hP hD hS hA [] rfl (by decide)) rfl rfl hl.1 rfl (lv_room (Nat.le_of_ble_eq_true rfl)) dX5_keepStep_50 ⟨Nat.le_of_ble_eq_true rfl, Nat.le_of_ble_eq_true rfl⟩) (fun r_4 u9 hw_3 H locs hP hD hS => ?_)
    have hP : va_P (gD G) vwCl [(sv, .inr (10, [.ref b, .ref sr, .ref se, .int (nI sc), .int (nI tc), .int oc])), (b, .inr (5, [.ref mm])), (mm, .inl (gyI G, 16, .inl f)), (sr, .inl (gyI G, 64, .inl g)), (se, .inl (gyI G, 16, .inl hh))] H := hP
    have hD : va_D A [(sv, .inr (10, [.ref b, .ref sr, .ref se, .int (nI sc), .int (nI tc), .int oc])), (b, .inr (5, [.ref mm])), (mm, .inl (gyI G, 16, .inl f)), (sr, .inl (gyI G, 64, .inl g)), (se, .inl (gyI G, 16, .inl hh))] := hD
    refine lv_iconst (v := nI 1) hx hb dX5_keepStep_53 (by decide) ?_
    refine lv_icmp_ne (tgt := 89) hx hb dX5_keepStep_54 (by decide) (fun c_5 => ?_) (fun c_5 => ?_)
    · skip
      have hP9 := hP.sub (ws' := [(sv, .inr (10, [.ref b, .ref sr, .ref se, .int (nI sc), .int (nI tc), .int oc])), (b, .inr (5, [.ref mm])), (mm, .inl (gyI G, 16, .inl f)), (sr, .inl (gyI G, 64, .inl g)), (se, .inl (gyI G, 16, .inl hh))]) [0, 1, 2, 3, 4] rfl
      have hD9 := hD.sub (ws' := [(sv, .inr (10, [.ref b, .ref sr, .ref se, .int (nI sc), .int (nI tc), .int oc])), (b, .inr (5, [.ref mm])), (mm, .inl (gyI G, 16, .inl f)), (sr, .inl (gyI G, 64, .inl g)), (se, .inl (gyI G, 16, .inl hh))]) [0, 1, 2, 3, 4] (by decide) rfl
      subst hQ
      exact W.vret hx hb hr (fun t ht hW => ⟨⟨(g, hh, sc, tc), rfl, ⟨(show sc ≤ 64 by omega), (show tc ≤ 16 by omega)⟩, by rw [ht]; exact hP9, hD9⟩, hS.F ht⟩) hS.2.2 dX5_keepStep_89
    · skip
      refine lv_aload_n hx hb dX5_keepStep_57 rfl (lv_at hl 0 rfl) ?_
      refine va_get (D := gD G) (ci := 10) (v := .int (nI tc)) (C := RX5) (T := TX5) (N := 6) hx hb hts fwX5 hown hK hP 0 rfl rfl 4 (by decide) (hts _ q144) (fun _ h9 => h9) rfl dX5_keepStep_58 ?_
      refine lv_aload_n hx hb dX5_keepStep_61 rfl (lv_at hl 0 rfl) ?_
      refine va_get (D := gD G) (ci := 10) (v := .ref se) (C := RX5) (T := TX5) (N := 6) hx hb hts fwX5 hown hK hP 0 rfl rfl 2 (by decide) (hts _ q140) (fun _ h9 => h9) rfl dX5_keepStep_62 ?_
      refine va_alen (D := gD G) (v := nI 16) hx hb hK hP 4 0 rfl rfl rfl dX5_keepStep_65 ?_
      refine lv_icmp_ge (tgt := 89) hx hb dX5_keepStep_66 (by decide) (fun c_6 => ?_) (fun c_6 => ?_)
      · skip
        have c_6 : 16 ≤ tc := (nI_leI (a := 16) (b := tc) (by omega) (by omega)).mp c_6
        have hP9 := hP.sub (ws' := [(sv, .inr (10, [.ref b, .ref sr, .ref se, .int (nI sc), .int (nI tc), .int oc])), (b, .inr (5, [.ref mm])), (mm, .inl (gyI G, 16, .inl f)), (sr, .inl (gyI G, 64, .inl g)), (se, .inl (gyI G, 16, .inl hh))]) [0, 1, 2, 3, 4] rfl
        have hD9 := hD.sub (ws' := [(sv, .inr (10, [.ref b, .ref sr, .ref se, .int (nI sc), .int (nI tc), .int oc])), (b, .inr (5, [.ref mm])), (mm, .inl (gyI G, 16, .inl f)), (sr, .inl (gyI G, 64, .inl g)), (se, .inl (gyI G, 16, .inl hh))]) [0, 1, 2, 3, 4] (by decide) rfl
        subst hQ
        exact W.vret hx hb hr (fun t ht hW => ⟨⟨(g, hh, sc, tc), rfl, ⟨(show sc ≤ 64 by omega), (show tc ≤ 16 by omega)⟩, by rw [ht]; exact hP9, hD9⟩, hS.F ht⟩) hS.2.2 dX5_keepStep_89
      · skip
        have c_6 : ¬ 16 ≤ tc := fun z => c_6 ((nI_leI (a := 16) (b := tc) (by omega) (by omega)).mpr z)
        refine lv_aload_n hx hb dX5_keepStep_69 rfl (lv_at hl 0 rfl) ?_
        refine va_get (D := gD G) (ci := 10) (v := .ref se) (C := RX5) (T := TX5) (N := 6) hx hb hts fwX5 hown hK hP 0 rfl rfl 2 (by decide) (hts _ q140) (fun _ h9 => h9) rfl dX5_keepStep_70 ?_
        refine lv_aload_n hx hb dX5_keepStep_73 rfl (lv_at hl 0 rfl) ?_
        refine va_get (D := gD G) (ci := 10) (v := .int (nI tc)) (C := RX5) (T := TX5) (N := 6) hx hb hts fwX5 hown hK hP 0 rfl rfl 4 (by decide) (hts _ q144) (fun _ h9 => h9) rfl dX5_keepStep_74 ?_
        refine lv_iload_n hx hb dX5_keepStep_77 rfl (lv_at hl 2 rfl) ?_
        refine va_iast (D := gD G) (cA := gyI G) (n := 16) (f := hh) hx hb hK hP hD hS 4 0 rfl rfl (vp_in_nI (n := tc) (N := 16) (by omega) (by omega)) dX5_keepStep_78 (fun H locs hP hD hS => ?_)
        generalize upd hh (nI tc).toNatClampNeg (nI k) = f_7 at hP hD
        have hP : va_P (gD G) vwCl [(sv, .inr (10, [.ref b, .ref sr, .ref se, .int (nI sc), .int (nI tc), .int oc])), (b, .inr (5, [.ref mm])), (mm, .inl (gyI G, 16, .inl f)), (sr, .inl (gyI G, 64, .inl g)), (se, .inl (gyI G, 16, .inl f_7))] H := hP
        have hD : va_D A [(sv, .inr (10, [.ref b, .ref sr, .ref se, .int (nI sc), .int (nI tc), .int oc])), (b, .inr (5, [.ref mm])), (mm, .inl (gyI G, 16, .inl f)), (sr, .inl (gyI G, 64, .inl g)), (se, .inl (gyI G, 16, .inl f_7))] := hD
        refine lv_aload_n hx hb dX5_keepStep_79 rfl (lv_at hl 0 rfl) ?_
        refine lv_dup hx hb dX5_keepStep_80 rfl ?_
        refine va_get (D := gD G) (ci := 10) (v := .int (nI tc)) (C := RX5) (T := TX5) (N := 6) hx hb hts fwX5 hown hK hP 0 rfl rfl 4 (by decide) (hts _ q144) (fun _ h9 => h9) rfl dX5_keepStep_81 ?_
        refine lv_iconst (v := nI 1) hx hb dX5_keepStep_84 (by decide) ?_
        refine lv_iadd hx hb dX5_keepStep_85 ?_
        refine lv_toe (nI_add tc 1) ?_
        refine va_put (D := gD G) (ci := 10) (v := .int (nI (tc + 1))) (ty := .int) (C := RX5) (T := TX5) (N := 6) hx hb hts fwX5 tyX5 tyX5_ok nmX5 hown hK hP hD hS 0 rfl rfl 4 (by decide) (hts _ q144) (fun _ h9 => h9) rfl (by decide +kernel) rfl rfl (Nat.le_of_ble_eq_true rfl) dX5_keepStep_86 (fun H locs hP hD hS => ?_)
        have hP : va_P (gD G) vwCl [(sv, .inr (10, [.ref b, .ref sr, .ref se, .int (nI sc), .int (nI (tc + 1)), .int oc])), (b, .inr (5, [.ref mm])), (mm, .inl (gyI G, 16, .inl f)), (sr, .inl (gyI G, 64, .inl g)), (se, .inl (gyI G, 16, .inl f_7))] H := hP
        have hD : va_D A [(sv, .inr (10, [.ref b, .ref sr, .ref se, .int (nI sc), .int (nI (tc + 1)), .int oc])), (b, .inr (5, [.ref mm])), (mm, .inl (gyI G, 16, .inl f)), (sr, .inl (gyI G, 64, .inl g)), (se, .inl (gyI G, 16, .inl f_7))] := hD
        have hP9 := hP.sub (ws' := [(sv, .inr (10, [.ref b, .ref sr, .ref se, .int (nI sc), .int (nI (tc + 1)), .int oc])), (b, .inr (5, [.ref mm])), (mm, .inl (gyI G, 16, .inl f)), (sr, .inl (gyI G, 64, .inl g)), (se, .inl (gyI G, 16, .inl f_7))]) [0, 1, 2, 3, 4] rfl
        have hD9 := hD.sub (ws' := [(sv, .inr (10, [.ref b, .ref sr, .ref se, .int (nI sc), .int (nI (tc + 1)), .int oc])), (b, .inr (5, [.ref mm])), (mm, .inl (gyI G, 16, .inl f)), (sr, .inl (gyI G, 64, .inl g)), (se, .inl (gyI G, 16, .inl f_7))]) [0, 1, 2, 3, 4] (by decide) rfl
        subst hQ
        exact W.vret hx hb hr (fun t ht hW => ⟨⟨(g, f_7, sc, (tc + 1)), rfl, ⟨(show sc ≤ 64 by omega), (show (tc + 1) ≤ 16 by omega)⟩, by rw [ht]; exact hP9, hD9⟩, hS.F ht⟩) hS.2.2 dX5_keepStep_89
  · skip
    have c_1 : ¬ 64 ≤ sc := fun z => c_1 ((nI_leI (a := 64) (b := sc) (by omega) (by omega)).mpr z)
    refine lv_aload_n hx hb dX5_keepStep_12 rfl (lv_at hl 0 rfl) ?_
    refine va_get (D := gD G) (ci := 10) (v := .ref sr) (C := RX5) (T := TX5) (N := 6) hx hb hts fwX5 hown hK hP 0 rfl rfl 1 (by decide) (hts _ q138) (fun _ h9 => h9) rfl dX5_keepStep_13 ?_
    refine lv_aload_n hx hb dX5_keepStep_16 rfl (lv_at hl 0 rfl) ?_
    refine va_get (D := gD G) (ci := 10) (v := .int (nI sc)) (C := RX5) (T := TX5) (N := 6) hx hb hts fwX5 hown hK hP 0 rfl rfl 3 (by decide) (hts _ q142) (fun _ h9 => h9) rfl dX5_keepStep_17 ?_
    refine lv_bipush (v := nI 100) hx hb dX5_keepStep_20 (by decide) ?_
    refine lv_iload_n hx hb dX5_keepStep_22 rfl (lv_at hl 1 rfl) ?_
    refine lv_imul hx hb dX5_keepStep_23 ?_
    refine lv_topi (fun w_8 ew_8 => ?_)
    refine lv_iconst (v := nI 5) hx hb dX5_keepStep_24 (by decide) ?_
    refine lv_iload_n hx hb dX5_keepStep_25 rfl (lv_at hl 2 rfl) ?_
    refine lv_imul hx hb dX5_keepStep_26 ?_
    refine lv_toe (pk_mul 5 k) ?_
    refine lv_iadd hx hb dX5_keepStep_27 ?_
    refine lv_topi (fun w_9 ew_9 => ?_)
    refine lv_iload_n hx hb dX5_keepStep_28 rfl (lv_at hl 3 rfl) ?_
    refine lv_iadd hx hb dX5_keepStep_29 ?_
    refine lv_topi (fun w_10 ew_10 => ?_)
    refine va_iast (D := gD G) (cA := gyI G) (n := 64) (f := g) hx hb hK hP hD hS 3 0 rfl rfl (vp_in_nI (n := sc) (N := 64) (by omega) (by omega)) dX5_keepStep_30 (fun H locs hP hD hS => ?_)
    generalize upd g (nI sc).toNatClampNeg w_10 = f_11 at hP hD
    have hP : va_P (gD G) vwCl [(sv, .inr (10, [.ref b, .ref sr, .ref se, .int (nI sc), .int (nI tc), .int oc])), (b, .inr (5, [.ref mm])), (mm, .inl (gyI G, 16, .inl f)), (sr, .inl (gyI G, 64, .inl f_11)), (se, .inl (gyI G, 16, .inl hh))] H := hP
    have hD : va_D A [(sv, .inr (10, [.ref b, .ref sr, .ref se, .int (nI sc), .int (nI tc), .int oc])), (b, .inr (5, [.ref mm])), (mm, .inl (gyI G, 16, .inl f)), (sr, .inl (gyI G, 64, .inl f_11)), (se, .inl (gyI G, 16, .inl hh))] := hD
    refine lv_aload_n hx hb dX5_keepStep_31 rfl (lv_at hl 0 rfl) ?_
    refine lv_dup hx hb dX5_keepStep_32 rfl ?_
    refine va_get (D := gD G) (ci := 10) (v := .int (nI sc)) (C := RX5) (T := TX5) (N := 6) hx hb hts fwX5 hown hK hP 0 rfl rfl 3 (by decide) (hts _ q142) (fun _ h9 => h9) rfl dX5_keepStep_33 ?_
    refine lv_iconst (v := nI 1) hx hb dX5_keepStep_36 (by decide) ?_
    refine lv_iadd hx hb dX5_keepStep_37 ?_
    refine lv_toe (nI_add sc 1) ?_
    refine va_put (D := gD G) (ci := 10) (v := .int (nI (sc + 1))) (ty := .int) (C := RX5) (T := TX5) (N := 6) hx hb hts fwX5 tyX5 tyX5_ok nmX5 hown hK hP hD hS 0 rfl rfl 3 (by decide) (hts _ q142) (fun _ h9 => h9) rfl (by decide +kernel) rfl rfl (Nat.le_of_ble_eq_true rfl) dX5_keepStep_38 (fun H locs hP hD hS => ?_)
    have hP : va_P (gD G) vwCl [(sv, .inr (10, [.ref b, .ref sr, .ref se, .int (nI (sc + 1)), .int (nI tc), .int oc])), (b, .inr (5, [.ref mm])), (mm, .inl (gyI G, 16, .inl f)), (sr, .inl (gyI G, 64, .inl f_11)), (se, .inl (gyI G, 16, .inl hh))] H := hP
    have hD : va_D A [(sv, .inr (10, [.ref b, .ref sr, .ref se, .int (nI (sc + 1)), .int (nI tc), .int oc])), (b, .inr (5, [.ref mm])), (mm, .inl (gyI G, 16, .inl f)), (sr, .inl (gyI G, 64, .inl f_11)), (se, .inl (gyI G, 16, .inl hh))] := hD
    refine lv_aload_n hx hb dX5_keepStep_41 rfl (lv_at hl 0 rfl) ?_
    refine va_get (D := gD G) (ci := 10) (v := .ref b) (C := RX5) (T := TX5) (N := 6) hx hb hts fwX5 hown hK hP 0 rfl rfl 0 (by decide) (hts _ q136) (fun _ h9 => h9) rfl dX5_keepStep_42 ?_
    refine va_getN (D := gD G) (ci := 5) (v := .ref mm) (C := RX0) (T := TX0) (N := 1) hx hb hts fwX0 hown hK hP 1 rfl rfl 0 (by decide) (va_Nw.use rfl (hE.1.1 _ nq130)) (fun _ h9 => h9) rfl dX5_keepStep_45 ?_
    refine lv_iload_n hx hb dX5_keepStep_48 rfl (lv_at hl 2 rfl) ?_
    refine va_iald (D := gD G) (cA := gyI G) (n := 16) (f := f) hx hb hK hP 2 0 rfl rfl (vp_in_nI (n := k) (N := 16) (by omega) (by omega)) dX5_keepStep_49 ?_
    refine lv_topi (fun w_12 ew_12 => ?_)
    refine fin_i hP hD hS hA [] [0, 1, 2, 3, 4] (wr := [(sv, .inr (10, [.ref b, .ref sr, .ref se, .int (nI (sc + 1)), .int (nI tc), .int oc])), (b, .inr (5, [.ref mm])), (mm, .inl (gyI G, 16, .inl f)), (sr, .inl (gyI G, 64, .inl f_11)), (se, .inl (gyI G, 16, .inl hh))]) rfl rfl (by decide) (by decide) (va_runS (As := [.int w_12]) (rest := []) ⟨hx, hb, hml, hown, hts⟩ (c_J6_bitCount_0f7a4 l G w_12 H.size) (va_cwS 1 hts (gSt q310 q277 q70 q278) rfl rfl rfl (by decide +kernel) ⟨Nat.le_of_ble_eq_true rfl, Nat.le_of_ble_eq_true rfl⟩) (preS hK hE hP hD hS hA [] rfl (by decide)) rfl rfl hl.1 rfl (lv_room (Nat.le_of_ble_eq_true rfl)) dX5_keepStep_50 ⟨Nat.le_of_ble_eq_true rfl, Nat.le_of_ble_eq_true rfl⟩) (fun r_14 u9 hw_13 H locs hP hD hS => ?_)
    have hP : va_P (gD G) vwCl [(sv, .inr (10, [.ref b, .ref sr, .ref se, .int (nI (sc + 1)), .int (nI tc), .int oc])), (b, .inr (5, [.ref mm])), (mm, .inl (gyI G, 16, .inl f)), (sr, .inl (gyI G, 64, .inl f_11)), (se, .inl (gyI G, 16, .inl hh))] H := hP
    have hD : va_D A [(sv, .inr (10, [.ref b, .ref sr, .ref se, .int (nI (sc + 1)), .int (nI tc), .int oc])), (b, .inr (5, [.ref mm])), (mm, .inl (gyI G, 16, .inl f)), (sr, .inl (gyI G, 64, .inl f_11)), (se, .inl (gyI G, 16, .inl hh))] := hD
    refine lv_iconst (v := nI 1) hx hb dX5_keepStep_53 (by decide) ?_
    refine lv_icmp_ne (tgt := 89) hx hb dX5_keepStep_54 (by decide) (fun c_15 => ?_) (fun c_15 => ?_)
    · skip
      have hP9 := hP.sub (ws' := [(sv, .inr (10, [.ref b, .ref sr, .ref se, .int (nI (sc + 1)), .int (nI tc), .int oc])), (b, .inr (5, [.ref mm])), (mm, .inl (gyI G, 16, .inl f)), (sr, .inl (gyI G, 64, .inl f_11)), (se, .inl (gyI G, 16, .inl hh))]) [0, 1, 2, 3, 4] rfl
      have hD9 := hD.sub (ws' := [(sv, .inr (10, [.ref b, .ref sr, .ref se, .int (nI (sc + 1)), .int (nI tc), .int oc])), (b, .inr (5, [.ref mm])), (mm, .inl (gyI G, 16, .inl f)), (sr, .inl (gyI G, 64, .inl f_11)), (se, .inl (gyI G, 16, .inl hh))]) [0, 1, 2, 3, 4] (by decide) rfl
      subst hQ
      exact W.vret hx hb hr (fun t ht hW => ⟨⟨(f_11, hh, (sc + 1), tc), rfl, ⟨(show (sc + 1) ≤ 64 by omega), (show tc ≤ 16 by omega)⟩, by rw [ht]; exact hP9, hD9⟩, hS.F ht⟩) hS.2.2 dX5_keepStep_89
    · skip
      refine lv_aload_n hx hb dX5_keepStep_57 rfl (lv_at hl 0 rfl) ?_
      refine va_get (D := gD G) (ci := 10) (v := .int (nI tc)) (C := RX5) (T := TX5) (N := 6) hx hb hts fwX5 hown hK hP 0 rfl rfl 4 (by decide) (hts _ q144) (fun _ h9 => h9) rfl dX5_keepStep_58 ?_
      refine lv_aload_n hx hb dX5_keepStep_61 rfl (lv_at hl 0 rfl) ?_
      refine va_get (D := gD G) (ci := 10) (v := .ref se) (C := RX5) (T := TX5) (N := 6) hx hb hts fwX5 hown hK hP 0 rfl rfl 2 (by decide) (hts _ q140) (fun _ h9 => h9) rfl dX5_keepStep_62 ?_
      refine va_alen (D := gD G) (v := nI 16) hx hb hK hP 4 0 rfl rfl rfl dX5_keepStep_65 ?_
      refine lv_icmp_ge (tgt := 89) hx hb dX5_keepStep_66 (by decide) (fun c_16 => ?_) (fun c_16 => ?_)
      · skip
        have c_16 : 16 ≤ tc := (nI_leI (a := 16) (b := tc) (by omega) (by omega)).mp c_16
        have hP9 := hP.sub (ws' := [(sv, .inr (10, [.ref b, .ref sr, .ref se, .int (nI (sc + 1)), .int (nI tc), .int oc])), (b, .inr (5, [.ref mm])), (mm, .inl (gyI G, 16, .inl f)), (sr, .inl (gyI G, 64, .inl f_11)), (se, .inl (gyI G, 16, .inl hh))]) [0, 1, 2, 3, 4] rfl
        have hD9 := hD.sub (ws' := [(sv, .inr (10, [.ref b, .ref sr, .ref se, .int (nI (sc + 1)), .int (nI tc), .int oc])), (b, .inr (5, [.ref mm])), (mm, .inl (gyI G, 16, .inl f)), (sr, .inl (gyI G, 64, .inl f_11)), (se, .inl (gyI G, 16, .inl hh))]) [0, 1, 2, 3, 4] (by decide) rfl
        subst hQ
        exact W.vret hx hb hr (fun t ht hW => ⟨⟨(f_11, hh, (sc + 1), tc), rfl, ⟨(show (sc + 1) ≤ 64 by omega), (show tc ≤ 16 by omega)⟩, by rw [ht]; exact hP9, hD9⟩, hS.F ht⟩) hS.2.2 dX5_keepStep_89
      · skip
        have c_16 : ¬ 16 ≤ tc := fun z => c_16 ((nI_leI (a := 16) (b := tc) (by omega) (by omega)).mpr z)
        refine lv_aload_n hx hb dX5_keepStep_69 rfl (lv_at hl 0 rfl) ?_
        refine va_get (D := gD G) (ci := 10) (v := .ref se) (C := RX5) (T := TX5) (N := 6) hx hb hts fwX5 hown hK hP 0 rfl rfl 2 (by decide) (hts _ q140) (fun _ h9 => h9) rfl dX5_keepStep_70 ?_
        refine lv_aload_n hx hb dX5_keepStep_73 rfl (lv_at hl 0 rfl) ?_
        refine va_get (D := gD G) (ci := 10) (v := .int (nI tc)) (C := RX5) (T := TX5) (N := 6) hx hb hts fwX5 hown hK hP 0 rfl rfl 4 (by decide) (hts _ q144) (fun _ h9 => h9) rfl dX5_keepStep_74 ?_
        refine lv_iload_n hx hb dX5_keepStep_77 rfl (lv_at hl 2 rfl) ?_
        refine va_iast (D := gD G) (cA := gyI G) (n := 16) (f := hh) hx hb hK hP hD hS 4 0 rfl rfl (vp_in_nI (n := tc) (N := 16) (by omega) (by omega)) dX5_keepStep_78 (fun H locs hP hD hS => ?_)
        generalize upd hh (nI tc).toNatClampNeg (nI k) = f_17 at hP hD
        have hP : va_P (gD G) vwCl [(sv, .inr (10, [.ref b, .ref sr, .ref se, .int (nI (sc + 1)), .int (nI tc), .int oc])), (b, .inr (5, [.ref mm])), (mm, .inl (gyI G, 16, .inl f)), (sr, .inl (gyI G, 64, .inl f_11)), (se, .inl (gyI G, 16, .inl f_17))] H := hP
        have hD : va_D A [(sv, .inr (10, [.ref b, .ref sr, .ref se, .int (nI (sc + 1)), .int (nI tc), .int oc])), (b, .inr (5, [.ref mm])), (mm, .inl (gyI G, 16, .inl f)), (sr, .inl (gyI G, 64, .inl f_11)), (se, .inl (gyI G, 16, .inl f_17))] := hD
        refine lv_aload_n hx hb dX5_keepStep_79 rfl (lv_at hl 0 rfl) ?_
        refine lv_dup hx hb dX5_keepStep_80 rfl ?_
        refine va_get (D := gD G) (ci := 10) (v := .int (nI tc)) (C := RX5) (T := TX5) (N := 6) hx hb hts fwX5 hown hK hP 0 rfl rfl 4 (by decide) (hts _ q144) (fun _ h9 => h9) rfl dX5_keepStep_81 ?_
        refine lv_iconst (v := nI 1) hx hb dX5_keepStep_84 (by decide) ?_
        refine lv_iadd hx hb dX5_keepStep_85 ?_
        refine lv_toe (nI_add tc 1) ?_
        refine va_put (D := gD G) (ci := 10) (v := .int (nI (tc + 1))) (ty := .int) (C := RX5) (T := TX5) (N := 6) hx hb hts fwX5 tyX5 tyX5_ok nmX5 hown hK hP hD hS 0 rfl rfl 4 (by decide) (hts _ q144) (fun _ h9 => h9) rfl (by decide +kernel) rfl rfl (Nat.le_of_ble_eq_true rfl) dX5_keepStep_86 (fun H locs hP hD hS => ?_)
        have hP : va_P (gD G) vwCl [(sv, .inr (10, [.ref b, .ref sr, .ref se, .int (nI (sc + 1)), .int (nI (tc + 1)), .int oc])), (b, .inr (5, [.ref mm])), (mm, .inl (gyI G, 16, .inl f)), (sr, .inl (gyI G, 64, .inl f_11)), (se, .inl (gyI G, 16, .inl f_17))] H := hP
        have hD : va_D A [(sv, .inr (10, [.ref b, .ref sr, .ref se, .int (nI (sc + 1)), .int (nI (tc + 1)), .int oc])), (b, .inr (5, [.ref mm])), (mm, .inl (gyI G, 16, .inl f)), (sr, .inl (gyI G, 64, .inl f_11)), (se, .inl (gyI G, 16, .inl f_17))] := hD
        have hP9 := hP.sub (ws' := [(sv, .inr (10, [.ref b, .ref sr, .ref se, .int (nI (sc + 1)), .int (nI (tc + 1)), .int oc])), (b, .inr (5, [.ref mm])), (mm, .inl (gyI G, 16, .inl f)), (sr, .inl (gyI G, 64, .inl f_11)), (se, .inl (gyI G, 16, .inl f_17))]) [0, 1, 2, 3, 4] rfl
        have hD9 := hD.sub (ws' := [(sv, .inr (10, [.ref b, .ref sr, .ref se, .int (nI (sc + 1)), .int (nI (tc + 1)), .int oc])), (b, .inr (5, [.ref mm])), (mm, .inl (gyI G, 16, .inl f)), (sr, .inl (gyI G, 64, .inl f_11)), (se, .inl (gyI G, 16, .inl f_17))]) [0, 1, 2, 3, 4] (by decide) rfl
        subst hQ
        exact W.vret hx hb hr (fun t ht hW => ⟨⟨(f_11, f_17, (sc + 1), (tc + 1)), rfl, ⟨(show (sc + 1) ≤ 64 by omega), (show (tc + 1) ≤ 16 by omega)⟩, by rw [ht]; exact hP9, hD9⟩, hS.F ht⟩) hS.2.2 dX5_keepStep_89
set_option maxHeartbeats 4000000 in
set_option maxRecDepth 100000 in
theorem c_X5_takeOneAway (l : Launch) (G : GG) (sv : Nat) (b : Nat) (mm : Nat) (sr : Nat) (se : Nat) (f : Nat → Int32) (g : Nat → Int32) (hh : Nat → Int32) (sc : Nat) (tc : Nat) (oc : Int32) (pz : Nat) (gr : Nat) (mr : Nat) (cg : Nat) (so : Nat) (sh : Nat) (s1 : Int32) (s2 : Int32) (gv : Nat → Int32) (hi : Nat) (hsc : sc ≤ 64) (htc : tc ≤ 16) (hhi : hi < 4) : Mi l G yX5_takeOneAway cX5_takeOneAway 6 (some .boolean) ({ frames := 3, cells := 0, slots := 0, locals := 75 } : Room) [.ref sv, .ref pz, .int (nI hi)] [(sv, .inr (10, [.ref b, .ref sr, .ref se, .int (nI sc), .int (nI tc), .int oc])), (b, .inr (5, [.ref mm])), (mm, .inl (gyI G, 16, .inl f)), (sr, .inl (gyI G, 64, .inl g)), (se, .inl (gyI G, 16, .inl hh)), (pz, .inr (8, [.ref gr, .ref mr, .ref cg, .ref so, .ref sh, .int s1, .int s2])), (gr, .inl (gyI G, 16, .inl gv))] (fun (r : Int32) (u : (Nat → Int32) × (Nat → Int32) × (Nat → Int32) × Nat × Nat) => u.2.2.2.1 ≤ 64 ∧ u.2.2.2.2 ≤ 16) (fun (u : (Nat → Int32) × (Nat → Int32) × (Nat → Int32) × Nat × Nat) => [(sv, .inr (10, [.ref b, .ref sr, .ref se, .int (nI u.2.2.2.1), .int (nI u.2.2.2.2), .int oc])), (b, .inr (5, [.ref mm])), (mm, .inl (gyI G, 16, .inl u.1)), (sr, .inl (gyI G, 64, .inl u.2.1)), (se, .inl (gyI G, 16, .inl u.2.2.1)), (pz, .inr (8, [.ref gr, .ref mr, .ref cg, .ref so, .ref sh, .int s1, .int s2])), (gr, .inl (gyI G, 16, .inl gv))]) := by
  intro sz
  refine Met.ofW (cc := cX5_takeOneAway) (maxL := 6) (ret := (some .boolean)) (by decide) rfl ?_
  intro p e s m args below meth c s₁ B9 hml hv
  obtain ⟨rfl, hsz, hP, hK, hD0, hE⟩ := hv
  have hx := B9.exec
  have hb := B9.bytes
  have hr := B9.returns
  have hts : ∀ w ∈ WW, w.before ([.ref sv, .ref pz, .int (nI hi)] : List Value).toArray s = true := fun w h => atoms_spec (ws := .code yX5_takeOneAway cX5_takeOneAway 6 (some .boolean) :: WW) B9.pre w (List.mem_cons_of_mem _ h)
  have hown : s.vm.findClass RX5 = some m.cls := findClass_of_methodNamed B9.named
  subst hsz
  have hD := hD0.self (sz := s.heap.size)
  generalize hAe : va_A [(sv, .inr (10, [.ref b, .ref sr, .ref se, .int (nI sc), .int (nI tc), .int oc])), (b, .inr (5, [.ref mm])), (mm, .inl (gyI G, 16, .inl f)), (sr, .inl (gyI G, 64, .inl g)), (se, .inl (gyI G, 16, .inl hh)), (pz, .inr (8, [.ref gr, .ref mr, .ref cg, .ref so, .ref sh, .int s1, .int s2])), (gr, .inl (gyI G, 16, .inl gv))] s.heap.size = A at hD hE ⊢
  have hA : ∀ q : Nat, s.heap.size ≤ q → A q := fun q h => by rw [← hAe]; exact Or.inr h
  have hl := lv_entry ([.ref sv, .ref pz, .int (nI hi)]) (n := 6) (Nat.le_of_ble_eq_true rfl)
  rw [lg_entry_eq]
  generalize (lg_sl ([.ref sv, .ref pz, .int (nI hi)]) ++ List.replicate (6 - (lg_sl ([.ref sv, .ref pz, .int (nI hi)])).length) Slot.unset).toArray = ls at hl ⊢
  have hl : lv_has ls 6 [(0, .ref sv), (1, .ref pz), (2, .int (nI hi))] := hl
  refine qgen (fun Q hQ => ?_)
  refine hgen (fun H locs hP hD hS => ?_) hP hD
  refine lv_iconst (v := nI 0) hx hb dX5_takeOneAway_0 (by decide) ?_
  refine lv_istore_n (lv' := [(3, .int (nI 0)), (0, .ref sv), (1, .ref pz), (2, .int (nI hi))]) hx hb dX5_takeOneAway_1 rfl hl (by decide) rfl (fun ls hl => ?_)
  have cut_2_1 : ∀ (n9 : Nat) (rl : Nat) (hrl : rl ≤ hi + 1) (hm9 : hi + 1 - rl < n9) (H : Heap) (locs : List Loc), va_P (gD G) vwCl [(sv, .inr (10, [.ref b, .ref sr, .ref se, .int (nI sc), .int (nI tc), .int oc])), (b, .inr (5, [.ref mm])), (mm, .inl (gyI G, 16, .inl f)), (sr, .inl (gyI G, 64, .inl g)), (se, .inl (gyI G, 16, .inl hh)), (pz, .inr (8, [.ref gr, .ref mr, .ref cg, .ref so, .ref sh, .int s1, .int s2])), (gr, .inl (gyI G, 16, .inl gv))] H → va_D A [(sv, .inr (10, [.ref b, .ref sr, .ref se, .int (nI sc), .int (nI tc), .int oc])), (b, .inr (5, [.ref mm])), (mm, .inl (gyI G, 16, .inl f)), (sr, .inl (gyI G, 64, .inl g)), (se, .inl (gyI G, 16, .inl hh)), (pz, .inr (8, [.ref gr, .ref mr, .ref cg, .ref so, .ref sh, .int s1, .int s2])), (gr, .inl (gyI G, 16, .inl gv))] → va_S A s.heap H locs → ∀ (ls : Array Slot), lv_has ls 6 [(0, .ref sv), (1, .ref pz), (2, .int (nI hi)), (3, .int (nI rl))] → W p l e ({ frames := 3, cells := 0, slots := 0, locals := 75 } : Room) s m ([.ref sv, .ref pz, .int (nI hi)] : List Value).toArray below meth c H locs 0 0 Q (F0 m 2 ls []) := by
    intro n9
    induction n9 with
    | zero =>
      intro rl hrl hm9
      exact absurd hm9 (Nat.not_lt_zero _)
    | succ n9 ih_2_1 =>
      intro rl hrl hm9 H locs hP hD hS ls hl
      refine lv_iload_n hx hb dX5_takeOneAway_2 rfl (lv_at hl 3 rfl) ?_
      refine lv_iload_n hx hb dX5_takeOneAway_3 rfl (lv_at hl 2 rfl) ?_
      refine lv_icmp_gt (tgt := 96) hx hb dX5_takeOneAway_4 (by decide) (fun c_1 => ?_) (fun c_1 => ?_)
      · skip
        have c_1 : hi < rl := (nI_ltI (a := hi) (b := rl) (by omega) (by omega)).mp c_1
        refine lv_iconst (v := nI 0) hx hb dX5_takeOneAway_96 (by decide) ?_
        have hP9 := hP.sub (ws' := [(sv, .inr (10, [.ref b, .ref sr, .ref se, .int (nI sc), .int (nI tc), .int oc])), (b, .inr (5, [.ref mm])), (mm, .inl (gyI G, 16, .inl f)), (sr, .inl (gyI G, 64, .inl g)), (se, .inl (gyI G, 16, .inl hh)), (pz, .inr (8, [.ref gr, .ref mr, .ref cg, .ref so, .ref sh, .int s1, .int s2])), (gr, .inl (gyI G, 16, .inl gv))]) [0, 1, 2, 3, 4, 5, 6] rfl
        have hD9 := hD.sub (ws' := [(sv, .inr (10, [.ref b, .ref sr, .ref se, .int (nI sc), .int (nI tc), .int oc])), (b, .inr (5, [.ref mm])), (mm, .inl (gyI G, 16, .inl f)), (sr, .inl (gyI G, 64, .inl g)), (se, .inl (gyI G, 16, .inl hh)), (pz, .inr (8, [.ref gr, .ref mr, .ref cg, .ref so, .ref sh, .int s1, .int s2])), (gr, .inl (gyI G, 16, .inl gv))]) [0, 1, 2, 3, 4, 5, 6] (by decide) rfl
        subst hQ
        exact W.zret (v := nI 0) hx hb hr (by decide) (fun t ht hW => ⟨⟨nI 0, (f, g, hh, sc, tc), rfl, ⟨(show sc ≤ 64 by omega), (show tc ≤ 16 by omega)⟩, by rw [ht]; exact hP9, hD9⟩, hS.F ht⟩) hS.2.2 dX5_takeOneAway_97
      · skip
        have c_1 : ¬ hi < rl := fun z => c_1 ((nI_ltI (a := hi) (b := rl) (by omega) (by omega)).mpr z)
        refine lv_iconst (v := nI 0) hx hb dX5_takeOneAway_7 (by decide) ?_
        refine lv_istore (lv' := [(4, .int (nI 0)), (0, .ref sv), (1, .ref pz), (2, .int (nI hi)), (3, .int (nI rl))]) hx hb dX5_takeOneAway_8 hl (by decide) rfl (fun ls hl => ?_)
        have cut_10_2 : ∀ (n9 : Nat) (k : Nat) (hk : k ≤ 16) (hm9 : 16 - k < n9) (H : Heap) (locs : List Loc), va_P (gD G) vwCl [(sv, .inr (10, [.ref b, .ref sr, .ref se, .int (nI sc), .int (nI tc), .int oc])), (b, .inr (5, [.ref mm])), (mm, .inl (gyI G, 16, .inl f)), (sr, .inl (gyI G, 64, .inl g)), (se, .inl (gyI G, 16, .inl hh)), (pz, .inr (8, [.ref gr, .ref mr, .ref cg, .ref so, .ref sh, .int s1, .int s2])), (gr, .inl (gyI G, 16, .inl gv))] H → va_D A [(sv, .inr (10, [.ref b, .ref sr, .ref se, .int (nI sc), .int (nI tc), .int oc])), (b, .inr (5, [.ref mm])), (mm, .inl (gyI G, 16, .inl f)), (sr, .inl (gyI G, 64, .inl g)), (se, .inl (gyI G, 16, .inl hh)), (pz, .inr (8, [.ref gr, .ref mr, .ref cg, .ref so, .ref sh, .int s1, .int s2])), (gr, .inl (gyI G, 16, .inl gv))] → va_S A s.heap H locs → ∀ (ls : Array Slot), lv_has ls 6 [(0, .ref sv), (1, .ref pz), (2, .int (nI hi)), (3, .int (nI rl)), (4, .int (nI k))] → W p l e ({ frames := 3, cells := 0, slots := 0, locals := 75 } : Room) s m ([.ref sv, .ref pz, .int (nI hi)] : List Value).toArray below meth c H locs 0 0 Q (F0 m 10 ls []) := by
          intro n9
          induction n9 with
          | zero =>
            intro k hk hm9
            exact absurd hm9 (Nat.not_lt_zero _)
          | succ n9 ih_10_2 =>
            intro k hk hm9 H locs hP hD hS ls hl
            refine lv_iload hx hb dX5_takeOneAway_10 (lv_at hl 4 rfl) ?_
            refine lv_bipush (v := nI 16) hx hb dX5_takeOneAway_12 (by decide) ?_
            refine lv_icmp_ge (tgt := 90) hx hb dX5_takeOneAway_14 (by decide) (fun c_2 => ?_) (fun c_2 => ?_)
            · skip
              have c_2 : 16 ≤ k := (nI_leI (a := 16) (b := k) (by omega) (by omega)).mp c_2
              refine lv_iinc (v := nI (rl + 1)) (lv' := [(3, .int (nI (rl + 1))), (0, .ref sv), (1, .ref pz), (2, .int (nI hi)), (4, .int (nI k))]) hx hb dX5_takeOneAway_90 hl (k := 3) rfl (nI_add rl 1) (by decide) rfl (fun ls hl => ?_)
              refine lv_goto (tgt := 2) hx hb dX5_takeOneAway_93 (by decide) ?_
              exact ih_2_1 (rl + 1) (by omega) (by omega) _ _ (hP.sub [0, 1, 2, 3, 4, 5, 6] rfl) (hD.sub [0, 1, 2, 3, 4, 5, 6] (by decide) rfl) hS ls (lv_sub hl [1, 2, 3, 0] rfl)
            · skip
              have c_2 : ¬ 16 ≤ k := fun z => c_2 ((nI_leI (a := 16) (b := k) (by omega) (by omega)).mpr z)
              refine lv_iconst (v := nI 1) hx hb dX5_takeOneAway_17 (by decide) ?_
              refine lv_istore (lv' := [(5, .int (nI 1)), (0, .ref sv), (1, .ref pz), (2, .int (nI hi)), (3, .int (nI rl)), (4, .int (nI k))]) hx hb dX5_takeOneAway_18 hl (by decide) rfl (fun ls hl => ?_)
              have cut_20_3 : ∀ (n9 : Nat) (v : Nat) (hv : v ≤ 5) (hm9 : 5 - v < n9) (H : Heap) (locs : List Loc), va_P (gD G) vwCl [(sv, .inr (10, [.ref b, .ref sr, .ref se, .int (nI sc), .int (nI tc), .int oc])), (b, .inr (5, [.ref mm])), (mm, .inl (gyI G, 16, .inl f)), (sr, .inl (gyI G, 64, .inl g)), (se, .inl (gyI G, 16, .inl hh)), (pz, .inr (8, [.ref gr, .ref mr, .ref cg, .ref so, .ref sh, .int s1, .int s2])), (gr, .inl (gyI G, 16, .inl gv))] H → va_D A [(sv, .inr (10, [.ref b, .ref sr, .ref se, .int (nI sc), .int (nI tc), .int oc])), (b, .inr (5, [.ref mm])), (mm, .inl (gyI G, 16, .inl f)), (sr, .inl (gyI G, 64, .inl g)), (se, .inl (gyI G, 16, .inl hh)), (pz, .inr (8, [.ref gr, .ref mr, .ref cg, .ref so, .ref sh, .int s1, .int s2])), (gr, .inl (gyI G, 16, .inl gv))] → va_S A s.heap H locs → ∀ (ls : Array Slot), lv_has ls 6 [(0, .ref sv), (1, .ref pz), (2, .int (nI hi)), (3, .int (nI rl)), (4, .int (nI k)), (5, .int (nI v))] → W p l e ({ frames := 3, cells := 0, slots := 0, locals := 75 } : Room) s m ([.ref sv, .ref pz, .int (nI hi)] : List Value).toArray below meth c H locs 0 0 Q (F0 m 20 ls []) := by
                intro n9
                induction n9 with
                | zero =>
                  intro v hv hm9
                  exact absurd hm9 (Nat.not_lt_zero _)
                | succ n9 ih_20_3 =>
                  intro v hv hm9 H locs hP hD hS ls hl
                  refine lv_iload hx hb dX5_takeOneAway_20 (lv_at hl 5 rfl) ?_
                  refine lv_iconst (v := nI 4) hx hb dX5_takeOneAway_22 (by decide) ?_
                  refine lv_icmp_gt (tgt := 84) hx hb dX5_takeOneAway_23 (by decide) (fun c_3 => ?_) (fun c_3 => ?_)
                  · skip
                    have c_3 : 4 < v := (nI_ltI (a := 4) (b := v) (by omega) (by omega)).mp c_3
                    refine lv_iinc (v := nI (k + 1)) (lv' := [(4, .int (nI (k + 1))), (0, .ref sv), (1, .ref pz), (2, .int (nI hi)), (3, .int (nI rl)), (5, .int (nI v))]) hx hb dX5_takeOneAway_84 hl (k := 4) rfl (nI_add k 1) (by decide) rfl (fun ls hl => ?_)
                    refine lv_goto (tgt := 10) hx hb dX5_takeOneAway_87 (by decide) ?_
                    exact ih_10_2 (k + 1) (by omega) (by omega) _ _ (hP.sub [0, 1, 2, 3, 4, 5, 6] rfl) (hD.sub [0, 1, 2, 3, 4, 5, 6] (by decide) rfl) hS ls (lv_sub hl [1, 2, 3, 4, 0] rfl)
                  · skip
                    have c_3 : ¬ 4 < v := fun z => c_3 ((nI_ltI (a := 4) (b := v) (by omega) (by omega)).mpr z)
                    refine lv_aload_n hx hb dX5_takeOneAway_26 rfl (lv_at hl 0 rfl) ?_
                    refine va_get (D := gD G) (ci := 10) (v := .ref b) (C := RX5) (T := TX5) (N := 6) hx hb hts fwX5 hown hK hP 0 rfl rfl 0 (by decide) (hts _ q136) (fun _ h9 => h9) rfl dX5_takeOneAway_27 ?_
                    refine lv_iload hx hb dX5_takeOneAway_30 (lv_at hl 4 rfl) ?_
                    refine lv_iload hx hb dX5_takeOneAway_32 (lv_at hl 5 rfl) ?_
                    refine fin_i hP hD hS hA [1, 2] [0, 3, 4, 5, 6] (wr := [(sv, .inr (10, [.ref b, .ref sr, .ref se, .int (nI sc), .int (nI tc), .int oc])), (sr, .inl (gyI G, 64, .inl g)), (se, .inl (gyI G, 16, .inl hh)), (pz, .inr (8, [.ref gr, .ref mr, .ref cg, .ref so, .ref sh, .int s1, .int s2])), (gr, .inl (gyI G, 16, .inl gv))]) rfl rfl (by decide) (by decide) (va_runVN (As := [.int (nI k), .int (nI v)]) (rest := []) ⟨hx, hb, hml, hown, hts⟩ (c_X0_holds l G b mm f k (nI v) (by omega) H.size) ⟨(va_cnB 2 hts (gI q252) rfl rfl rfl (hE.1.1 _ nq249) (hts _ q50) (by decide +kernel) ⟨Nat.le_of_ble_eq_true rfl, Nat.le_of_ble_eq_true rfl⟩), hts _ q251, hts _ q4⟩ (preV (q0 := 1) (ci := 5) hK hE hP hD hS hA [1, 2] rfl (by decide) rfl rfl) rfl rfl hl.1 rfl (lv_room (Nat.le_of_ble_eq_true rfl)) dX5_takeOneAway_34 ⟨Nat.le_of_ble_eq_true rfl, Nat.le_of_ble_eq_true rfl⟩) (fun r_5 u9 hw_4 H locs hP hD hS => ?_)
                    have hP : va_P (gD G) vwCl [(sv, .inr (10, [.ref b, .ref sr, .ref se, .int (nI sc), .int (nI tc), .int oc])), (sr, .inl (gyI G, 64, .inl g)), (se, .inl (gyI G, 16, .inl hh)), (pz, .inr (8, [.ref gr, .ref mr, .ref cg, .ref so, .ref sh, .int s1, .int s2])), (gr, .inl (gyI G, 16, .inl gv)), (b, .inr (5, [.ref mm])), (mm, .inl (gyI G, 16, .inl f))] H := hP
                    have hD : va_D A [(sv, .inr (10, [.ref b, .ref sr, .ref se, .int (nI sc), .int (nI tc), .int oc])), (sr, .inl (gyI G, 64, .inl g)), (se, .inl (gyI G, 16, .inl hh)), (pz, .inr (8, [.ref gr, .ref mr, .ref cg, .ref so, .ref sh, .int s1, .int s2])), (gr, .inl (gyI G, 16, .inl gv)), (b, .inr (5, [.ref mm])), (mm, .inl (gyI G, 16, .inl f))] := hD
                    refine lv_if_eq (tgt := 78) hx hb dX5_takeOneAway_37 (by decide) (fun c_6 => ?_) (fun c_6 => ?_)
                    · skip
                      refine lv_iinc (v := nI (v + 1)) (lv' := [(5, .int (nI (v + 1))), (0, .ref sv), (1, .ref pz), (2, .int (nI hi)), (3, .int (nI rl)), (4, .int (nI k))]) hx hb dX5_takeOneAway_78 hl (k := 5) rfl (nI_add v 1) (by decide) rfl (fun ls hl => ?_)
                      refine lv_goto (tgt := 20) hx hb dX5_takeOneAway_81 (by decide) ?_
                      exact ih_20_3 (v + 1) (by omega) (by omega) _ _ (hP.sub [0, 5, 6, 1, 2, 3, 4] rfl) (hD.sub [0, 5, 6, 1, 2, 3, 4] (by decide) rfl) hS ls (lv_sub hl [1, 2, 3, 4, 5, 0] rfl)
                    · skip
                      refine lv_aload_n hx hb dX5_takeOneAway_40 rfl (lv_at hl 0 rfl) ?_
                      refine va_get (D := gD G) (ci := 10) (v := .ref b) (C := RX5) (T := TX5) (N := 6) hx hb hts fwX5 hown hK hP 0 rfl rfl 0 (by decide) (hts _ q136) (fun _ h9 => h9) rfl dX5_takeOneAway_41 ?_
                      refine lv_iload_n hx hb dX5_takeOneAway_44 rfl (lv_at hl 3 rfl) ?_
                      refine lv_aload_n hx hb dX5_takeOneAway_45 rfl (lv_at hl 1 rfl) ?_
                      refine lv_iload hx hb dX5_takeOneAway_46 (lv_at hl 4 rfl) ?_
                      refine lv_iload hx hb dX5_takeOneAway_48 (lv_at hl 5 rfl) ?_
                      refine fin_i hP hD hS hA [5, 6, 3, 4] [0, 1, 2] (wr := [(sv, .inr (10, [.ref b, .ref sr, .ref se, .int (nI sc), .int (nI tc), .int oc])), (sr, .inl (gyI G, 64, .inl g)), (se, .inl (gyI G, 16, .inl hh))]) rfl rfl (by decide) (by decide) (va_runVN (As := [.int (nI rl), .ref pz, .int (nI k), .int (nI v)]) (rest := []) ⟨hx, hb, hml, hown, hts⟩ (c_X0_yieldsTo l G b mm f pz gr mr cg so sh s1 s2 gv rl k (nI v) (by omega) (by omega) H.size) ⟨(va_cnB 4 hts (gI q256) rfl rfl rfl (hE.1.1 _ nq253) (hts _ q50) (by decide +kernel) ⟨Nat.le_of_ble_eq_true rfl, Nat.le_of_ble_eq_true rfl⟩), hts _ q255, hts _ q5⟩ (preV (q0 := 5) (ci := 5) hK hE hP hD hS hA [5, 6, 3, 4] rfl (by decide) rfl rfl) rfl rfl hl.1 rfl (lv_room (Nat.le_of_ble_eq_true rfl)) dX5_takeOneAway_50 ⟨Nat.le_of_ble_eq_true rfl, Nat.le_of_ble_eq_true rfl⟩) (fun r_8 u9 hw_7 H locs hP hD hS => ?_)
                      have hP : va_P (gD G) vwCl [(sv, .inr (10, [.ref b, .ref sr, .ref se, .int (nI sc), .int (nI tc), .int oc])), (sr, .inl (gyI G, 64, .inl g)), (se, .inl (gyI G, 16, .inl hh)), (b, .inr (5, [.ref mm])), (mm, .inl (gyI G, 16, .inl f)), (pz, .inr (8, [.ref gr, .ref mr, .ref cg, .ref so, .ref sh, .int s1, .int s2])), (gr, .inl (gyI G, 16, .inl gv))] H := hP
                      have hD : va_D A [(sv, .inr (10, [.ref b, .ref sr, .ref se, .int (nI sc), .int (nI tc), .int oc])), (sr, .inl (gyI G, 64, .inl g)), (se, .inl (gyI G, 16, .inl hh)), (b, .inr (5, [.ref mm])), (mm, .inl (gyI G, 16, .inl f)), (pz, .inr (8, [.ref gr, .ref mr, .ref cg, .ref so, .ref sh, .int s1, .int s2])), (gr, .inl (gyI G, 16, .inl gv))] := hD
                      refine lv_if_eq (tgt := 78) hx hb dX5_takeOneAway_53 (by decide) (fun c_9 => ?_) (fun c_9 => ?_)
                      · skip
                        refine lv_iinc (v := nI (v + 1)) (lv' := [(5, .int (nI (v + 1))), (0, .ref sv), (1, .ref pz), (2, .int (nI hi)), (3, .int (nI rl)), (4, .int (nI k))]) hx hb dX5_takeOneAway_78 hl (k := 5) rfl (nI_add v 1) (by decide) rfl (fun ls hl => ?_)
                        refine lv_goto (tgt := 20) hx hb dX5_takeOneAway_81 (by decide) ?_
                        exact ih_20_3 (v + 1) (by omega) (by omega) _ _ (hP.sub [0, 3, 4, 1, 2, 5, 6] rfl) (hD.sub [0, 3, 4, 1, 2, 5, 6] (by decide) rfl) hS ls (lv_sub hl [1, 2, 3, 4, 5, 0] rfl)
                      · skip
                        refine lv_aload_n hx hb dX5_takeOneAway_56 rfl (lv_at hl 0 rfl) ?_
                        refine va_get (D := gD G) (ci := 10) (v := .ref b) (C := RX5) (T := TX5) (N := 6) hx hb hts fwX5 hown hK hP 0 rfl rfl 0 (by decide) (hts _ q136) (fun _ h9 => h9) rfl dX5_takeOneAway_57 ?_
                        refine lv_iload hx hb dX5_takeOneAway_60 (lv_at hl 4 rfl) ?_
                        refine lv_iload hx hb dX5_takeOneAway_62 (lv_at hl 5 rfl) ?_
                        refine fin_v hP hD hS hA [3, 4] [0, 1, 2, 5, 6] (wr := [(sv, .inr (10, [.ref b, .ref sr, .ref se, .int (nI sc), .int (nI tc), .int oc])), (sr, .inl (gyI G, 64, .inl g)), (se, .inl (gyI G, 16, .inl hh)), (pz, .inr (8, [.ref gr, .ref mr, .ref cg, .ref so, .ref sh, .int s1, .int s2])), (gr, .inl (gyI G, 16, .inl gv))]) rfl rfl (by decide) (by decide) (va_runVN (As := [.int (nI k), .int (nI v)]) (rest := []) ⟨hx, hb, hml, hown, hts⟩ (c_X0_takeAway l G b mm f k (nI v) (by omega) H.size) ⟨(va_cnB 2 hts (gI q305) rfl rfl rfl (hE.1.1 _ nq302) (hts _ q50) (by decide +kernel) ⟨Nat.le_of_ble_eq_true rfl, Nat.le_of_ble_eq_true rfl⟩), hts _ q304, hts _ q11⟩ (preV (q0 := 3) (ci := 5) hK hE hP hD hS hA [3, 4] rfl (by decide) rfl rfl) rfl rfl hl.1 rfl (lv_room (Nat.le_of_ble_eq_true rfl)) dX5_takeOneAway_64 ⟨Nat.le_of_ble_eq_true rfl, Nat.le_of_ble_eq_true rfl⟩) (fun u9 hw_11 H locs hP hD hS => ?_)
                        obtain ⟨f2_10, rfl⟩ : ∃ z, z = u9 := ⟨_, rfl⟩
                        have hP : va_P (gD G) vwCl [(sv, .inr (10, [.ref b, .ref sr, .ref se, .int (nI sc), .int (nI tc), .int oc])), (sr, .inl (gyI G, 64, .inl g)), (se, .inl (gyI G, 16, .inl hh)), (pz, .inr (8, [.ref gr, .ref mr, .ref cg, .ref so, .ref sh, .int s1, .int s2])), (gr, .inl (gyI G, 16, .inl gv)), (b, .inr (5, [.ref mm])), (mm, .inl (gyI G, 16, .inl f2_10))] H := hP
                        have hD : va_D A [(sv, .inr (10, [.ref b, .ref sr, .ref se, .int (nI sc), .int (nI tc), .int oc])), (sr, .inl (gyI G, 64, .inl g)), (se, .inl (gyI G, 16, .inl hh)), (pz, .inr (8, [.ref gr, .ref mr, .ref cg, .ref so, .ref sh, .int s1, .int s2])), (gr, .inl (gyI G, 16, .inl gv)), (b, .inr (5, [.ref mm])), (mm, .inl (gyI G, 16, .inl f2_10))] := hD
                        refine lv_aload_n hx hb dX5_takeOneAway_67 rfl (lv_at hl 0 rfl) ?_
                        refine lv_iload_n hx hb dX5_takeOneAway_68 rfl (lv_at hl 3 rfl) ?_
                        refine lv_iload hx hb dX5_takeOneAway_69 (lv_at hl 4 rfl) ?_
                        refine lv_iload hx hb dX5_takeOneAway_71 (lv_at hl 5 rfl) ?_
                        refine fin_v hP hD hS hA [0, 5, 6, 1, 2] [3, 4] (wr := [(pz, .inr (8, [.ref gr, .ref mr, .ref cg, .ref so, .ref sh, .int s1, .int s2])), (gr, .inl (gyI G, 16, .inl gv))]) rfl rfl (by decide) (by decide) (va_runV (As := [.int (nI rl), .int (nI k), .int (nI v)]) (rest := []) ⟨hx, hb, hml, hown, hts⟩ (c_X5_keepStep l G sv b mm sr se f2_10 g hh sc tc oc (nI rl) k (nI v) (by omega) (by omega) (by omega) H.size) (cwV 3 hts (gV q306 q308 q12 q49 q309) rfl rfl rfl (by decide +kernel) ⟨Nat.le_of_ble_eq_true rfl, Nat.le_of_ble_eq_true rfl⟩) (preV (q0 := 0) (ci := 10) hK hE hP hD hS hA [0, 5, 6, 1, 2] rfl (by decide) rfl rfl) rfl rfl hl.1 rfl (lv_room (Nat.le_of_ble_eq_true rfl)) dX5_takeOneAway_73 ⟨Nat.le_of_ble_eq_true rfl, Nat.le_of_ble_eq_true rfl⟩) (fun u9 hw_17 H locs hP hD hS => ?_)
                        obtain ⟨g2_13, h2_14, sc2_15, tc2_16⟩ := u9
                        obtain ⟨hsc2_19, htc2_20⟩ := hw_17
                        have hsc2_19 : sc2_15 ≤ 64 := hsc2_19
                        have htc2_20 : tc2_16 ≤ 16 := htc2_20
                        have hP : va_P (gD G) vwCl [(pz, .inr (8, [.ref gr, .ref mr, .ref cg, .ref so, .ref sh, .int s1, .int s2])), (gr, .inl (gyI G, 16, .inl gv)), (sv, .inr (10, [.ref b, .ref sr, .ref se, .int (nI sc2_15), .int (nI tc2_16), .int oc])), (b, .inr (5, [.ref mm])), (mm, .inl (gyI G, 16, .inl f2_10)), (sr, .inl (gyI G, 64, .inl g2_13)), (se, .inl (gyI G, 16, .inl h2_14))] H := hP
                        have hD : va_D A [(pz, .inr (8, [.ref gr, .ref mr, .ref cg, .ref so, .ref sh, .int s1, .int s2])), (gr, .inl (gyI G, 16, .inl gv)), (sv, .inr (10, [.ref b, .ref sr, .ref se, .int (nI sc2_15), .int (nI tc2_16), .int oc])), (b, .inr (5, [.ref mm])), (mm, .inl (gyI G, 16, .inl f2_10)), (sr, .inl (gyI G, 64, .inl g2_13)), (se, .inl (gyI G, 16, .inl h2_14))] := hD
                        refine lv_iconst (v := nI 1) hx hb dX5_takeOneAway_76 (by decide) ?_
                        have hP9 := hP.sub (ws' := [(sv, .inr (10, [.ref b, .ref sr, .ref se, .int (nI sc2_15), .int (nI tc2_16), .int oc])), (b, .inr (5, [.ref mm])), (mm, .inl (gyI G, 16, .inl f2_10)), (sr, .inl (gyI G, 64, .inl g2_13)), (se, .inl (gyI G, 16, .inl h2_14)), (pz, .inr (8, [.ref gr, .ref mr, .ref cg, .ref so, .ref sh, .int s1, .int s2])), (gr, .inl (gyI G, 16, .inl gv))]) [2, 3, 4, 5, 6, 0, 1] rfl
                        have hD9 := hD.sub (ws' := [(sv, .inr (10, [.ref b, .ref sr, .ref se, .int (nI sc2_15), .int (nI tc2_16), .int oc])), (b, .inr (5, [.ref mm])), (mm, .inl (gyI G, 16, .inl f2_10)), (sr, .inl (gyI G, 64, .inl g2_13)), (se, .inl (gyI G, 16, .inl h2_14)), (pz, .inr (8, [.ref gr, .ref mr, .ref cg, .ref so, .ref sh, .int s1, .int s2])), (gr, .inl (gyI G, 16, .inl gv))]) [2, 3, 4, 5, 6, 0, 1] (by decide) rfl
                        subst hQ
                        exact W.zret (v := nI 1) hx hb hr (by decide) (fun t ht hW => ⟨⟨nI 1, (f2_10, g2_13, h2_14, sc2_15, tc2_16), rfl, ⟨(show sc2_15 ≤ 64 by omega), (show tc2_16 ≤ 16 by omega)⟩, by rw [ht]; exact hP9, hD9⟩, hS.F ht⟩) hS.2.2 dX5_takeOneAway_77
              exact cut_20_3 (5 - 1 + 1) 1 (by omega) (Nat.lt_succ_self _) _ _ (hP.sub [0, 1, 2, 3, 4, 5, 6] rfl) (hD.sub [0, 1, 2, 3, 4, 5, 6] (by decide) rfl) hS ls (lv_sub hl [1, 2, 3, 4, 5, 0] rfl)
        exact cut_10_2 (16 - 0 + 1) 0 (by omega) (Nat.lt_succ_self _) _ _ (hP.sub [0, 1, 2, 3, 4, 5, 6] rfl) (hD.sub [0, 1, 2, 3, 4, 5, 6] (by decide) rfl) hS ls (lv_sub hl [1, 2, 3, 4, 0] rfl)
  exact cut_2_1 (hi + 1 - 0 + 1) 0 (by omega) (Nat.lt_succ_self _) _ _ (hP.sub [0, 1, 2, 3, 4, 5, 6] rfl) (hD.sub [0, 1, 2, 3, 4, 5, 6] (by decide) rfl) hS ls (lv_sub hl [1, 2, 3, 0] rfl)
set_option maxHeartbeats 4000000 in
set_option maxRecDepth 100000 in
theorem c_X5_run (l : Launch) (G : GG) (sv : Nat) (b : Nat) (mm : Nat) (sr : Nat) (se : Nat) (f : Nat → Int32) (g : Nat → Int32) (hh : Nat → Int32) (sc : Nat) (tc : Nat) (oc : Int32) (pz : Nat) (gr : Nat) (mr : Nat) (cg : Nat) (so : Nat) (sh : Nat) (s1 : Int32) (s2 : Int32) (gv : Nat → Int32) (hi : Nat) (hsc : sc ≤ 64) (htc : tc ≤ 16) (hhi : hi < 4) : Mv l G yX5_run cX5_run 5 ({ frames := 4, cells := 0, slots := 0, locals := 100 } : Room) [.ref sv, .ref pz, .int (nI hi)] [(sv, .inr (10, [.ref b, .ref sr, .ref se, .int (nI sc), .int (nI tc), .int oc])), (b, .inr (5, [.ref mm])), (mm, .inl (gyI G, 16, .inl f)), (sr, .inl (gyI G, 64, .inl g)), (se, .inl (gyI G, 16, .inl hh)), (pz, .inr (8, [.ref gr, .ref mr, .ref cg, .ref so, .ref sh, .int s1, .int s2])), (gr, .inl (gyI G, 16, .inl gv))] (fun (u : (Nat → Int32) × (Nat → Int32) × (Nat → Int32) × Nat × Nat × Int32) => u.2.2.2.1 ≤ 64 ∧ u.2.2.2.2.1 ≤ 16) (fun (u : (Nat → Int32) × (Nat → Int32) × (Nat → Int32) × Nat × Nat × Int32) => [(sv, .inr (10, [.ref b, .ref sr, .ref se, .int (nI u.2.2.2.1), .int (nI u.2.2.2.2.1), .int u.2.2.2.2.2])), (b, .inr (5, [.ref mm])), (mm, .inl (gyI G, 16, .inl u.1)), (sr, .inl (gyI G, 64, .inl u.2.1)), (se, .inl (gyI G, 16, .inl u.2.2.1)), (pz, .inr (8, [.ref gr, .ref mr, .ref cg, .ref so, .ref sh, .int s1, .int s2])), (gr, .inl (gyI G, 16, .inl gv))]) := by
  intro sz
  refine Met.ofW (cc := cX5_run) (maxL := 5) (ret := none) (by decide) rfl ?_
  intro p e s m args below meth c s₁ B9 hml hv
  obtain ⟨rfl, hsz, hP, hK, hD0, hE⟩ := hv
  have hx := B9.exec
  have hb := B9.bytes
  have hr := B9.returns
  have hts : ∀ w ∈ WW, w.before ([.ref sv, .ref pz, .int (nI hi)] : List Value).toArray s = true := fun w h => atoms_spec (ws := .code yX5_run cX5_run 5 none :: WW) B9.pre w (List.mem_cons_of_mem _ h)
  have hown : s.vm.findClass RX5 = some m.cls := findClass_of_methodNamed B9.named
  subst hsz
  have hD := hD0.self (sz := s.heap.size)
  generalize hAe : va_A [(sv, .inr (10, [.ref b, .ref sr, .ref se, .int (nI sc), .int (nI tc), .int oc])), (b, .inr (5, [.ref mm])), (mm, .inl (gyI G, 16, .inl f)), (sr, .inl (gyI G, 64, .inl g)), (se, .inl (gyI G, 16, .inl hh)), (pz, .inr (8, [.ref gr, .ref mr, .ref cg, .ref so, .ref sh, .int s1, .int s2])), (gr, .inl (gyI G, 16, .inl gv))] s.heap.size = A at hD hE ⊢
  have hA : ∀ q : Nat, s.heap.size ≤ q → A q := fun q h => by rw [← hAe]; exact Or.inr h
  have hl := lv_entry ([.ref sv, .ref pz, .int (nI hi)]) (n := 5) (Nat.le_of_ble_eq_true rfl)
  rw [lg_entry_eq]
  generalize (lg_sl ([.ref sv, .ref pz, .int (nI hi)]) ++ List.replicate (5 - (lg_sl ([.ref sv, .ref pz, .int (nI hi)])).length) Slot.unset).toArray = ls at hl ⊢
  have hl : lv_has ls 5 [(0, .ref sv), (1, .ref pz), (2, .int (nI hi))] := hl
  refine qgen (fun Q hQ => ?_)
  refine hgen (fun H locs hP hD hS => ?_) hP hD
  refine lv_aload_n hx hb dX5_run_0 rfl (lv_at hl 0 rfl) ?_
  refine va_get (D := gD G) (ci := 10) (v := .ref b) (C := RX5) (T := TX5) (N := 6) hx hb hts fwX5 hown hK hP 0 rfl rfl 0 (by decide) (hts _ q136) (fun _ h9 => h9) rfl dX5_run_1 ?_
  refine fin_v hP hD hS hA [1, 2] [0, 3, 4, 5, 6] (wr := [(sv, .inr (10, [.ref b, .ref sr, .ref se, .int (nI sc), .int (nI tc), .int oc])), (sr, .inl (gyI G, 64, .inl g)), (se, .inl (gyI G, 16, .inl hh)), (pz, .inr (8, [.ref gr, .ref mr, .ref cg, .ref so, .ref sh, .int s1, .int s2])), (gr, .inl (gyI G, 16, .inl gv))]) rfl rfl (by decide) (by decide) (va_runVN (As := []) (rest := []) ⟨hx, hb, hml, hown, hts⟩ (c_X0_fill l G b mm f H.size) ⟨(va_cnB 0 hts (gI q244) rfl rfl rfl (hE.1.1 _ nq241) (hts _ q50) (by decide +kernel) ⟨Nat.le_of_ble_eq_true rfl, Nat.le_of_ble_eq_true rfl⟩), hts _ q243, hts _ q2⟩ (preV (q0 := 1) (ci := 5) hK hE hP hD hS hA [1, 2] rfl (by decide) rfl rfl) rfl rfl hl.1 rfl (lv_room (Nat.le_of_ble_eq_true rfl)) dX5_run_4 ⟨Nat.le_of_ble_eq_true rfl, Nat.le_of_ble_eq_true rfl⟩) (fun u9 hw_2 H locs hP hD hS => ?_)
  obtain ⟨f2_1, rfl⟩ : ∃ z, z = u9 := ⟨_, rfl⟩
  have hP : va_P (gD G) vwCl [(sv, .inr (10, [.ref b, .ref sr, .ref se, .int (nI sc), .int (nI tc), .int oc])), (sr, .inl (gyI G, 64, .inl g)), (se, .inl (gyI G, 16, .inl hh)), (pz, .inr (8, [.ref gr, .ref mr, .ref cg, .ref so, .ref sh, .int s1, .int s2])), (gr, .inl (gyI G, 16, .inl gv)), (b, .inr (5, [.ref mm])), (mm, .inl (gyI G, 16, .inl f2_1))] H := hP
  have hD : va_D A [(sv, .inr (10, [.ref b, .ref sr, .ref se, .int (nI sc), .int (nI tc), .int oc])), (sr, .inl (gyI G, 64, .inl g)), (se, .inl (gyI G, 16, .inl hh)), (pz, .inr (8, [.ref gr, .ref mr, .ref cg, .ref so, .ref sh, .int s1, .int s2])), (gr, .inl (gyI G, 16, .inl gv)), (b, .inr (5, [.ref mm])), (mm, .inl (gyI G, 16, .inl f2_1))] := hD
  refine lv_aload_n hx hb dX5_run_7 rfl (lv_at hl 0 rfl) ?_
  refine lv_iconst (v := nI 0) hx hb dX5_run_8 (by decide) ?_
  refine va_put (D := gD G) (ci := 10) (v := .int (nI 0)) (ty := .int) (C := RX5) (T := TX5) (N := 6) hx hb hts fwX5 tyX5 tyX5_ok nmX5 hown hK hP hD hS 0 rfl rfl 3 (by decide) (hts _ q142) (fun _ h9 => h9) rfl (by decide +kernel) rfl rfl (Nat.le_of_ble_eq_true rfl) dX5_run_9 (fun H locs hP hD hS => ?_)
  have hP : va_P (gD G) vwCl [(sv, .inr (10, [.ref b, .ref sr, .ref se, .int (nI 0), .int (nI tc), .int oc])), (sr, .inl (gyI G, 64, .inl g)), (se, .inl (gyI G, 16, .inl hh)), (pz, .inr (8, [.ref gr, .ref mr, .ref cg, .ref so, .ref sh, .int s1, .int s2])), (gr, .inl (gyI G, 16, .inl gv)), (b, .inr (5, [.ref mm])), (mm, .inl (gyI G, 16, .inl f2_1))] H := hP
  have hD : va_D A [(sv, .inr (10, [.ref b, .ref sr, .ref se, .int (nI 0), .int (nI tc), .int oc])), (sr, .inl (gyI G, 64, .inl g)), (se, .inl (gyI G, 16, .inl hh)), (pz, .inr (8, [.ref gr, .ref mr, .ref cg, .ref so, .ref sh, .int s1, .int s2])), (gr, .inl (gyI G, 16, .inl gv)), (b, .inr (5, [.ref mm])), (mm, .inl (gyI G, 16, .inl f2_1))] := hD
  refine lv_aload_n hx hb dX5_run_12 rfl (lv_at hl 0 rfl) ?_
  refine lv_iconst (v := nI 0) hx hb dX5_run_13 (by decide) ?_
  refine va_put (D := gD G) (ci := 10) (v := .int (nI 0)) (ty := .int) (C := RX5) (T := TX5) (N := 6) hx hb hts fwX5 tyX5 tyX5_ok nmX5 hown hK hP hD hS 0 rfl rfl 4 (by decide) (hts _ q144) (fun _ h9 => h9) rfl (by decide +kernel) rfl rfl (Nat.le_of_ble_eq_true rfl) dX5_run_14 (fun H locs hP hD hS => ?_)
  have hP : va_P (gD G) vwCl [(sv, .inr (10, [.ref b, .ref sr, .ref se, .int (nI 0), .int (nI 0), .int oc])), (sr, .inl (gyI G, 64, .inl g)), (se, .inl (gyI G, 16, .inl hh)), (pz, .inr (8, [.ref gr, .ref mr, .ref cg, .ref so, .ref sh, .int s1, .int s2])), (gr, .inl (gyI G, 16, .inl gv)), (b, .inr (5, [.ref mm])), (mm, .inl (gyI G, 16, .inl f2_1))] H := hP
  have hD : va_D A [(sv, .inr (10, [.ref b, .ref sr, .ref se, .int (nI 0), .int (nI 0), .int oc])), (sr, .inl (gyI G, 64, .inl g)), (se, .inl (gyI G, 16, .inl hh)), (pz, .inr (8, [.ref gr, .ref mr, .ref cg, .ref so, .ref sh, .int s1, .int s2])), (gr, .inl (gyI G, 16, .inl gv)), (b, .inr (5, [.ref mm])), (mm, .inl (gyI G, 16, .inl f2_1))] := hD
  refine lv_iconst (v := nI 1) hx hb dX5_run_17 (by decide) ?_
  refine lv_istore_n (lv' := [(3, .int (nI 1)), (0, .ref sv), (1, .ref pz), (2, .int (nI hi))]) hx hb dX5_run_18 rfl hl (by decide) rfl (fun ls hl => ?_)
  refine lv_iconst (v := nI 0) hx hb dX5_run_19 (by decide) ?_
  refine lv_istore (lv' := [(4, .int (nI 0)), (3, .int (nI 1)), (0, .ref sv), (1, .ref pz), (2, .int (nI hi))]) hx hb dX5_run_20 hl (by decide) rfl (fun ls hl => ?_)
  have cut_22_1 : ∀ (n9 : Nat) (f3 : Nat → Int32) (g3 : Nat → Int32) (h3 : Nat → Int32) (sc3 : Nat) (tc3 : Nat) (oc3 : Int32) (gn : Int32) (t9 : Nat) (hsc3 : sc3 ≤ 64) (htc3 : tc3 ≤ 16) (ht9 : t9 ≤ 64) (hm9 : 64 - t9 < n9) (H : Heap) (locs : List Loc), va_P (gD G) vwCl [(sv, .inr (10, [.ref b, .ref sr, .ref se, .int (nI sc3), .int (nI tc3), .int oc3])), (b, .inr (5, [.ref mm])), (mm, .inl (gyI G, 16, .inl f3)), (sr, .inl (gyI G, 64, .inl g3)), (se, .inl (gyI G, 16, .inl h3)), (pz, .inr (8, [.ref gr, .ref mr, .ref cg, .ref so, .ref sh, .int s1, .int s2])), (gr, .inl (gyI G, 16, .inl gv))] H → va_D A [(sv, .inr (10, [.ref b, .ref sr, .ref se, .int (nI sc3), .int (nI tc3), .int oc3])), (b, .inr (5, [.ref mm])), (mm, .inl (gyI G, 16, .inl f3)), (sr, .inl (gyI G, 64, .inl g3)), (se, .inl (gyI G, 16, .inl h3)), (pz, .inr (8, [.ref gr, .ref mr, .ref cg, .ref so, .ref sh, .int s1, .int s2])), (gr, .inl (gyI G, 16, .inl gv))] → va_S A s.heap H locs → ∀ (ls : Array Slot), lv_has ls 5 [(0, .ref sv), (1, .ref pz), (2, .int (nI hi)), (3, .int gn), (4, .int (nI t9))] → W p l e ({ frames := 4, cells := 0, slots := 0, locals := 100 } : Room) s m ([.ref sv, .ref pz, .int (nI hi)] : List Value).toArray below meth c H locs 0 0 Q (F0 m 22 ls []) := by
    intro n9
    induction n9 with
    | zero =>
      intro f3 g3 h3 sc3 tc3 oc3 gn t9 hsc3 htc3 ht9 hm9
      exact absurd hm9 (Nat.not_lt_zero _)
    | succ n9 ih_22_1 =>
      intro f3 g3 h3 sc3 tc3 oc3 gn t9 hsc3 htc3 ht9 hm9 H locs hP hD hS ls hl
      refine lv_iload_n hx hb dX5_run_22 rfl (lv_at hl 3 rfl) ?_
      refine lv_if_eq (tgt := 64) hx hb dX5_run_23 (by decide) (fun c_4 => ?_) (fun c_4 => ?_)
      · skip
        refine lv_aload_n hx hb dX5_run_64 rfl (lv_at hl 0 rfl) ?_
        refine va_get (D := gD G) (ci := 10) (v := .ref b) (C := RX5) (T := TX5) (N := 6) hx hb hts fwX5 hown hK hP 0 rfl rfl 0 (by decide) (hts _ q136) (fun _ h9 => h9) rfl dX5_run_65 ?_
        refine fin_i hP hD hS hA [1, 2] [0, 3, 4, 5, 6] (wr := [(sv, .inr (10, [.ref b, .ref sr, .ref se, .int (nI sc3), .int (nI tc3), .int oc3])), (sr, .inl (gyI G, 64, .inl g3)), (se, .inl (gyI G, 16, .inl h3)), (pz, .inr (8, [.ref gr, .ref mr, .ref cg, .ref so, .ref sh, .int s1, .int s2])), (gr, .inl (gyI G, 16, .inl gv))]) rfl rfl (by decide) (by decide) (va_runVN (As := []) (rest := []) ⟨hx, hb, hml, hown, hts⟩ (c_X0_isBroken l G b mm f3 H.size) ⟨(va_cnB 0 hts (gI q314) rfl rfl rfl (hE.1.1 _ nq311) (hts _ q50) (by decide +kernel) ⟨Nat.le_of_ble_eq_true rfl, Nat.le_of_ble_eq_true rfl⟩), hts _ q313, hts _ q13⟩ (preV (q0 := 1) (ci := 5) hK hE hP hD hS hA [1, 2] rfl (by decide) rfl rfl) rfl rfl hl.1 rfl (lv_room (Nat.le_of_ble_eq_true rfl)) dX5_run_68 ⟨Nat.le_of_ble_eq_true rfl, Nat.le_of_ble_eq_true rfl⟩) (fun r_6 u9 hw_5 H locs hP hD hS => ?_)
        have hP : va_P (gD G) vwCl [(sv, .inr (10, [.ref b, .ref sr, .ref se, .int (nI sc3), .int (nI tc3), .int oc3])), (sr, .inl (gyI G, 64, .inl g3)), (se, .inl (gyI G, 16, .inl h3)), (pz, .inr (8, [.ref gr, .ref mr, .ref cg, .ref so, .ref sh, .int s1, .int s2])), (gr, .inl (gyI G, 16, .inl gv)), (b, .inr (5, [.ref mm])), (mm, .inl (gyI G, 16, .inl f3))] H := hP
        have hD : va_D A [(sv, .inr (10, [.ref b, .ref sr, .ref se, .int (nI sc3), .int (nI tc3), .int oc3])), (sr, .inl (gyI G, 64, .inl g3)), (se, .inl (gyI G, 16, .inl h3)), (pz, .inr (8, [.ref gr, .ref mr, .ref cg, .ref so, .ref sh, .int s1, .int s2])), (gr, .inl (gyI G, 16, .inl gv)), (b, .inr (5, [.ref mm])), (mm, .inl (gyI G, 16, .inl f3))] := hD
        refine lv_if_eq (tgt := 83) hx hb dX5_run_71 (by decide) (fun c_7 => ?_) (fun c_7 => ?_)
        · skip
          refine lv_aload_n hx hb dX5_run_83 rfl (lv_at hl 0 rfl) ?_
          refine lv_aload_n hx hb dX5_run_84 rfl (lv_at hl 0 rfl) ?_
          refine va_get (D := gD G) (ci := 10) (v := .ref b) (C := RX5) (T := TX5) (N := 6) hx hb hts fwX5 hown hK hP 0 rfl rfl 0 (by decide) (hts _ q136) (fun _ h9 => h9) rfl dX5_run_85 ?_
          refine fin_i hP hD hS hA [5, 6] [0, 1, 2, 3, 4] (wr := [(sv, .inr (10, [.ref b, .ref sr, .ref se, .int (nI sc3), .int (nI tc3), .int oc3])), (sr, .inl (gyI G, 64, .inl g3)), (se, .inl (gyI G, 16, .inl h3)), (pz, .inr (8, [.ref gr, .ref mr, .ref cg, .ref so, .ref sh, .int s1, .int s2])), (gr, .inl (gyI G, 16, .inl gv))]) rfl rfl (by decide) (by decide) (va_runVN (As := []) (rest := [.ref sv]) ⟨hx, hb, hml, hown, hts⟩ (c_X0_isSettled l G b mm f3 H.size) ⟨(va_cnB 0 hts (gI q318) rfl rfl rfl (hE.1.1 _ nq315) (hts _ q50) (by decide +kernel) ⟨Nat.le_of_ble_eq_true rfl, Nat.le_of_ble_eq_true rfl⟩), hts _ q317, hts _ q14⟩ (preV (q0 := 5) (ci := 5) hK hE hP hD hS hA [5, 6] rfl (by decide) rfl rfl) rfl rfl hl.1 rfl (lv_room (Nat.le_of_ble_eq_true rfl)) dX5_run_88 ⟨Nat.le_of_ble_eq_true rfl, Nat.le_of_ble_eq_true rfl⟩) (fun r_9 u9 hw_8 H locs hP hD hS => ?_)
          have hP : va_P (gD G) vwCl [(sv, .inr (10, [.ref b, .ref sr, .ref se, .int (nI sc3), .int (nI tc3), .int oc3])), (sr, .inl (gyI G, 64, .inl g3)), (se, .inl (gyI G, 16, .inl h3)), (pz, .inr (8, [.ref gr, .ref mr, .ref cg, .ref so, .ref sh, .int s1, .int s2])), (gr, .inl (gyI G, 16, .inl gv)), (b, .inr (5, [.ref mm])), (mm, .inl (gyI G, 16, .inl f3))] H := hP
          have hD : va_D A [(sv, .inr (10, [.ref b, .ref sr, .ref se, .int (nI sc3), .int (nI tc3), .int oc3])), (sr, .inl (gyI G, 64, .inl g3)), (se, .inl (gyI G, 16, .inl h3)), (pz, .inr (8, [.ref gr, .ref mr, .ref cg, .ref so, .ref sh, .int s1, .int s2])), (gr, .inl (gyI G, 16, .inl gv)), (b, .inr (5, [.ref mm])), (mm, .inl (gyI G, 16, .inl f3))] := hD
          refine lv_if_eq (tgt := 99) hx hb dX5_run_91 (by decide) (fun c_10 => ?_) (fun c_10 => ?_)
          · skip
            refine lv_bipush (v := nI 110) hx hb dX5_run_99 (by decide) ?_
            refine va_put (D := gD G) (ci := 10) (v := .int (nI 110)) (ty := .char) (C := RX5) (T := TX5) (N := 6) hx hb hts fwX5 tyX5 tyX5_ok nmX5 hown hK hP hD hS 0 rfl rfl 5 (by decide) (hts _ q146) (fun _ h9 => h9) rfl (by decide +kernel) (by decide) (by decide) (Nat.le_of_ble_eq_true rfl) dX5_run_101 (fun H locs hP hD hS => ?_)
            have hP : va_P (gD G) vwCl [(sv, .inr (10, [.ref b, .ref sr, .ref se, .int (nI sc3), .int (nI tc3), .int (nI 110)])), (sr, .inl (gyI G, 64, .inl g3)), (se, .inl (gyI G, 16, .inl h3)), (pz, .inr (8, [.ref gr, .ref mr, .ref cg, .ref so, .ref sh, .int s1, .int s2])), (gr, .inl (gyI G, 16, .inl gv)), (b, .inr (5, [.ref mm])), (mm, .inl (gyI G, 16, .inl f3))] H := hP
            have hD : va_D A [(sv, .inr (10, [.ref b, .ref sr, .ref se, .int (nI sc3), .int (nI tc3), .int (nI 110)])), (sr, .inl (gyI G, 64, .inl g3)), (se, .inl (gyI G, 16, .inl h3)), (pz, .inr (8, [.ref gr, .ref mr, .ref cg, .ref so, .ref sh, .int s1, .int s2])), (gr, .inl (gyI G, 16, .inl gv)), (b, .inr (5, [.ref mm])), (mm, .inl (gyI G, 16, .inl f3))] := hD
            have hP9 := hP.sub (ws' := [(sv, .inr (10, [.ref b, .ref sr, .ref se, .int (nI sc3), .int (nI tc3), .int (nI 110)])), (b, .inr (5, [.ref mm])), (mm, .inl (gyI G, 16, .inl f3)), (sr, .inl (gyI G, 64, .inl g3)), (se, .inl (gyI G, 16, .inl h3)), (pz, .inr (8, [.ref gr, .ref mr, .ref cg, .ref so, .ref sh, .int s1, .int s2])), (gr, .inl (gyI G, 16, .inl gv))]) [0, 5, 6, 1, 2, 3, 4] rfl
            have hD9 := hD.sub (ws' := [(sv, .inr (10, [.ref b, .ref sr, .ref se, .int (nI sc3), .int (nI tc3), .int (nI 110)])), (b, .inr (5, [.ref mm])), (mm, .inl (gyI G, 16, .inl f3)), (sr, .inl (gyI G, 64, .inl g3)), (se, .inl (gyI G, 16, .inl h3)), (pz, .inr (8, [.ref gr, .ref mr, .ref cg, .ref so, .ref sh, .int s1, .int s2])), (gr, .inl (gyI G, 16, .inl gv))]) [0, 5, 6, 1, 2, 3, 4] (by decide) rfl
            subst hQ
            exact W.vret hx hb hr (fun t ht hW => ⟨⟨(f3, g3, h3, sc3, tc3, (nI 110)), rfl, ⟨(show sc3 ≤ 64 by omega), (show tc3 ≤ 16 by omega)⟩, by rw [ht]; exact hP9, hD9⟩, hS.F ht⟩) hS.2.2 dX5_run_104
          · skip
            refine lv_bipush (v := nI 115) hx hb dX5_run_94 (by decide) ?_
            refine lv_goto (tgt := 101) hx hb dX5_run_96 (by decide) ?_
            refine va_put (D := gD G) (ci := 10) (v := .int (nI 115)) (ty := .char) (C := RX5) (T := TX5) (N := 6) hx hb hts fwX5 tyX5 tyX5_ok nmX5 hown hK hP hD hS 0 rfl rfl 5 (by decide) (hts _ q146) (fun _ h9 => h9) rfl (by decide +kernel) (by decide) (by decide) (Nat.le_of_ble_eq_true rfl) dX5_run_101 (fun H locs hP hD hS => ?_)
            have hP : va_P (gD G) vwCl [(sv, .inr (10, [.ref b, .ref sr, .ref se, .int (nI sc3), .int (nI tc3), .int (nI 115)])), (sr, .inl (gyI G, 64, .inl g3)), (se, .inl (gyI G, 16, .inl h3)), (pz, .inr (8, [.ref gr, .ref mr, .ref cg, .ref so, .ref sh, .int s1, .int s2])), (gr, .inl (gyI G, 16, .inl gv)), (b, .inr (5, [.ref mm])), (mm, .inl (gyI G, 16, .inl f3))] H := hP
            have hD : va_D A [(sv, .inr (10, [.ref b, .ref sr, .ref se, .int (nI sc3), .int (nI tc3), .int (nI 115)])), (sr, .inl (gyI G, 64, .inl g3)), (se, .inl (gyI G, 16, .inl h3)), (pz, .inr (8, [.ref gr, .ref mr, .ref cg, .ref so, .ref sh, .int s1, .int s2])), (gr, .inl (gyI G, 16, .inl gv)), (b, .inr (5, [.ref mm])), (mm, .inl (gyI G, 16, .inl f3))] := hD
            have hP9 := hP.sub (ws' := [(sv, .inr (10, [.ref b, .ref sr, .ref se, .int (nI sc3), .int (nI tc3), .int (nI 115)])), (b, .inr (5, [.ref mm])), (mm, .inl (gyI G, 16, .inl f3)), (sr, .inl (gyI G, 64, .inl g3)), (se, .inl (gyI G, 16, .inl h3)), (pz, .inr (8, [.ref gr, .ref mr, .ref cg, .ref so, .ref sh, .int s1, .int s2])), (gr, .inl (gyI G, 16, .inl gv))]) [0, 5, 6, 1, 2, 3, 4] rfl
            have hD9 := hD.sub (ws' := [(sv, .inr (10, [.ref b, .ref sr, .ref se, .int (nI sc3), .int (nI tc3), .int (nI 115)])), (b, .inr (5, [.ref mm])), (mm, .inl (gyI G, 16, .inl f3)), (sr, .inl (gyI G, 64, .inl g3)), (se, .inl (gyI G, 16, .inl h3)), (pz, .inr (8, [.ref gr, .ref mr, .ref cg, .ref so, .ref sh, .int s1, .int s2])), (gr, .inl (gyI G, 16, .inl gv))]) [0, 5, 6, 1, 2, 3, 4] (by decide) rfl
            subst hQ
            exact W.vret hx hb hr (fun t ht hW => ⟨⟨(f3, g3, h3, sc3, tc3, (nI 115)), rfl, ⟨(show sc3 ≤ 64 by omega), (show tc3 ≤ 16 by omega)⟩, by rw [ht]; exact hP9, hD9⟩, hS.F ht⟩) hS.2.2 dX5_run_104
        · skip
          refine lv_aload_n hx hb dX5_run_74 rfl (lv_at hl 0 rfl) ?_
          refine lv_bipush (v := nI 98) hx hb dX5_run_75 (by decide) ?_
          refine va_put (D := gD G) (ci := 10) (v := .int (nI 98)) (ty := .char) (C := RX5) (T := TX5) (N := 6) hx hb hts fwX5 tyX5 tyX5_ok nmX5 hown hK hP hD hS 0 rfl rfl 5 (by decide) (hts _ q146) (fun _ h9 => h9) rfl (by decide +kernel) (by decide) (by decide) (Nat.le_of_ble_eq_true rfl) dX5_run_77 (fun H locs hP hD hS => ?_)
          have hP : va_P (gD G) vwCl [(sv, .inr (10, [.ref b, .ref sr, .ref se, .int (nI sc3), .int (nI tc3), .int (nI 98)])), (sr, .inl (gyI G, 64, .inl g3)), (se, .inl (gyI G, 16, .inl h3)), (pz, .inr (8, [.ref gr, .ref mr, .ref cg, .ref so, .ref sh, .int s1, .int s2])), (gr, .inl (gyI G, 16, .inl gv)), (b, .inr (5, [.ref mm])), (mm, .inl (gyI G, 16, .inl f3))] H := hP
          have hD : va_D A [(sv, .inr (10, [.ref b, .ref sr, .ref se, .int (nI sc3), .int (nI tc3), .int (nI 98)])), (sr, .inl (gyI G, 64, .inl g3)), (se, .inl (gyI G, 16, .inl h3)), (pz, .inr (8, [.ref gr, .ref mr, .ref cg, .ref so, .ref sh, .int s1, .int s2])), (gr, .inl (gyI G, 16, .inl gv)), (b, .inr (5, [.ref mm])), (mm, .inl (gyI G, 16, .inl f3))] := hD
          refine lv_goto (tgt := 104) hx hb dX5_run_80 (by decide) ?_
          have hP9 := hP.sub (ws' := [(sv, .inr (10, [.ref b, .ref sr, .ref se, .int (nI sc3), .int (nI tc3), .int (nI 98)])), (b, .inr (5, [.ref mm])), (mm, .inl (gyI G, 16, .inl f3)), (sr, .inl (gyI G, 64, .inl g3)), (se, .inl (gyI G, 16, .inl h3)), (pz, .inr (8, [.ref gr, .ref mr, .ref cg, .ref so, .ref sh, .int s1, .int s2])), (gr, .inl (gyI G, 16, .inl gv))]) [0, 5, 6, 1, 2, 3, 4] rfl
          have hD9 := hD.sub (ws' := [(sv, .inr (10, [.ref b, .ref sr, .ref se, .int (nI sc3), .int (nI tc3), .int (nI 98)])), (b, .inr (5, [.ref mm])), (mm, .inl (gyI G, 16, .inl f3)), (sr, .inl (gyI G, 64, .inl g3)), (se, .inl (gyI G, 16, .inl h3)), (pz, .inr (8, [.ref gr, .ref mr, .ref cg, .ref so, .ref sh, .int s1, .int s2])), (gr, .inl (gyI G, 16, .inl gv))]) [0, 5, 6, 1, 2, 3, 4] (by decide) rfl
          subst hQ
          exact W.vret hx hb hr (fun t ht hW => ⟨⟨(f3, g3, h3, sc3, tc3, (nI 98)), rfl, ⟨(show sc3 ≤ 64 by omega), (show tc3 ≤ 16 by omega)⟩, by rw [ht]; exact hP9, hD9⟩, hS.F ht⟩) hS.2.2 dX5_run_104
      · skip
        refine lv_iload hx hb dX5_run_26 (lv_at hl 4 rfl) ?_
        refine lv_bipush (v := nI 64) hx hb dX5_run_28 (by decide) ?_
        refine lv_icmp_ge (tgt := 64) hx hb dX5_run_30 (by decide) (fun c_11 => ?_) (fun c_11 => ?_)
        · skip
          have c_11 : 64 ≤ t9 := (nI_leI (a := 64) (b := t9) (by omega) (by omega)).mp c_11
          refine lv_aload_n hx hb dX5_run_64 rfl (lv_at hl 0 rfl) ?_
          refine va_get (D := gD G) (ci := 10) (v := .ref b) (C := RX5) (T := TX5) (N := 6) hx hb hts fwX5 hown hK hP 0 rfl rfl 0 (by decide) (hts _ q136) (fun _ h9 => h9) rfl dX5_run_65 ?_
          refine fin_i hP hD hS hA [1, 2] [0, 3, 4, 5, 6] (wr := [(sv, .inr (10, [.ref b, .ref sr, .ref se, .int (nI sc3), .int (nI tc3), .int oc3])), (sr, .inl (gyI G, 64, .inl g3)), (se, .inl (gyI G, 16, .inl h3)), (pz, .inr (8, [.ref gr, .ref mr, .ref cg, .ref so, .ref sh, .int s1, .int s2])), (gr, .inl (gyI G, 16, .inl gv))]) rfl rfl (by decide) (by decide) (va_runVN (As := []) (rest := []) ⟨hx, hb, hml, hown, hts⟩ (c_X0_isBroken l G b mm f3 H.size) ⟨(va_cnB 0 hts (gI q314) rfl rfl rfl (hE.1.1 _ nq311) (hts _ q50) (by decide +kernel) ⟨Nat.le_of_ble_eq_true rfl, Nat.le_of_ble_eq_true rfl⟩), hts _ q313, hts _ q13⟩ (preV (q0 := 1) (ci := 5) hK hE hP hD hS hA [1, 2] rfl (by decide) rfl rfl) rfl rfl hl.1 rfl (lv_room (Nat.le_of_ble_eq_true rfl)) dX5_run_68 ⟨Nat.le_of_ble_eq_true rfl, Nat.le_of_ble_eq_true rfl⟩) (fun r_13 u9 hw_12 H locs hP hD hS => ?_)
          have hP : va_P (gD G) vwCl [(sv, .inr (10, [.ref b, .ref sr, .ref se, .int (nI sc3), .int (nI tc3), .int oc3])), (sr, .inl (gyI G, 64, .inl g3)), (se, .inl (gyI G, 16, .inl h3)), (pz, .inr (8, [.ref gr, .ref mr, .ref cg, .ref so, .ref sh, .int s1, .int s2])), (gr, .inl (gyI G, 16, .inl gv)), (b, .inr (5, [.ref mm])), (mm, .inl (gyI G, 16, .inl f3))] H := hP
          have hD : va_D A [(sv, .inr (10, [.ref b, .ref sr, .ref se, .int (nI sc3), .int (nI tc3), .int oc3])), (sr, .inl (gyI G, 64, .inl g3)), (se, .inl (gyI G, 16, .inl h3)), (pz, .inr (8, [.ref gr, .ref mr, .ref cg, .ref so, .ref sh, .int s1, .int s2])), (gr, .inl (gyI G, 16, .inl gv)), (b, .inr (5, [.ref mm])), (mm, .inl (gyI G, 16, .inl f3))] := hD
          refine lv_if_eq (tgt := 83) hx hb dX5_run_71 (by decide) (fun c_14 => ?_) (fun c_14 => ?_)
          · skip
            refine lv_aload_n hx hb dX5_run_83 rfl (lv_at hl 0 rfl) ?_
            refine lv_aload_n hx hb dX5_run_84 rfl (lv_at hl 0 rfl) ?_
            refine va_get (D := gD G) (ci := 10) (v := .ref b) (C := RX5) (T := TX5) (N := 6) hx hb hts fwX5 hown hK hP 0 rfl rfl 0 (by decide) (hts _ q136) (fun _ h9 => h9) rfl dX5_run_85 ?_
            refine fin_i hP hD hS hA [5, 6] [0, 1, 2, 3, 4] (wr := [(sv, .inr (10, [.ref b, .ref sr, .ref se, .int (nI sc3), .int (nI tc3), .int oc3])), (sr, .inl (gyI G, 64, .inl g3)), (se, .inl (gyI G, 16, .inl h3)), (pz, .inr (8, [.ref gr, .ref mr, .ref cg, .ref so, .ref sh, .int s1, .int s2])), (gr, .inl (gyI G, 16, .inl gv))]) rfl rfl (by decide) (by decide) (va_runVN (As := []) (rest := [.ref sv]) ⟨hx, hb, hml, hown, hts⟩ (c_X0_isSettled l G b mm f3 H.size) ⟨(va_cnB 0 hts (gI q318) rfl rfl rfl (hE.1.1 _ nq315) (hts _ q50) (by decide +kernel) ⟨Nat.le_of_ble_eq_true rfl, Nat.le_of_ble_eq_true rfl⟩), hts _ q317, hts _ q14⟩ (preV (q0 := 5) (ci := 5) hK hE hP hD hS hA [5, 6] rfl (by decide) rfl rfl) rfl rfl hl.1 rfl (lv_room (Nat.le_of_ble_eq_true rfl)) dX5_run_88 ⟨Nat.le_of_ble_eq_true rfl, Nat.le_of_ble_eq_true rfl⟩) (fun r_16 u9 hw_15 H locs hP hD hS => ?_)
            have hP : va_P (gD G) vwCl [(sv, .inr (10, [.ref b, .ref sr, .ref se, .int (nI sc3), .int (nI tc3), .int oc3])), (sr, .inl (gyI G, 64, .inl g3)), (se, .inl (gyI G, 16, .inl h3)), (pz, .inr (8, [.ref gr, .ref mr, .ref cg, .ref so, .ref sh, .int s1, .int s2])), (gr, .inl (gyI G, 16, .inl gv)), (b, .inr (5, [.ref mm])), (mm, .inl (gyI G, 16, .inl f3))] H := hP
            have hD : va_D A [(sv, .inr (10, [.ref b, .ref sr, .ref se, .int (nI sc3), .int (nI tc3), .int oc3])), (sr, .inl (gyI G, 64, .inl g3)), (se, .inl (gyI G, 16, .inl h3)), (pz, .inr (8, [.ref gr, .ref mr, .ref cg, .ref so, .ref sh, .int s1, .int s2])), (gr, .inl (gyI G, 16, .inl gv)), (b, .inr (5, [.ref mm])), (mm, .inl (gyI G, 16, .inl f3))] := hD
            refine lv_if_eq (tgt := 99) hx hb dX5_run_91 (by decide) (fun c_17 => ?_) (fun c_17 => ?_)
            · skip
              refine lv_bipush (v := nI 110) hx hb dX5_run_99 (by decide) ?_
              refine va_put (D := gD G) (ci := 10) (v := .int (nI 110)) (ty := .char) (C := RX5) (T := TX5) (N := 6) hx hb hts fwX5 tyX5 tyX5_ok nmX5 hown hK hP hD hS 0 rfl rfl 5 (by decide) (hts _ q146) (fun _ h9 => h9) rfl (by decide +kernel) (by decide) (by decide) (Nat.le_of_ble_eq_true rfl) dX5_run_101 (fun H locs hP hD hS => ?_)
              have hP : va_P (gD G) vwCl [(sv, .inr (10, [.ref b, .ref sr, .ref se, .int (nI sc3), .int (nI tc3), .int (nI 110)])), (sr, .inl (gyI G, 64, .inl g3)), (se, .inl (gyI G, 16, .inl h3)), (pz, .inr (8, [.ref gr, .ref mr, .ref cg, .ref so, .ref sh, .int s1, .int s2])), (gr, .inl (gyI G, 16, .inl gv)), (b, .inr (5, [.ref mm])), (mm, .inl (gyI G, 16, .inl f3))] H := hP
              have hD : va_D A [(sv, .inr (10, [.ref b, .ref sr, .ref se, .int (nI sc3), .int (nI tc3), .int (nI 110)])), (sr, .inl (gyI G, 64, .inl g3)), (se, .inl (gyI G, 16, .inl h3)), (pz, .inr (8, [.ref gr, .ref mr, .ref cg, .ref so, .ref sh, .int s1, .int s2])), (gr, .inl (gyI G, 16, .inl gv)), (b, .inr (5, [.ref mm])), (mm, .inl (gyI G, 16, .inl f3))] := hD
              have hP9 := hP.sub (ws' := [(sv, .inr (10, [.ref b, .ref sr, .ref se, .int (nI sc3), .int (nI tc3), .int (nI 110)])), (b, .inr (5, [.ref mm])), (mm, .inl (gyI G, 16, .inl f3)), (sr, .inl (gyI G, 64, .inl g3)), (se, .inl (gyI G, 16, .inl h3)), (pz, .inr (8, [.ref gr, .ref mr, .ref cg, .ref so, .ref sh, .int s1, .int s2])), (gr, .inl (gyI G, 16, .inl gv))]) [0, 5, 6, 1, 2, 3, 4] rfl
              have hD9 := hD.sub (ws' := [(sv, .inr (10, [.ref b, .ref sr, .ref se, .int (nI sc3), .int (nI tc3), .int (nI 110)])), (b, .inr (5, [.ref mm])), (mm, .inl (gyI G, 16, .inl f3)), (sr, .inl (gyI G, 64, .inl g3)), (se, .inl (gyI G, 16, .inl h3)), (pz, .inr (8, [.ref gr, .ref mr, .ref cg, .ref so, .ref sh, .int s1, .int s2])), (gr, .inl (gyI G, 16, .inl gv))]) [0, 5, 6, 1, 2, 3, 4] (by decide) rfl
              subst hQ
              exact W.vret hx hb hr (fun t ht hW => ⟨⟨(f3, g3, h3, sc3, tc3, (nI 110)), rfl, ⟨(show sc3 ≤ 64 by omega), (show tc3 ≤ 16 by omega)⟩, by rw [ht]; exact hP9, hD9⟩, hS.F ht⟩) hS.2.2 dX5_run_104
            · skip
              refine lv_bipush (v := nI 115) hx hb dX5_run_94 (by decide) ?_
              refine lv_goto (tgt := 101) hx hb dX5_run_96 (by decide) ?_
              refine va_put (D := gD G) (ci := 10) (v := .int (nI 115)) (ty := .char) (C := RX5) (T := TX5) (N := 6) hx hb hts fwX5 tyX5 tyX5_ok nmX5 hown hK hP hD hS 0 rfl rfl 5 (by decide) (hts _ q146) (fun _ h9 => h9) rfl (by decide +kernel) (by decide) (by decide) (Nat.le_of_ble_eq_true rfl) dX5_run_101 (fun H locs hP hD hS => ?_)
              have hP : va_P (gD G) vwCl [(sv, .inr (10, [.ref b, .ref sr, .ref se, .int (nI sc3), .int (nI tc3), .int (nI 115)])), (sr, .inl (gyI G, 64, .inl g3)), (se, .inl (gyI G, 16, .inl h3)), (pz, .inr (8, [.ref gr, .ref mr, .ref cg, .ref so, .ref sh, .int s1, .int s2])), (gr, .inl (gyI G, 16, .inl gv)), (b, .inr (5, [.ref mm])), (mm, .inl (gyI G, 16, .inl f3))] H := hP
              have hD : va_D A [(sv, .inr (10, [.ref b, .ref sr, .ref se, .int (nI sc3), .int (nI tc3), .int (nI 115)])), (sr, .inl (gyI G, 64, .inl g3)), (se, .inl (gyI G, 16, .inl h3)), (pz, .inr (8, [.ref gr, .ref mr, .ref cg, .ref so, .ref sh, .int s1, .int s2])), (gr, .inl (gyI G, 16, .inl gv)), (b, .inr (5, [.ref mm])), (mm, .inl (gyI G, 16, .inl f3))] := hD
              have hP9 := hP.sub (ws' := [(sv, .inr (10, [.ref b, .ref sr, .ref se, .int (nI sc3), .int (nI tc3), .int (nI 115)])), (b, .inr (5, [.ref mm])), (mm, .inl (gyI G, 16, .inl f3)), (sr, .inl (gyI G, 64, .inl g3)), (se, .inl (gyI G, 16, .inl h3)), (pz, .inr (8, [.ref gr, .ref mr, .ref cg, .ref so, .ref sh, .int s1, .int s2])), (gr, .inl (gyI G, 16, .inl gv))]) [0, 5, 6, 1, 2, 3, 4] rfl
              have hD9 := hD.sub (ws' := [(sv, .inr (10, [.ref b, .ref sr, .ref se, .int (nI sc3), .int (nI tc3), .int (nI 115)])), (b, .inr (5, [.ref mm])), (mm, .inl (gyI G, 16, .inl f3)), (sr, .inl (gyI G, 64, .inl g3)), (se, .inl (gyI G, 16, .inl h3)), (pz, .inr (8, [.ref gr, .ref mr, .ref cg, .ref so, .ref sh, .int s1, .int s2])), (gr, .inl (gyI G, 16, .inl gv))]) [0, 5, 6, 1, 2, 3, 4] (by decide) rfl
              subst hQ
              exact W.vret hx hb hr (fun t ht hW => ⟨⟨(f3, g3, h3, sc3, tc3, (nI 115)), rfl, ⟨(show sc3 ≤ 64 by omega), (show tc3 ≤ 16 by omega)⟩, by rw [ht]; exact hP9, hD9⟩, hS.F ht⟩) hS.2.2 dX5_run_104
          · skip
            refine lv_aload_n hx hb dX5_run_74 rfl (lv_at hl 0 rfl) ?_
            refine lv_bipush (v := nI 98) hx hb dX5_run_75 (by decide) ?_
            refine va_put (D := gD G) (ci := 10) (v := .int (nI 98)) (ty := .char) (C := RX5) (T := TX5) (N := 6) hx hb hts fwX5 tyX5 tyX5_ok nmX5 hown hK hP hD hS 0 rfl rfl 5 (by decide) (hts _ q146) (fun _ h9 => h9) rfl (by decide +kernel) (by decide) (by decide) (Nat.le_of_ble_eq_true rfl) dX5_run_77 (fun H locs hP hD hS => ?_)
            have hP : va_P (gD G) vwCl [(sv, .inr (10, [.ref b, .ref sr, .ref se, .int (nI sc3), .int (nI tc3), .int (nI 98)])), (sr, .inl (gyI G, 64, .inl g3)), (se, .inl (gyI G, 16, .inl h3)), (pz, .inr (8, [.ref gr, .ref mr, .ref cg, .ref so, .ref sh, .int s1, .int s2])), (gr, .inl (gyI G, 16, .inl gv)), (b, .inr (5, [.ref mm])), (mm, .inl (gyI G, 16, .inl f3))] H := hP
            have hD : va_D A [(sv, .inr (10, [.ref b, .ref sr, .ref se, .int (nI sc3), .int (nI tc3), .int (nI 98)])), (sr, .inl (gyI G, 64, .inl g3)), (se, .inl (gyI G, 16, .inl h3)), (pz, .inr (8, [.ref gr, .ref mr, .ref cg, .ref so, .ref sh, .int s1, .int s2])), (gr, .inl (gyI G, 16, .inl gv)), (b, .inr (5, [.ref mm])), (mm, .inl (gyI G, 16, .inl f3))] := hD
            refine lv_goto (tgt := 104) hx hb dX5_run_80 (by decide) ?_
            have hP9 := hP.sub (ws' := [(sv, .inr (10, [.ref b, .ref sr, .ref se, .int (nI sc3), .int (nI tc3), .int (nI 98)])), (b, .inr (5, [.ref mm])), (mm, .inl (gyI G, 16, .inl f3)), (sr, .inl (gyI G, 64, .inl g3)), (se, .inl (gyI G, 16, .inl h3)), (pz, .inr (8, [.ref gr, .ref mr, .ref cg, .ref so, .ref sh, .int s1, .int s2])), (gr, .inl (gyI G, 16, .inl gv))]) [0, 5, 6, 1, 2, 3, 4] rfl
            have hD9 := hD.sub (ws' := [(sv, .inr (10, [.ref b, .ref sr, .ref se, .int (nI sc3), .int (nI tc3), .int (nI 98)])), (b, .inr (5, [.ref mm])), (mm, .inl (gyI G, 16, .inl f3)), (sr, .inl (gyI G, 64, .inl g3)), (se, .inl (gyI G, 16, .inl h3)), (pz, .inr (8, [.ref gr, .ref mr, .ref cg, .ref so, .ref sh, .int s1, .int s2])), (gr, .inl (gyI G, 16, .inl gv))]) [0, 5, 6, 1, 2, 3, 4] (by decide) rfl
            subst hQ
            exact W.vret hx hb hr (fun t ht hW => ⟨⟨(f3, g3, h3, sc3, tc3, (nI 98)), rfl, ⟨(show sc3 ≤ 64 by omega), (show tc3 ≤ 16 by omega)⟩, by rw [ht]; exact hP9, hD9⟩, hS.F ht⟩) hS.2.2 dX5_run_104
        · skip
          have c_11 : ¬ 64 ≤ t9 := fun z => c_11 ((nI_leI (a := 64) (b := t9) (by omega) (by omega)).mpr z)
          refine lv_aload_n hx hb dX5_run_33 rfl (lv_at hl 0 rfl) ?_
          refine lv_aload_n hx hb dX5_run_34 rfl (lv_at hl 1 rfl) ?_
          refine lv_iload_n hx hb dX5_run_35 rfl (lv_at hl 2 rfl) ?_
          refine fin_i hP hD hS hA [0, 1, 2, 3, 4, 5, 6] [] (wr := []) rfl rfl (by decide) (by decide) (va_runV (As := [.ref pz, .int (nI hi)]) (rest := []) ⟨hx, hb, hml, hown, hts⟩ (c_X5_takeOneAway l G sv b mm sr se f3 g3 h3 sc3 tc3 oc3 pz gr mr cg so sh s1 s2 gv hi (by omega) (by omega) (by omega) H.size) (cwV 2 hts (gV q245 q247 q3 q49 q248) rfl rfl rfl (by decide +kernel) ⟨Nat.le_of_ble_eq_true rfl, Nat.le_of_ble_eq_true rfl⟩) (preV (q0 := 0) (ci := 10) hK hE hP hD hS hA [0, 1, 2, 3, 4, 5, 6] rfl (by decide) rfl rfl) rfl rfl hl.1 rfl (lv_room (Nat.le_of_ble_eq_true rfl)) dX5_run_36 ⟨Nat.le_of_ble_eq_true rfl, Nat.le_of_ble_eq_true rfl⟩) (fun r_24 u9 hw_23 H locs hP hD hS => ?_)
          obtain ⟨f2_18, g2_19, h2_20, sc2_21, tc2_22⟩ := u9
          obtain ⟨hsc2_25, htc2_26⟩ := hw_23
          have hsc2_25 : sc2_21 ≤ 64 := hsc2_25
          have htc2_26 : tc2_22 ≤ 16 := htc2_26
          have hP : va_P (gD G) vwCl [(sv, .inr (10, [.ref b, .ref sr, .ref se, .int (nI sc2_21), .int (nI tc2_22), .int oc3])), (b, .inr (5, [.ref mm])), (mm, .inl (gyI G, 16, .inl f2_18)), (sr, .inl (gyI G, 64, .inl g2_19)), (se, .inl (gyI G, 16, .inl h2_20)), (pz, .inr (8, [.ref gr, .ref mr, .ref cg, .ref so, .ref sh, .int s1, .int s2])), (gr, .inl (gyI G, 16, .inl gv))] H := hP
          have hD : va_D A [(sv, .inr (10, [.ref b, .ref sr, .ref se, .int (nI sc2_21), .int (nI tc2_22), .int oc3])), (b, .inr (5, [.ref mm])), (mm, .inl (gyI G, 16, .inl f2_18)), (sr, .inl (gyI G, 64, .inl g2_19)), (se, .inl (gyI G, 16, .inl h2_20)), (pz, .inr (8, [.ref gr, .ref mr, .ref cg, .ref so, .ref sh, .int s1, .int s2])), (gr, .inl (gyI G, 16, .inl gv))] := hD
          refine lv_if_eq (tgt := 56) hx hb dX5_run_39 (by decide) (fun c_27 => ?_) (fun c_27 => ?_)
          · skip
            refine lv_iconst (v := nI 0) hx hb dX5_run_56 (by decide) ?_
            refine lv_istore_n (lv' := [(3, .int (nI 0)), (0, .ref sv), (1, .ref pz), (2, .int (nI hi)), (4, .int (nI t9))]) hx hb dX5_run_57 rfl hl (by decide) rfl (fun ls hl => ?_)
            refine lv_iinc (v := nI (t9 + 1)) (lv' := [(4, .int (nI (t9 + 1))), (3, .int (nI 0)), (0, .ref sv), (1, .ref pz), (2, .int (nI hi))]) hx hb dX5_run_58 hl (k := 4) rfl (nI_add t9 1) (by decide) rfl (fun ls hl => ?_)
            refine lv_goto (tgt := 22) hx hb dX5_run_61 (by decide) ?_
            exact ih_22_1 f2_18 g2_19 h2_20 sc2_21 tc2_22 oc3 (nI 0) (t9 + 1) (by omega) (by omega) (by omega) (by omega) _ _ (hP.sub [0, 1, 2, 3, 4, 5, 6] rfl) (hD.sub [0, 1, 2, 3, 4, 5, 6] (by decide) rfl) hS ls (lv_sub hl [2, 3, 4, 1, 0] rfl)
          · skip
            refine lv_aload_n hx hb dX5_run_42 rfl (lv_at hl 0 rfl) ?_
            refine va_get (D := gD G) (ci := 10) (v := .ref b) (C := RX5) (T := TX5) (N := 6) hx hb hts fwX5 hown hK hP 0 rfl rfl 0 (by decide) (hts _ q136) (fun _ h9 => h9) rfl dX5_run_43 ?_
            refine fin_i hP hD hS hA [1, 2] [0, 3, 4, 5, 6] (wr := [(sv, .inr (10, [.ref b, .ref sr, .ref se, .int (nI sc2_21), .int (nI tc2_22), .int oc3])), (sr, .inl (gyI G, 64, .inl g2_19)), (se, .inl (gyI G, 16, .inl h2_20)), (pz, .inr (8, [.ref gr, .ref mr, .ref cg, .ref so, .ref sh, .int s1, .int s2])), (gr, .inl (gyI G, 16, .inl gv))]) rfl rfl (by decide) (by decide) (va_runVN (As := []) (rest := []) ⟨hx, hb, hml, hown, hts⟩ (c_X0_isBroken l G b mm f2_18 H.size) ⟨(va_cnB 0 hts (gI q314) rfl rfl rfl (hE.1.1 _ nq311) (hts _ q50) (by decide +kernel) ⟨Nat.le_of_ble_eq_true rfl, Nat.le_of_ble_eq_true rfl⟩), hts _ q313, hts _ q13⟩ (preV (q0 := 1) (ci := 5) hK hE hP hD hS hA [1, 2] rfl (by decide) rfl rfl) rfl rfl hl.1 rfl (lv_room (Nat.le_of_ble_eq_true rfl)) dX5_run_46 ⟨Nat.le_of_ble_eq_true rfl, Nat.le_of_ble_eq_true rfl⟩) (fun r_29 u9 hw_28 H locs hP hD hS => ?_)
            have hP : va_P (gD G) vwCl [(sv, .inr (10, [.ref b, .ref sr, .ref se, .int (nI sc2_21), .int (nI tc2_22), .int oc3])), (sr, .inl (gyI G, 64, .inl g2_19)), (se, .inl (gyI G, 16, .inl h2_20)), (pz, .inr (8, [.ref gr, .ref mr, .ref cg, .ref so, .ref sh, .int s1, .int s2])), (gr, .inl (gyI G, 16, .inl gv)), (b, .inr (5, [.ref mm])), (mm, .inl (gyI G, 16, .inl f2_18))] H := hP
            have hD : va_D A [(sv, .inr (10, [.ref b, .ref sr, .ref se, .int (nI sc2_21), .int (nI tc2_22), .int oc3])), (sr, .inl (gyI G, 64, .inl g2_19)), (se, .inl (gyI G, 16, .inl h2_20)), (pz, .inr (8, [.ref gr, .ref mr, .ref cg, .ref so, .ref sh, .int s1, .int s2])), (gr, .inl (gyI G, 16, .inl gv)), (b, .inr (5, [.ref mm])), (mm, .inl (gyI G, 16, .inl f2_18))] := hD
            refine lv_if_ne (tgt := 56) hx hb dX5_run_49 (by decide) (fun c_30 => ?_) (fun c_30 => ?_)
            · skip
              refine lv_iconst (v := nI 0) hx hb dX5_run_56 (by decide) ?_
              refine lv_istore_n (lv' := [(3, .int (nI 0)), (0, .ref sv), (1, .ref pz), (2, .int (nI hi)), (4, .int (nI t9))]) hx hb dX5_run_57 rfl hl (by decide) rfl (fun ls hl => ?_)
              refine lv_iinc (v := nI (t9 + 1)) (lv' := [(4, .int (nI (t9 + 1))), (3, .int (nI 0)), (0, .ref sv), (1, .ref pz), (2, .int (nI hi))]) hx hb dX5_run_58 hl (k := 4) rfl (nI_add t9 1) (by decide) rfl (fun ls hl => ?_)
              refine lv_goto (tgt := 22) hx hb dX5_run_61 (by decide) ?_
              exact ih_22_1 f2_18 g2_19 h2_20 sc2_21 tc2_22 oc3 (nI 0) (t9 + 1) (by omega) (by omega) (by omega) (by omega) _ _ (hP.sub [0, 5, 6, 1, 2, 3, 4] rfl) (hD.sub [0, 5, 6, 1, 2, 3, 4] (by decide) rfl) hS ls (lv_sub hl [2, 3, 4, 1, 0] rfl)
            · skip
              refine lv_iconst (v := nI 1) hx hb dX5_run_52 (by decide) ?_
              refine lv_goto (tgt := 57) hx hb dX5_run_53 (by decide) ?_
              refine lv_istore_n (lv' := [(3, .int (nI 1)), (0, .ref sv), (1, .ref pz), (2, .int (nI hi)), (4, .int (nI t9))]) hx hb dX5_run_57 rfl hl (by decide) rfl (fun ls hl => ?_)
              refine lv_iinc (v := nI (t9 + 1)) (lv' := [(4, .int (nI (t9 + 1))), (3, .int (nI 1)), (0, .ref sv), (1, .ref pz), (2, .int (nI hi))]) hx hb dX5_run_58 hl (k := 4) rfl (nI_add t9 1) (by decide) rfl (fun ls hl => ?_)
              refine lv_goto (tgt := 22) hx hb dX5_run_61 (by decide) ?_
              exact ih_22_1 f2_18 g2_19 h2_20 sc2_21 tc2_22 oc3 (nI 1) (t9 + 1) (by omega) (by omega) (by omega) (by omega) _ _ (hP.sub [0, 5, 6, 1, 2, 3, 4] rfl) (hD.sub [0, 5, 6, 1, 2, 3, 4] (by decide) rfl) hS ls (lv_sub hl [2, 3, 4, 1, 0] rfl)
  exact cut_22_1 (64 - 0 + 1) f2_1 g hh 0 0 oc (nI 1) 0 (by omega) (by omega) (by omega) (Nat.lt_succ_self _) _ _ (hP.sub [0, 5, 6, 1, 2, 3, 4] rfl) (hD.sub [0, 5, 6, 1, 2, 3, 4] (by decide) rfl) hS ls (lv_sub hl [2, 3, 4, 1, 0] rfl)
