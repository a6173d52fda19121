theorem q44 : (Jvm.Cond.initialized "PegboardryLaw") ∈ WW := inW 44 (by decide +kernel) rfl
theorem q200 : (Jvm.Cond.methodLink "PegboardryLaw" (164 : Nat) ({ cls := "Pegboardry", name := "reason", desc := "()I" } : Jvm.MethodName)) ∈ WW := inW 200 (by decide +kernel) rfl
theorem q201 : (Jvm.Cond.instanceMethod ({ cls := "Pegboardry", name := "reason", desc := "()I" } : Jvm.MethodName)) ∈ WW := inW 201 (by decide +kernel) rfl
theorem q202 : (Jvm.Cond.selects "Pegboardry" ({ cls := "Pegboardry", name := "reason", desc := "()I" } : Jvm.MethodName) ({ cls := "Pegboardry", name := "reason", desc := "()I" } : Jvm.MethodName)) ∈ WW := inW 202 (by decide +kernel) rfl
theorem q203 : (Jvm.Cond.code ({ cls := "Pegboardry", name := "reason", desc := "()I" } : Jvm.MethodName) prog_1_method_18_code (1 : Nat) (Option.some Jvm.ClassFile.FieldType.int)) ∈ WW := inW 203 (by decide +kernel) rfl
theorem q204 : (Jvm.Cond.methodLink "PegboardryLaw" (186 : Nat) ({ cls := "Pegboardry", name := "checksum", desc := "()J" } : Jvm.MethodName)) ∈ WW := inW 204 (by decide +kernel) rfl
theorem q205 : (Jvm.Cond.instanceMethod ({ cls := "Pegboardry", name := "checksum", desc := "()J" } : Jvm.MethodName)) ∈ WW := inW 205 (by decide +kernel) rfl
theorem q206 : (Jvm.Cond.selects "Pegboardry" ({ cls := "Pegboardry", name := "checksum", desc := "()J" } : Jvm.MethodName) ({ cls := "Pegboardry", name := "checksum", desc := "()J" } : Jvm.MethodName)) ∈ WW := inW 206 (by decide +kernel) rfl
theorem q207 : (Jvm.Cond.code ({ cls := "Pegboardry", name := "checksum", desc := "()J" } : Jvm.MethodName) prog_1_method_25_code (6 : Nat) (Option.some Jvm.ClassFile.FieldType.long)) ∈ WW := inW 207 (by decide +kernel) rfl
theorem q228 : (Jvm.Cond.methodLink "PegboardryLaw" (198 : Nat) ({ cls := "Pegboardry", name := "isSound", desc := "()Z" } : Jvm.MethodName)) ∈ WW := inW 228 (by decide +kernel) rfl
theorem q229 : (Jvm.Cond.instanceMethod ({ cls := "Pegboardry", name := "isSound", desc := "()Z" } : Jvm.MethodName)) ∈ WW := inW 229 (by decide +kernel) rfl
theorem q230 : (Jvm.Cond.selects "Pegboardry" ({ cls := "Pegboardry", name := "isSound", desc := "()Z" } : Jvm.MethodName) ({ cls := "Pegboardry", name := "isSound", desc := "()Z" } : Jvm.MethodName)) ∈ WW := inW 230 (by decide +kernel) rfl
theorem q231 : (Jvm.Cond.code ({ cls := "Pegboardry", name := "isSound", desc := "()Z" } : Jvm.MethodName) prog_1_method_28_code (5 : Nat) (Option.some Jvm.ClassFile.FieldType.boolean)) ∈ WW := inW 231 (by decide +kernel) rfl
theorem q349 : (Jvm.Cond.methodLink "PegboardryLaw" (107 : Nat) ({ cls := "PegboardryLaw", name := "puzzle", desc := "(LPegboardry;[J)I" } : Jvm.MethodName)) ∈ WW := inW 349 (by decide +kernel) rfl
theorem q350 : (Jvm.Cond.static ({ cls := "PegboardryLaw", name := "puzzle", desc := "(LPegboardry;[J)I" } : Jvm.MethodName)) ∈ WW := inW 350 (by decide +kernel) rfl
theorem q351 : (Jvm.Cond.codeWith ({ cls := "PegboardryLaw", name := "puzzle", desc := "(LPegboardry;[J)I" } : Jvm.MethodName) method_3_code (3 : Nat) (Option.some Jvm.ClassFile.FieldType.int) [((0 : Nat), (8 : Nat), (11 : Nat), (13 : Nat))]) ∈ WW := inW 351 (by decide +kernel) rfl
theorem q534 : (Jvm.Cond.methodLink "PegboardryLaw" (116 : Nat) ({ cls := "PegboardryLaw", name := "give", desc := "(LPegboardry;III[J)I" } : Jvm.MethodName)) ∈ WW := inW 534 (by decide +kernel) rfl
theorem q535 : (Jvm.Cond.static ({ cls := "PegboardryLaw", name := "give", desc := "(LPegboardry;III[J)I" } : Jvm.MethodName)) ∈ WW := inW 535 (by decide +kernel) rfl
theorem q536 : (Jvm.Cond.codeWith ({ cls := "PegboardryLaw", name := "give", desc := "(LPegboardry;III[J)I" } : Jvm.MethodName) method_4_code (6 : Nat) (Option.some Jvm.ClassFile.FieldType.int) [((0 : Nat), (12 : Nat), (15 : Nat), (19 : Nat)), ((0 : Nat), (12 : Nat), (19 : Nat), (21 : Nat))]) ∈ WW := inW 536 (by decide +kernel) rfl
theorem q610 : (Jvm.Cond.methodLink "PegboardryLaw" (120 : Nat) ({ cls := "PegboardryLaw", name := "addCage", desc := "(LPegboardry;III[J)I" } : Jvm.MethodName)) ∈ WW := inW 610 (by decide +kernel) rfl
theorem q611 : (Jvm.Cond.static ({ cls := "PegboardryLaw", name := "addCage", desc := "(LPegboardry;III[J)I" } : Jvm.MethodName)) ∈ WW := inW 611 (by decide +kernel) rfl
theorem q612 : (Jvm.Cond.codeWith ({ cls := "PegboardryLaw", name := "addCage", desc := "(LPegboardry;III[J)I" } : Jvm.MethodName) method_5_code (6 : Nat) (Option.some Jvm.ClassFile.FieldType.int) [((0 : Nat), (12 : Nat), (15 : Nat), (19 : Nat)), ((0 : Nat), (12 : Nat), (19 : Nat), (21 : Nat)), ((0 : Nat), (12 : Nat), (23 : Nat), (26 : Nat))]) ∈ WW := inW 612 (by decide +kernel) rfl
theorem q657 : (Jvm.Cond.methodLink "PegboardryLaw" (123 : Nat) ({ cls := "PegboardryLaw", name := "make", desc := "(LPegboardry;II[J)I" } : Jvm.MethodName)) ∈ WW := inW 657 (by decide +kernel) rfl
theorem q658 : (Jvm.Cond.static ({ cls := "PegboardryLaw", name := "make", desc := "(LPegboardry;II[J)I" } : Jvm.MethodName)) ∈ WW := inW 658 (by decide +kernel) rfl
theorem q659 : (Jvm.Cond.codeWith ({ cls := "PegboardryLaw", name := "make", desc := "(LPegboardry;II[J)I" } : Jvm.MethodName) method_6_code (5 : Nat) (Option.some Jvm.ClassFile.FieldType.int) [((0 : Nat), (10 : Nat), (13 : Nat), (21 : Nat)), ((0 : Nat), (10 : Nat), (17 : Nat), (13 : Nat))]) ∈ WW := inW 659 (by decide +kernel) rfl
theorem q696 : (Jvm.Cond.methodLink "PegboardryLaw" (127 : Nat) ({ cls := "PegboardryLaw", name := "given", desc := "(LPegboardry;II[J)I" } : Jvm.MethodName)) ∈ WW := inW 696 (by decide +kernel) rfl
theorem q697 : (Jvm.Cond.static ({ cls := "PegboardryLaw", name := "given", desc := "(LPegboardry;II[J)I" } : Jvm.MethodName)) ∈ WW := inW 697 (by decide +kernel) rfl
theorem q698 : (Jvm.Cond.codeWith ({ cls := "PegboardryLaw", name := "given", desc := "(LPegboardry;II[J)I" } : Jvm.MethodName) method_7_code (5 : Nat) (Option.some Jvm.ClassFile.FieldType.int) [((0 : Nat), (10 : Nat), (13 : Nat), (19 : Nat))]) ∈ WW := inW 698 (by decide +kernel) rfl
theorem q703 : (Jvm.Cond.methodLink "PegboardryLaw" (130 : Nat) ({ cls := "PegboardryLaw", name := "givens", desc := "(LPegboardry;I[J)I" } : Jvm.MethodName)) ∈ WW := inW 703 (by decide +kernel) rfl
theorem q704 : (Jvm.Cond.static ({ cls := "PegboardryLaw", name := "givens", desc := "(LPegboardry;I[J)I" } : Jvm.MethodName)) ∈ WW := inW 704 (by decide +kernel) rfl
theorem q705 : (Jvm.Cond.codeWith ({ cls := "PegboardryLaw", name := "givens", desc := "(LPegboardry;I[J)I" } : Jvm.MethodName) method_8_code (4 : Nat) (Option.some Jvm.ClassFile.FieldType.int) [((0 : Nat), (9 : Nat), (12 : Nat), (19 : Nat))]) ∈ WW := inW 705 (by decide +kernel) rfl
theorem q714 : (Jvm.Cond.methodLink "PegboardryLaw" (134 : Nat) ({ cls := "PegboardryLaw", name := "solutions", desc := "(LPegboardry;I[J)I" } : Jvm.MethodName)) ∈ WW := inW 714 (by decide +kernel) rfl
theorem q715 : (Jvm.Cond.static ({ cls := "PegboardryLaw", name := "solutions", desc := "(LPegboardry;I[J)I" } : Jvm.MethodName)) ∈ WW := inW 715 (by decide +kernel) rfl
theorem q716 : (Jvm.Cond.codeWith ({ cls := "PegboardryLaw", name := "solutions", desc := "(LPegboardry;I[J)I" } : Jvm.MethodName) method_9_code (4 : Nat) (Option.some Jvm.ClassFile.FieldType.int) [((0 : Nat), (9 : Nat), (12 : Nat), (19 : Nat))]) ∈ WW := inW 716 (by decide +kernel) rfl
theorem q721 : (Jvm.Cond.methodLink "PegboardryLaw" (137 : Nat) ({ cls := "PegboardryLaw", name := "solution", desc := "(LPegboardry;II[J)I" } : Jvm.MethodName)) ∈ WW := inW 721 (by decide +kernel) rfl
theorem q722 : (Jvm.Cond.static ({ cls := "PegboardryLaw", name := "solution", desc := "(LPegboardry;II[J)I" } : Jvm.MethodName)) ∈ WW := inW 722 (by decide +kernel) rfl
theorem q723 : (Jvm.Cond.codeWith ({ cls := "PegboardryLaw", name := "solution", desc := "(LPegboardry;II[J)I" } : Jvm.MethodName) method_10_code (5 : Nat) (Option.some Jvm.ClassFile.FieldType.int) [((0 : Nat), (10 : Nat), (13 : Nat), (19 : Nat)), ((0 : Nat), (10 : Nat), (17 : Nat), (45 : Nat))]) ∈ WW := inW 723 (by decide +kernel) rfl
theorem q745 : (Jvm.Cond.methodLink "PegboardryLaw" (140 : Nat) ({ cls := "PegboardryLaw", name := "solve", desc := "(LPegboardry;I[J)I" } : Jvm.MethodName)) ∈ WW := inW 745 (by decide +kernel) rfl
theorem q746 : (Jvm.Cond.static ({ cls := "PegboardryLaw", name := "solve", desc := "(LPegboardry;I[J)I" } : Jvm.MethodName)) ∈ WW := inW 746 (by decide +kernel) rfl
theorem q747 : (Jvm.Cond.codeWith ({ cls := "PegboardryLaw", name := "solve", desc := "(LPegboardry;I[J)I" } : Jvm.MethodName) method_11_code (4 : Nat) (Option.some Jvm.ClassFile.FieldType.int) [((0 : Nat), (9 : Nat), (12 : Nat), (19 : Nat))]) ∈ WW := inW 747 (by decide +kernel) rfl
theorem q752 : (Jvm.Cond.methodLink "PegboardryLaw" (143 : Nat) ({ cls := "PegboardryLaw", name := "steps", desc := "(LPegboardry;I[J)I" } : Jvm.MethodName)) ∈ WW := inW 752 (by decide +kernel) rfl
theorem q753 : (Jvm.Cond.static ({ cls := "PegboardryLaw", name := "steps", desc := "(LPegboardry;I[J)I" } : Jvm.MethodName)) ∈ WW := inW 753 (by decide +kernel) rfl
theorem q754 : (Jvm.Cond.codeWith ({ cls := "PegboardryLaw", name := "steps", desc := "(LPegboardry;I[J)I" } : Jvm.MethodName) method_12_code (4 : Nat) (Option.some Jvm.ClassFile.FieldType.int) [((0 : Nat), (9 : Nat), (12 : Nat), (19 : Nat))]) ∈ WW := inW 754 (by decide +kernel) rfl
theorem q759 : (Jvm.Cond.methodLink "PegboardryLaw" (146 : Nat) ({ cls := "PegboardryLaw", name := "stepAt", desc := "(LPegboardry;II[J)I" } : Jvm.MethodName)) ∈ WW := inW 759 (by decide +kernel) rfl
theorem q760 : (Jvm.Cond.static ({ cls := "PegboardryLaw", name := "stepAt", desc := "(LPegboardry;II[J)I" } : Jvm.MethodName)) ∈ WW := inW 760 (by decide +kernel) rfl
theorem q761 : (Jvm.Cond.codeWith ({ cls := "PegboardryLaw", name := "stepAt", desc := "(LPegboardry;II[J)I" } : Jvm.MethodName) method_13_code (5 : Nat) (Option.some Jvm.ClassFile.FieldType.int) [((0 : Nat), (10 : Nat), (13 : Nat), (19 : Nat)), ((0 : Nat), (10 : Nat), (17 : Nat), (45 : Nat))]) ∈ WW := inW 761 (by decide +kernel) rfl
theorem q767 : (Jvm.Cond.methodLink "PegboardryLaw" (149 : Nat) ({ cls := "PegboardryLaw", name := "grade", desc := "(LPegboardry;I[J)I" } : Jvm.MethodName)) ∈ WW := inW 767 (by decide +kernel) rfl
theorem q768 : (Jvm.Cond.static ({ cls := "PegboardryLaw", name := "grade", desc := "(LPegboardry;I[J)I" } : Jvm.MethodName)) ∈ WW := inW 768 (by decide +kernel) rfl
theorem q769 : (Jvm.Cond.codeWith ({ cls := "PegboardryLaw", name := "grade", desc := "(LPegboardry;I[J)I" } : Jvm.MethodName) method_14_code (4 : Nat) (Option.some Jvm.ClassFile.FieldType.int) [((0 : Nat), (9 : Nat), (12 : Nat), (19 : Nat)), ((0 : Nat), (9 : Nat), (15 : Nat), (26 : Nat))]) ∈ WW := inW 769 (by decide +kernel) rfl
theorem q779 : (Jvm.Cond.methodLink "PegboardryLaw" (152 : Nat) ({ cls := "PegboardryLaw", name := "isMinimal", desc := "(LPegboardry;I[J)I" } : Jvm.MethodName)) ∈ WW := inW 779 (by decide +kernel) rfl
theorem q780 : (Jvm.Cond.static ({ cls := "PegboardryLaw", name := "isMinimal", desc := "(LPegboardry;I[J)I" } : Jvm.MethodName)) ∈ WW := inW 780 (by decide +kernel) rfl
theorem q781 : (Jvm.Cond.codeWith ({ cls := "PegboardryLaw", name := "isMinimal", desc := "(LPegboardry;I[J)I" } : Jvm.MethodName) method_15_code (4 : Nat) (Option.some Jvm.ClassFile.FieldType.int) [((0 : Nat), (16 : Nat), (19 : Nat), (19 : Nat))]) ∈ WW := inW 781 (by decide +kernel) rfl
theorem q787 : (Jvm.Cond.methodLink "PegboardryLaw" (155 : Nat) ({ cls := "PegboardryLaw", name := "areAlike", desc := "(LPegboardry;II[J)I" } : Jvm.MethodName)) ∈ WW := inW 787 (by decide +kernel) rfl
theorem q788 : (Jvm.Cond.static ({ cls := "PegboardryLaw", name := "areAlike", desc := "(LPegboardry;II[J)I" } : Jvm.MethodName)) ∈ WW := inW 788 (by decide +kernel) rfl
theorem q789 : (Jvm.Cond.codeWith ({ cls := "PegboardryLaw", name := "areAlike", desc := "(LPegboardry;II[J)I" } : Jvm.MethodName) method_16_code (5 : Nat) (Option.some Jvm.ClassFile.FieldType.int) [((0 : Nat), (17 : Nat), (20 : Nat), (19 : Nat)), ((0 : Nat), (17 : Nat), (24 : Nat), (26 : Nat))]) ∈ WW := inW 789 (by decide +kernel) rfl
theorem q801 : (Jvm.Cond.methodLink "PegboardryLaw" (158 : Nat) ({ cls := "PegboardryLaw", name := "begin", desc := "(LPegboardry;I[J)I" } : Jvm.MethodName)) ∈ WW := inW 801 (by decide +kernel) rfl
theorem q802 : (Jvm.Cond.static ({ cls := "PegboardryLaw", name := "begin", desc := "(LPegboardry;I[J)I" } : Jvm.MethodName)) ∈ WW := inW 802 (by decide +kernel) rfl
theorem q803 : (Jvm.Cond.codeWith ({ cls := "PegboardryLaw", name := "begin", desc := "(LPegboardry;I[J)I" } : Jvm.MethodName) method_17_code (4 : Nat) (Option.some Jvm.ClassFile.FieldType.int) [((0 : Nat), (9 : Nat), (12 : Nat), (19 : Nat))]) ∈ WW := inW 803 (by decide +kernel) rfl
theorem q813 : (Jvm.Cond.methodLink "PegboardryLaw" (161 : Nat) ({ cls := "PegboardryLaw", name := "tell", desc := "(LPegboardry;III[J)I" } : Jvm.MethodName)) ∈ WW := inW 813 (by decide +kernel) rfl
theorem q814 : (Jvm.Cond.static ({ cls := "PegboardryLaw", name := "tell", desc := "(LPegboardry;III[J)I" } : Jvm.MethodName)) ∈ WW := inW 814 (by decide +kernel) rfl
theorem q815 : (Jvm.Cond.codeWith ({ cls := "PegboardryLaw", name := "tell", desc := "(LPegboardry;III[J)I" } : Jvm.MethodName) method_18_code (6 : Nat) (Option.some Jvm.ClassFile.FieldType.int) [((0 : Nat), (12 : Nat), (15 : Nat), (19 : Nat)), ((0 : Nat), (12 : Nat), (19 : Nat), (21 : Nat)), ((0 : Nat), (12 : Nat), (23 : Nat), (13 : Nat)), ((0 : Nat), (12 : Nat), (27 : Nat), (26 : Nat))]) ∈ WW := inW 815 (by decide +kernel) rfl
theorem q827 : (Jvm.Cond.methodLink "PegboardryLaw" (168 : Nat) ({ cls := "PegboardryLaw", name := "candidates", desc := "(LPegboardry;I[J)I" } : Jvm.MethodName)) ∈ WW := inW 827 (by decide +kernel) rfl
theorem q828 : (Jvm.Cond.static ({ cls := "PegboardryLaw", name := "candidates", desc := "(LPegboardry;I[J)I" } : Jvm.MethodName)) ∈ WW := inW 828 (by decide +kernel) rfl
theorem q829 : (Jvm.Cond.codeWith ({ cls := "PegboardryLaw", name := "candidates", desc := "(LPegboardry;I[J)I" } : Jvm.MethodName) method_19_code (4 : Nat) (Option.some Jvm.ClassFile.FieldType.int) [((0 : Nat), (9 : Nat), (12 : Nat), (19 : Nat)), ((0 : Nat), (9 : Nat), (15 : Nat), (13 : Nat))]) ∈ WW := inW 829 (by decide +kernel) rfl
theorem q838 : (Jvm.Cond.methodLink "PegboardryLaw" (171 : Nat) ({ cls := "PegboardryLaw", name := "isWhole", desc := "(LPegboardry;[J)I" } : Jvm.MethodName)) ∈ WW := inW 838 (by decide +kernel) rfl
theorem q839 : (Jvm.Cond.static ({ cls := "PegboardryLaw", name := "isWhole", desc := "(LPegboardry;[J)I" } : Jvm.MethodName)) ∈ WW := inW 839 (by decide +kernel) rfl
theorem q840 : (Jvm.Cond.codeWith ({ cls := "PegboardryLaw", name := "isWhole", desc := "(LPegboardry;[J)I" } : Jvm.MethodName) method_20_code (3 : Nat) (Option.some Jvm.ClassFile.FieldType.int) [((0 : Nat), (15 : Nat), (18 : Nat), (13 : Nat))]) ∈ WW := inW 840 (by decide +kernel) rfl
theorem q846 : (Jvm.Cond.methodLink "PegboardryLaw" (174 : Nat) ({ cls := "PegboardryLaw", name := "mark", desc := "(LPegboardry;III[J)I" } : Jvm.MethodName)) ∈ WW := inW 846 (by decide +kernel) rfl
theorem q847 : (Jvm.Cond.static ({ cls := "PegboardryLaw", name := "mark", desc := "(LPegboardry;III[J)I" } : Jvm.MethodName)) ∈ WW := inW 847 (by decide +kernel) rfl
theorem q848 : (Jvm.Cond.codeWith ({ cls := "PegboardryLaw", name := "mark", desc := "(LPegboardry;III[J)I" } : Jvm.MethodName) method_21_code (6 : Nat) (Option.some Jvm.ClassFile.FieldType.int) [((0 : Nat), (12 : Nat), (15 : Nat), (19 : Nat)), ((0 : Nat), (12 : Nat), (19 : Nat), (21 : Nat))]) ∈ WW := inW 848 (by decide +kernel) rfl
theorem q853 : (Jvm.Cond.methodLink "PegboardryLaw" (177 : Nat) ({ cls := "PegboardryLaw", name := "marked", desc := "(LPegboardry;II[J)I" } : Jvm.MethodName)) ∈ WW := inW 853 (by decide +kernel) rfl
theorem q854 : (Jvm.Cond.static ({ cls := "PegboardryLaw", name := "marked", desc := "(LPegboardry;II[J)I" } : Jvm.MethodName)) ∈ WW := inW 854 (by decide +kernel) rfl
theorem q855 : (Jvm.Cond.codeWith ({ cls := "PegboardryLaw", name := "marked", desc := "(LPegboardry;II[J)I" } : Jvm.MethodName) method_22_code (5 : Nat) (Option.some Jvm.ClassFile.FieldType.int) [((0 : Nat), (10 : Nat), (13 : Nat), (19 : Nat))]) ∈ WW := inW 855 (by decide +kernel) rfl
theorem q860 : (Jvm.Cond.methodLink "PegboardryLaw" (180 : Nat) ({ cls := "PegboardryLaw", name := "wrong", desc := "(LPegboardry;I[J)I" } : Jvm.MethodName)) ∈ WW := inW 860 (by decide +kernel) rfl
theorem q861 : (Jvm.Cond.static ({ cls := "PegboardryLaw", name := "wrong", desc := "(LPegboardry;I[J)I" } : Jvm.MethodName)) ∈ WW := inW 861 (by decide +kernel) rfl
theorem q862 : (Jvm.Cond.codeWith ({ cls := "PegboardryLaw", name := "wrong", desc := "(LPegboardry;I[J)I" } : Jvm.MethodName) method_23_code (4 : Nat) (Option.some Jvm.ClassFile.FieldType.int) [((0 : Nat), (9 : Nat), (12 : Nat), (19 : Nat)), ((0 : Nat), (9 : Nat), (15 : Nat), (45 : Nat))]) ∈ WW := inW 862 (by decide +kernel) rfl
theorem q871 : (Jvm.Cond.methodLink "PegboardryLaw" (183 : Nat) ({ cls := "PegboardryLaw", name := "hint", desc := "(LPegboardry;I[J)I" } : Jvm.MethodName)) ∈ WW := inW 871 (by decide +kernel) rfl
theorem q872 : (Jvm.Cond.static ({ cls := "PegboardryLaw", name := "hint", desc := "(LPegboardry;I[J)I" } : Jvm.MethodName)) ∈ WW := inW 872 (by decide +kernel) rfl
theorem q873 : (Jvm.Cond.codeWith ({ cls := "PegboardryLaw", name := "hint", desc := "(LPegboardry;I[J)I" } : Jvm.MethodName) method_24_code (4 : Nat) (Option.some Jvm.ClassFile.FieldType.int) [((0 : Nat), (9 : Nat), (12 : Nat), (19 : Nat)), ((0 : Nat), (9 : Nat), (15 : Nat), (26 : Nat)), ((0 : Nat), (9 : Nat), (18 : Nat), (45 : Nat))]) ∈ WW := inW 873 (by decide +kernel) rfl
theorem q888 : (Jvm.Cond.methodLink "PegboardryLaw" (191 : Nat) ({ cls := "PegboardryLaw", name := "solvedShare", desc := "(LPegboardry;[D)I" } : Jvm.MethodName)) ∈ WW := inW 888 (by decide +kernel) rfl
theorem q889 : (Jvm.Cond.static ({ cls := "PegboardryLaw", name := "solvedShare", desc := "(LPegboardry;[D)I" } : Jvm.MethodName)) ∈ WW := inW 889 (by decide +kernel) rfl
theorem q890 : (Jvm.Cond.codeWith ({ cls := "PegboardryLaw", name := "solvedShare", desc := "(LPegboardry;[D)I" } : Jvm.MethodName) method_25_code (3 : Nat) (Option.some Jvm.ClassFile.FieldType.int) [((0 : Nat), (8 : Nat), (11 : Nat), (97 : Nat))]) ∈ WW := inW 890 (by decide +kernel) rfl
theorem q912 : (Jvm.Cond.methodLink "PegboardryLaw" (195 : Nat) ({ cls := "PegboardryLaw", name := "meanGivens", desc := "(LPegboardry;[D)I" } : Jvm.MethodName)) ∈ WW := inW 912 (by decide +kernel) rfl
theorem q913 : (Jvm.Cond.static ({ cls := "PegboardryLaw", name := "meanGivens", desc := "(LPegboardry;[D)I" } : Jvm.MethodName)) ∈ WW := inW 913 (by decide +kernel) rfl
theorem q914 : (Jvm.Cond.codeWith ({ cls := "PegboardryLaw", name := "meanGivens", desc := "(LPegboardry;[D)I" } : Jvm.MethodName) method_26_code (3 : Nat) (Option.some Jvm.ClassFile.FieldType.int) [((0 : Nat), (7 : Nat), (10 : Nat), (97 : Nat))]) ∈ WW := inW 914 (by decide +kernel) rfl
theorem q946 : (Jvm.Cond.methodLink "PegboardryLaw" (113 : Nat) ({ cls := "PegboardryModel", name := "thrown", desc := "()I" } : Jvm.MethodName)) ∈ WW := inW 946 (by decide +kernel) rfl
theorem q947 : (Jvm.Cond.instanceMethod ({ cls := "PegboardryModel", name := "thrown", desc := "()I" } : Jvm.MethodName)) ∈ WW := inW 947 (by decide +kernel) rfl
theorem q948 : (Jvm.Cond.selects "PegboardryModel" ({ cls := "PegboardryModel", name := "thrown", desc := "()I" } : Jvm.MethodName) ({ cls := "PegboardryModel", name := "thrown", desc := "()I" } : Jvm.MethodName)) ∈ WW := inW 948 (by decide +kernel) rfl
theorem q949 : (Jvm.Cond.code ({ cls := "PegboardryModel", name := "thrown", desc := "()I" } : Jvm.MethodName) prog_9_method_2_code (1 : Nat) (Option.some Jvm.ClassFile.FieldType.int)) ∈ WW := inW 949 (by decide +kernel) rfl
theorem q950 : (Jvm.Cond.methodLink "PegboardryLaw" (112 : Nat) ({ cls := "PegboardryModel", name := "puzzle", desc := "()I" } : Jvm.MethodName)) ∈ WW := inW 950 (by decide +kernel) rfl
theorem q951 : (Jvm.Cond.instanceMethod ({ cls := "PegboardryModel", name := "puzzle", desc := "()I" } : Jvm.MethodName)) ∈ WW := inW 951 (by decide +kernel) rfl
theorem q952 : (Jvm.Cond.selects "PegboardryModel" ({ cls := "PegboardryModel", name := "puzzle", desc := "()I" } : Jvm.MethodName) ({ cls := "PegboardryModel", name := "puzzle", desc := "()I" } : Jvm.MethodName)) ∈ WW := inW 952 (by decide +kernel) rfl
theorem q953 : (Jvm.Cond.code ({ cls := "PegboardryModel", name := "puzzle", desc := "()I" } : Jvm.MethodName) prog_9_method_12_code (1 : Nat) (Option.some Jvm.ClassFile.FieldType.int)) ∈ WW := inW 953 (by decide +kernel) rfl
theorem q994 : (Jvm.Cond.methodLink "PegboardryLaw" (119 : Nat) ({ cls := "PegboardryModel", name := "give", desc := "(III)I" } : Jvm.MethodName)) ∈ WW := inW 994 (by decide +kernel) rfl
theorem q995 : (Jvm.Cond.instanceMethod ({ cls := "PegboardryModel", name := "give", desc := "(III)I" } : Jvm.MethodName)) ∈ WW := inW 995 (by decide +kernel) rfl
theorem q996 : (Jvm.Cond.selects "PegboardryModel" ({ cls := "PegboardryModel", name := "give", desc := "(III)I" } : Jvm.MethodName) ({ cls := "PegboardryModel", name := "give", desc := "(III)I" } : Jvm.MethodName)) ∈ WW := inW 996 (by decide +kernel) rfl
theorem q997 : (Jvm.Cond.code ({ cls := "PegboardryModel", name := "give", desc := "(III)I" } : Jvm.MethodName) prog_9_method_13_code (5 : Nat) (Option.some Jvm.ClassFile.FieldType.int)) ∈ WW := inW 997 (by decide +kernel) rfl
theorem q1019 : (Jvm.Cond.methodLink "PegboardryLaw" (122 : Nat) ({ cls := "PegboardryModel", name := "addCage", desc := "(III)I" } : Jvm.MethodName)) ∈ WW := inW 1019 (by decide +kernel) rfl
theorem q1020 : (Jvm.Cond.instanceMethod ({ cls := "PegboardryModel", name := "addCage", desc := "(III)I" } : Jvm.MethodName)) ∈ WW := inW 1020 (by decide +kernel) rfl
theorem q1021 : (Jvm.Cond.selects "PegboardryModel" ({ cls := "PegboardryModel", name := "addCage", desc := "(III)I" } : Jvm.MethodName) ({ cls := "PegboardryModel", name := "addCage", desc := "(III)I" } : Jvm.MethodName)) ∈ WW := inW 1021 (by decide +kernel) rfl
theorem q1022 : (Jvm.Cond.code ({ cls := "PegboardryModel", name := "addCage", desc := "(III)I" } : Jvm.MethodName) prog_9_method_14_code (5 : Nat) (Option.some Jvm.ClassFile.FieldType.int)) ∈ WW := inW 1022 (by decide +kernel) rfl
theorem q1039 : (Jvm.Cond.methodLink "PegboardryLaw" (126 : Nat) ({ cls := "PegboardryModel", name := "make", desc := "(II)I" } : Jvm.MethodName)) ∈ WW := inW 1039 (by decide +kernel) rfl
theorem q1040 : (Jvm.Cond.instanceMethod ({ cls := "PegboardryModel", name := "make", desc := "(II)I" } : Jvm.MethodName)) ∈ WW := inW 1040 (by decide +kernel) rfl
theorem q1041 : (Jvm.Cond.selects "PegboardryModel" ({ cls := "PegboardryModel", name := "make", desc := "(II)I" } : Jvm.MethodName) ({ cls := "PegboardryModel", name := "make", desc := "(II)I" } : Jvm.MethodName)) ∈ WW := inW 1041 (by decide +kernel) rfl
theorem q1042 : (Jvm.Cond.code ({ cls := "PegboardryModel", name := "make", desc := "(II)I" } : Jvm.MethodName) prog_9_method_16_code (8 : Nat) (Option.some Jvm.ClassFile.FieldType.int)) ∈ WW := inW 1042 (by decide +kernel) rfl
theorem q1217 : (Jvm.Cond.methodLink "PegboardryLaw" (129 : Nat) ({ cls := "PegboardryModel", name := "given", desc := "(II)I" } : Jvm.MethodName)) ∈ WW := inW 1217 (by decide +kernel) rfl
theorem q1218 : (Jvm.Cond.instanceMethod ({ cls := "PegboardryModel", name := "given", desc := "(II)I" } : Jvm.MethodName)) ∈ WW := inW 1218 (by decide +kernel) rfl
theorem q1219 : (Jvm.Cond.selects "PegboardryModel" ({ cls := "PegboardryModel", name := "given", desc := "(II)I" } : Jvm.MethodName) ({ cls := "PegboardryModel", name := "given", desc := "(II)I" } : Jvm.MethodName)) ∈ WW := inW 1219 (by decide +kernel) rfl
theorem q1220 : (Jvm.Cond.code ({ cls := "PegboardryModel", name := "given", desc := "(II)I" } : Jvm.MethodName) prog_9_method_18_code (3 : Nat) (Option.some Jvm.ClassFile.FieldType.int)) ∈ WW := inW 1220 (by decide +kernel) rfl
theorem q1221 : (Jvm.Cond.methodLink "PegboardryLaw" (133 : Nat) ({ cls := "PegboardryModel", name := "givens", desc := "(I)I" } : Jvm.MethodName)) ∈ WW := inW 1221 (by decide +kernel) rfl
theorem q1222 : (Jvm.Cond.instanceMethod ({ cls := "PegboardryModel", name := "givens", desc := "(I)I" } : Jvm.MethodName)) ∈ WW := inW 1222 (by decide +kernel) rfl
theorem q1223 : (Jvm.Cond.selects "PegboardryModel" ({ cls := "PegboardryModel", name := "givens", desc := "(I)I" } : Jvm.MethodName) ({ cls := "PegboardryModel", name := "givens", desc := "(I)I" } : Jvm.MethodName)) ∈ WW := inW 1223 (by decide +kernel) rfl
theorem q1224 : (Jvm.Cond.code ({ cls := "PegboardryModel", name := "givens", desc := "(I)I" } : Jvm.MethodName) prog_9_method_20_code (2 : Nat) (Option.some Jvm.ClassFile.FieldType.int)) ∈ WW := inW 1224 (by decide +kernel) rfl
theorem q1232 : (Jvm.Cond.methodLink "PegboardryLaw" (136 : Nat) ({ cls := "PegboardryModel", name := "solutions", desc := "(I)I" } : Jvm.MethodName)) ∈ WW := inW 1232 (by decide +kernel) rfl
theorem q1233 : (Jvm.Cond.instanceMethod ({ cls := "PegboardryModel", name := "solutions", desc := "(I)I" } : Jvm.MethodName)) ∈ WW := inW 1233 (by decide +kernel) rfl
theorem q1234 : (Jvm.Cond.selects "PegboardryModel" ({ cls := "PegboardryModel", name := "solutions", desc := "(I)I" } : Jvm.MethodName) ({ cls := "PegboardryModel", name := "solutions", desc := "(I)I" } : Jvm.MethodName)) ∈ WW := inW 1234 (by decide +kernel) rfl
theorem q1235 : (Jvm.Cond.code ({ cls := "PegboardryModel", name := "solutions", desc := "(I)I" } : Jvm.MethodName) prog_9_method_21_code (2 : Nat) (Option.some Jvm.ClassFile.FieldType.int)) ∈ WW := inW 1235 (by decide +kernel) rfl
theorem q1254 : (Jvm.Cond.methodLink "PegboardryLaw" (139 : Nat) ({ cls := "PegboardryModel", name := "solution", desc := "(II)I" } : Jvm.MethodName)) ∈ WW := inW 1254 (by decide +kernel) rfl
theorem q1255 : (Jvm.Cond.instanceMethod ({ cls := "PegboardryModel", name := "solution", desc := "(II)I" } : Jvm.MethodName)) ∈ WW := inW 1255 (by decide +kernel) rfl
theorem q1256 : (Jvm.Cond.selects "PegboardryModel" ({ cls := "PegboardryModel", name := "solution", desc := "(II)I" } : Jvm.MethodName) ({ cls := "PegboardryModel", name := "solution", desc := "(II)I" } : Jvm.MethodName)) ∈ WW := inW 1256 (by decide +kernel) rfl
theorem q1257 : (Jvm.Cond.code ({ cls := "PegboardryModel", name := "solution", desc := "(II)I" } : Jvm.MethodName) prog_9_method_22_code (4 : Nat) (Option.some Jvm.ClassFile.FieldType.int)) ∈ WW := inW 1257 (by decide +kernel) rfl
theorem q1258 : (Jvm.Cond.methodLink "PegboardryLaw" (142 : Nat) ({ cls := "PegboardryModel", name := "solve", desc := "(I)C" } : Jvm.MethodName)) ∈ WW := inW 1258 (by decide +kernel) rfl
theorem q1259 : (Jvm.Cond.instanceMethod ({ cls := "PegboardryModel", name := "solve", desc := "(I)C" } : Jvm.MethodName)) ∈ WW := inW 1259 (by decide +kernel) rfl
theorem q1260 : (Jvm.Cond.selects "PegboardryModel" ({ cls := "PegboardryModel", name := "solve", desc := "(I)C" } : Jvm.MethodName) ({ cls := "PegboardryModel", name := "solve", desc := "(I)C" } : Jvm.MethodName)) ∈ WW := inW 1260 (by decide +kernel) rfl
theorem q1261 : (Jvm.Cond.code ({ cls := "PegboardryModel", name := "solve", desc := "(I)C" } : Jvm.MethodName) prog_9_method_23_code (2 : Nat) (Option.some Jvm.ClassFile.FieldType.char)) ∈ WW := inW 1261 (by decide +kernel) rfl
theorem q1266 : (Jvm.Cond.methodLink "PegboardryLaw" (145 : Nat) ({ cls := "PegboardryModel", name := "steps", desc := "(I)I" } : Jvm.MethodName)) ∈ WW := inW 1266 (by decide +kernel) rfl
theorem q1267 : (Jvm.Cond.instanceMethod ({ cls := "PegboardryModel", name := "steps", desc := "(I)I" } : Jvm.MethodName)) ∈ WW := inW 1267 (by decide +kernel) rfl
theorem q1268 : (Jvm.Cond.selects "PegboardryModel" ({ cls := "PegboardryModel", name := "steps", desc := "(I)I" } : Jvm.MethodName) ({ cls := "PegboardryModel", name := "steps", desc := "(I)I" } : Jvm.MethodName)) ∈ WW := inW 1268 (by decide +kernel) rfl
theorem q1269 : (Jvm.Cond.code ({ cls := "PegboardryModel", name := "steps", desc := "(I)I" } : Jvm.MethodName) prog_9_method_24_code (2 : Nat) (Option.some Jvm.ClassFile.FieldType.int)) ∈ WW := inW 1269 (by decide +kernel) rfl
theorem q1270 : (Jvm.Cond.methodLink "PegboardryLaw" (148 : Nat) ({ cls := "PegboardryModel", name := "stepAt", desc := "(II)I" } : Jvm.MethodName)) ∈ WW := inW 1270 (by decide +kernel) rfl
theorem q1271 : (Jvm.Cond.instanceMethod ({ cls := "PegboardryModel", name := "stepAt", desc := "(II)I" } : Jvm.MethodName)) ∈ WW := inW 1271 (by decide +kernel) rfl
theorem q1272 : (Jvm.Cond.selects "PegboardryModel" ({ cls := "PegboardryModel", name := "stepAt", desc := "(II)I" } : Jvm.MethodName) ({ cls := "PegboardryModel", name := "stepAt", desc := "(II)I" } : Jvm.MethodName)) ∈ WW := inW 1272 (by decide +kernel) rfl
theorem q1273 : (Jvm.Cond.code ({ cls := "PegboardryModel", name := "stepAt", desc := "(II)I" } : Jvm.MethodName) prog_9_method_25_code (4 : Nat) (Option.some Jvm.ClassFile.FieldType.int)) ∈ WW := inW 1273 (by decide +kernel) rfl
theorem q1279 : (Jvm.Cond.methodLink "PegboardryLaw" (151 : Nat) ({ cls := "PegboardryModel", name := "grade", desc := "(I)I" } : Jvm.MethodName)) ∈ WW := inW 1279 (by decide +kernel) rfl
theorem q1280 : (Jvm.Cond.instanceMethod ({ cls := "PegboardryModel", name := "grade", desc := "(I)I" } : Jvm.MethodName)) ∈ WW := inW 1280 (by decide +kernel) rfl
theorem q1281 : (Jvm.Cond.selects "PegboardryModel" ({ cls := "PegboardryModel", name := "grade", desc := "(I)I" } : Jvm.MethodName) ({ cls := "PegboardryModel", name := "grade", desc := "(I)I" } : Jvm.MethodName)) ∈ WW := inW 1281 (by decide +kernel) rfl
theorem q1282 : (Jvm.Cond.code ({ cls := "PegboardryModel", name := "grade", desc := "(I)I" } : Jvm.MethodName) prog_9_method_26_code (7 : Nat) (Option.some Jvm.ClassFile.FieldType.int)) ∈ WW := inW 1282 (by decide +kernel) rfl
theorem q1290 : (Jvm.Cond.methodLink "PegboardryLaw" (154 : Nat) ({ cls := "PegboardryModel", name := "isMinimal", desc := "(I)Z" } : Jvm.MethodName)) ∈ WW := inW 1290 (by decide +kernel) rfl
theorem q1291 : (Jvm.Cond.instanceMethod ({ cls := "PegboardryModel", name := "isMinimal", desc := "(I)Z" } : Jvm.MethodName)) ∈ WW := inW 1291 (by decide +kernel) rfl
theorem q1292 : (Jvm.Cond.selects "PegboardryModel" ({ cls := "PegboardryModel", name := "isMinimal", desc := "(I)Z" } : Jvm.MethodName) ({ cls := "PegboardryModel", name := "isMinimal", desc := "(I)Z" } : Jvm.MethodName)) ∈ WW := inW 1292 (by decide +kernel) rfl
theorem q1293 : (Jvm.Cond.code ({ cls := "PegboardryModel", name := "isMinimal", desc := "(I)Z" } : Jvm.MethodName) prog_9_method_27_code (6 : Nat) (Option.some Jvm.ClassFile.FieldType.boolean)) ∈ WW := inW 1293 (by decide +kernel) rfl
theorem q1294 : (Jvm.Cond.methodLink "PegboardryLaw" (157 : Nat) ({ cls := "PegboardryModel", name := "areAlike", desc := "(II)Z" } : Jvm.MethodName)) ∈ WW := inW 1294 (by decide +kernel) rfl
theorem q1295 : (Jvm.Cond.instanceMethod ({ cls := "PegboardryModel", name := "areAlike", desc := "(II)Z" } : Jvm.MethodName)) ∈ WW := inW 1295 (by decide +kernel) rfl
theorem q1296 : (Jvm.Cond.selects "PegboardryModel" ({ cls := "PegboardryModel", name := "areAlike", desc := "(II)Z" } : Jvm.MethodName) ({ cls := "PegboardryModel", name := "areAlike", desc := "(II)Z" } : Jvm.MethodName)) ∈ WW := inW 1296 (by decide +kernel) rfl
theorem q1297 : (Jvm.Cond.code ({ cls := "PegboardryModel", name := "areAlike", desc := "(II)Z" } : Jvm.MethodName) prog_9_method_30_code (5 : Nat) (Option.some Jvm.ClassFile.FieldType.boolean)) ∈ WW := inW 1297 (by decide +kernel) rfl
theorem q1313 : (Jvm.Cond.methodLink "PegboardryLaw" (160 : Nat) ({ cls := "PegboardryModel", name := "begin", desc := "(I)I" } : Jvm.MethodName)) ∈ WW := inW 1313 (by decide +kernel) rfl
theorem q1314 : (Jvm.Cond.instanceMethod ({ cls := "PegboardryModel", name := "begin", desc := "(I)I" } : Jvm.MethodName)) ∈ WW := inW 1314 (by decide +kernel) rfl
theorem q1315 : (Jvm.Cond.selects "PegboardryModel" ({ cls := "PegboardryModel", name := "begin", desc := "(I)I" } : Jvm.MethodName) ({ cls := "PegboardryModel", name := "begin", desc := "(I)I" } : Jvm.MethodName)) ∈ WW := inW 1315 (by decide +kernel) rfl
theorem q1316 : (Jvm.Cond.code ({ cls := "PegboardryModel", name := "begin", desc := "(I)I" } : Jvm.MethodName) prog_9_method_31_code (2 : Nat) (Option.some Jvm.ClassFile.FieldType.int)) ∈ WW := inW 1316 (by decide +kernel) rfl
theorem q1318 : (Jvm.Cond.methodLink "PegboardryLaw" (163 : Nat) ({ cls := "PegboardryModel", name := "tell", desc := "(III)I" } : Jvm.MethodName)) ∈ WW := inW 1318 (by decide +kernel) rfl
theorem q1319 : (Jvm.Cond.instanceMethod ({ cls := "PegboardryModel", name := "tell", desc := "(III)I" } : Jvm.MethodName)) ∈ WW := inW 1319 (by decide +kernel) rfl
theorem q1320 : (Jvm.Cond.selects "PegboardryModel" ({ cls := "PegboardryModel", name := "tell", desc := "(III)I" } : Jvm.MethodName) ({ cls := "PegboardryModel", name := "tell", desc := "(III)I" } : Jvm.MethodName)) ∈ WW := inW 1320 (by decide +kernel) rfl
theorem q1321 : (Jvm.Cond.code ({ cls := "PegboardryModel", name := "tell", desc := "(III)I" } : Jvm.MethodName) prog_9_method_32_code (10 : Nat) (Option.some Jvm.ClassFile.FieldType.int)) ∈ WW := inW 1321 (by decide +kernel) rfl
theorem q1324 : (Jvm.Cond.methodLink "PegboardryLaw" (167 : Nat) ({ cls := "PegboardryModel", name := "reason", desc := "()I" } : Jvm.MethodName)) ∈ WW := inW 1324 (by decide +kernel) rfl
theorem q1325 : (Jvm.Cond.instanceMethod ({ cls := "PegboardryModel", name := "reason", desc := "()I" } : Jvm.MethodName)) ∈ WW := inW 1325 (by decide +kernel) rfl
theorem q1326 : (Jvm.Cond.selects "PegboardryModel" ({ cls := "PegboardryModel", name := "reason", desc := "()I" } : Jvm.MethodName) ({ cls := "PegboardryModel", name := "reason", desc := "()I" } : Jvm.MethodName)) ∈ WW := inW 1326 (by decide +kernel) rfl
theorem q1327 : (Jvm.Cond.code ({ cls := "PegboardryModel", name := "reason", desc := "()I" } : Jvm.MethodName) prog_9_method_33_code (1 : Nat) (Option.some Jvm.ClassFile.FieldType.int)) ∈ WW := inW 1327 (by decide +kernel) rfl
theorem q1328 : (Jvm.Cond.methodLink "PegboardryLaw" (170 : Nat) ({ cls := "PegboardryModel", name := "candidates", desc := "(I)I" } : Jvm.MethodName)) ∈ WW := inW 1328 (by decide +kernel) rfl
theorem q1329 : (Jvm.Cond.instanceMethod ({ cls := "PegboardryModel", name := "candidates", desc := "(I)I" } : Jvm.MethodName)) ∈ WW := inW 1329 (by decide +kernel) rfl
theorem q1330 : (Jvm.Cond.selects "PegboardryModel" ({ cls := "PegboardryModel", name := "candidates", desc := "(I)I" } : Jvm.MethodName) ({ cls := "PegboardryModel", name := "candidates", desc := "(I)I" } : Jvm.MethodName)) ∈ WW := inW 1330 (by decide +kernel) rfl
theorem q1331 : (Jvm.Cond.code ({ cls := "PegboardryModel", name := "candidates", desc := "(I)I" } : Jvm.MethodName) prog_9_method_34_code (2 : Nat) (Option.some Jvm.ClassFile.FieldType.int)) ∈ WW := inW 1331 (by decide +kernel) rfl
theorem q1332 : (Jvm.Cond.methodLink "PegboardryLaw" (173 : Nat) ({ cls := "PegboardryModel", name := "isWhole", desc := "()Z" } : Jvm.MethodName)) ∈ WW := inW 1332 (by decide +kernel) rfl
theorem q1333 : (Jvm.Cond.instanceMethod ({ cls := "PegboardryModel", name := "isWhole", desc := "()Z" } : Jvm.MethodName)) ∈ WW := inW 1333 (by decide +kernel) rfl
theorem q1334 : (Jvm.Cond.selects "PegboardryModel" ({ cls := "PegboardryModel", name := "isWhole", desc := "()Z" } : Jvm.MethodName) ({ cls := "PegboardryModel", name := "isWhole", desc := "()Z" } : Jvm.MethodName)) ∈ WW := inW 1334 (by decide +kernel) rfl
theorem q1335 : (Jvm.Cond.code ({ cls := "PegboardryModel", name := "isWhole", desc := "()Z" } : Jvm.MethodName) prog_9_method_35_code (6 : Nat) (Option.some Jvm.ClassFile.FieldType.boolean)) ∈ WW := inW 1335 (by decide +kernel) rfl
theorem q1336 : (Jvm.Cond.methodLink "PegboardryLaw" (176 : Nat) ({ cls := "PegboardryModel", name := "mark", desc := "(III)I" } : Jvm.MethodName)) ∈ WW := inW 1336 (by decide +kernel) rfl
theorem q1337 : (Jvm.Cond.instanceMethod ({ cls := "PegboardryModel", name := "mark", desc := "(III)I" } : Jvm.MethodName)) ∈ WW := inW 1337 (by decide +kernel) rfl
theorem q1338 : (Jvm.Cond.selects "PegboardryModel" ({ cls := "PegboardryModel", name := "mark", desc := "(III)I" } : Jvm.MethodName) ({ cls := "PegboardryModel", name := "mark", desc := "(III)I" } : Jvm.MethodName)) ∈ WW := inW 1338 (by decide +kernel) rfl
theorem q1339 : (Jvm.Cond.code ({ cls := "PegboardryModel", name := "mark", desc := "(III)I" } : Jvm.MethodName) prog_9_method_36_code (5 : Nat) (Option.some Jvm.ClassFile.FieldType.int)) ∈ WW := inW 1339 (by decide +kernel) rfl
theorem q1340 : (Jvm.Cond.methodLink "PegboardryLaw" (179 : Nat) ({ cls := "PegboardryModel", name := "marked", desc := "(II)I" } : Jvm.MethodName)) ∈ WW := inW 1340 (by decide +kernel) rfl
theorem q1341 : (Jvm.Cond.instanceMethod ({ cls := "PegboardryModel", name := "marked", desc := "(II)I" } : Jvm.MethodName)) ∈ WW := inW 1341 (by decide +kernel) rfl
theorem q1342 : (Jvm.Cond.selects "PegboardryModel" ({ cls := "PegboardryModel", name := "marked", desc := "(II)I" } : Jvm.MethodName) ({ cls := "PegboardryModel", name := "marked", desc := "(II)I" } : Jvm.MethodName)) ∈ WW := inW 1342 (by decide +kernel) rfl
theorem q1343 : (Jvm.Cond.code ({ cls := "PegboardryModel", name := "marked", desc := "(II)I" } : Jvm.MethodName) prog_9_method_37_code (3 : Nat) (Option.some Jvm.ClassFile.FieldType.int)) ∈ WW := inW 1343 (by decide +kernel) rfl
theorem q1344 : (Jvm.Cond.methodLink "PegboardryLaw" (182 : Nat) ({ cls := "PegboardryModel", name := "wrong", desc := "(I)I" } : Jvm.MethodName)) ∈ WW := inW 1344 (by decide +kernel) rfl
theorem q1345 : (Jvm.Cond.instanceMethod ({ cls := "PegboardryModel", name := "wrong", desc := "(I)I" } : Jvm.MethodName)) ∈ WW := inW 1345 (by decide +kernel) rfl
theorem q1346 : (Jvm.Cond.selects "PegboardryModel" ({ cls := "PegboardryModel", name := "wrong", desc := "(I)I" } : Jvm.MethodName) ({ cls := "PegboardryModel", name := "wrong", desc := "(I)I" } : Jvm.MethodName)) ∈ WW := inW 1346 (by decide +kernel) rfl
theorem q1347 : (Jvm.Cond.code ({ cls := "PegboardryModel", name := "wrong", desc := "(I)I" } : Jvm.MethodName) prog_9_method_39_code (3 : Nat) (Option.some Jvm.ClassFile.FieldType.int)) ∈ WW := inW 1347 (by decide +kernel) rfl
theorem q1351 : (Jvm.Cond.methodLink "PegboardryLaw" (185 : Nat) ({ cls := "PegboardryModel", name := "hint", desc := "(I)I" } : Jvm.MethodName)) ∈ WW := inW 1351 (by decide +kernel) rfl
theorem q1352 : (Jvm.Cond.instanceMethod ({ cls := "PegboardryModel", name := "hint", desc := "(I)I" } : Jvm.MethodName)) ∈ WW := inW 1352 (by decide +kernel) rfl
theorem q1353 : (Jvm.Cond.selects "PegboardryModel" ({ cls := "PegboardryModel", name := "hint", desc := "(I)I" } : Jvm.MethodName) ({ cls := "PegboardryModel", name := "hint", desc := "(I)I" } : Jvm.MethodName)) ∈ WW := inW 1353 (by decide +kernel) rfl
theorem q1354 : (Jvm.Cond.code ({ cls := "PegboardryModel", name := "hint", desc := "(I)I" } : Jvm.MethodName) prog_9_method_40_code (6 : Nat) (Option.some Jvm.ClassFile.FieldType.int)) ∈ WW := inW 1354 (by decide +kernel) rfl
theorem q1356 : (Jvm.Cond.methodLink "PegboardryLaw" (190 : Nat) ({ cls := "PegboardryModel", name := "checksum", desc := "()J" } : Jvm.MethodName)) ∈ WW := inW 1356 (by decide +kernel) rfl
theorem q1357 : (Jvm.Cond.instanceMethod ({ cls := "PegboardryModel", name := "checksum", desc := "()J" } : Jvm.MethodName)) ∈ WW := inW 1357 (by decide +kernel) rfl
theorem q1358 : (Jvm.Cond.selects "PegboardryModel" ({ cls := "PegboardryModel", name := "checksum", desc := "()J" } : Jvm.MethodName) ({ cls := "PegboardryModel", name := "checksum", desc := "()J" } : Jvm.MethodName)) ∈ WW := inW 1358 (by decide +kernel) rfl
theorem q1359 : (Jvm.Cond.code ({ cls := "PegboardryModel", name := "checksum", desc := "()J" } : Jvm.MethodName) prog_9_method_41_code (6 : Nat) (Option.some Jvm.ClassFile.FieldType.long)) ∈ WW := inW 1359 (by decide +kernel) rfl
theorem q1362 : (Jvm.Cond.methodLink "PegboardryLaw" (194 : Nat) ({ cls := "PegboardryModel", name := "solvedShare", desc := "()F" } : Jvm.MethodName)) ∈ WW := inW 1362 (by decide +kernel) rfl
theorem q1363 : (Jvm.Cond.instanceMethod ({ cls := "PegboardryModel", name := "solvedShare", desc := "()F" } : Jvm.MethodName)) ∈ WW := inW 1363 (by decide +kernel) rfl
theorem q1364 : (Jvm.Cond.selects "PegboardryModel" ({ cls := "PegboardryModel", name := "solvedShare", desc := "()F" } : Jvm.MethodName) ({ cls := "PegboardryModel", name := "solvedShare", desc := "()F" } : Jvm.MethodName)) ∈ WW := inW 1364 (by decide +kernel) rfl
theorem q1365 : (Jvm.Cond.code ({ cls := "PegboardryModel", name := "solvedShare", desc := "()F" } : Jvm.MethodName) prog_9_method_42_code (3 : Nat) (Option.some Jvm.ClassFile.FieldType.float)) ∈ WW := inW 1365 (by decide +kernel) rfl
theorem q1366 : (Jvm.Cond.methodLink "PegboardryLaw" (197 : Nat) ({ cls := "PegboardryModel", name := "meanGivens", desc := "()D" } : Jvm.MethodName)) ∈ WW := inW 1366 (by decide +kernel) rfl
theorem q1367 : (Jvm.Cond.instanceMethod ({ cls := "PegboardryModel", name := "meanGivens", desc := "()D" } : Jvm.MethodName)) ∈ WW := inW 1367 (by decide +kernel) rfl
theorem q1368 : (Jvm.Cond.selects "PegboardryModel" ({ cls := "PegboardryModel", name := "meanGivens", desc := "()D" } : Jvm.MethodName) ({ cls := "PegboardryModel", name := "meanGivens", desc := "()D" } : Jvm.MethodName)) ∈ WW := inW 1368 (by decide +kernel) rfl
theorem q1369 : (Jvm.Cond.code ({ cls := "PegboardryModel", name := "meanGivens", desc := "()D" } : Jvm.MethodName) prog_9_method_43_code (4 : Nat) (Option.some Jvm.ClassFile.FieldType.double)) ∈ WW := inW 1369 (by decide +kernel) rfl
theorem q1370 : (Jvm.Cond.methodLink "PegboardryLaw" (201 : Nat) ({ cls := "PegboardryModel", name := "isSound", desc := "()Z" } : Jvm.MethodName)) ∈ WW := inW 1370 (by decide +kernel) rfl
theorem q1371 : (Jvm.Cond.instanceMethod ({ cls := "PegboardryModel", name := "isSound", desc := "()Z" } : Jvm.MethodName)) ∈ WW := inW 1371 (by decide +kernel) rfl
theorem q1372 : (Jvm.Cond.selects "PegboardryModel" ({ cls := "PegboardryModel", name := "isSound", desc := "()Z" } : Jvm.MethodName) ({ cls := "PegboardryModel", name := "isSound", desc := "()Z" } : Jvm.MethodName)) ∈ WW := inW 1372 (by decide +kernel) rfl
theorem q1373 : (Jvm.Cond.code ({ cls := "PegboardryModel", name := "isSound", desc := "()Z" } : Jvm.MethodName) prog_9_method_44_code (1 : Nat) (Option.some Jvm.ClassFile.FieldType.boolean)) ∈ WW := inW 1373 (by decide +kernel) rfl
theorem dL_law_168 : decode cL_law 168 = .ok (.aload_n 1, 1) := by decide +kernel
theorem dL_law_169 : decode cL_law 169 = .ok (.aload_n 3, 1) := by decide +kernel
theorem dL_law_170 : decode cL_law 170 = .ok (.invokestatic 107, 3) := by decide +kernel
theorem dL_law_173 : decode cL_law 173 = .ok (.istore 6, 2) := by decide +kernel
theorem dL_law_175 : decode cL_law 175 = .ok (.aload_n 2, 1) := by decide +kernel
theorem dL_law_176 : decode cL_law 176 = .ok (.invokevirtual 112, 3) := by decide +kernel
theorem dL_law_179 : decode cL_law 179 = .ok (.istore 7, 2) := by decide +kernel
theorem dL_law_181 : decode cL_law 181 = .ok (.aload_n 2, 1) := by decide +kernel
theorem dL_law_182 : decode cL_law 182 = .ok (.invokevirtual 113, 3) := by decide +kernel
theorem dL_law_185 : decode cL_law 185 = .ok (.iload 6, 2) := by decide +kernel
theorem dL_law_187 : decode cL_law 187 = .ok (.if_icmp .eq 5, 3) := by decide +kernel
theorem dL_law_192 : decode cL_law 192 = .ok (.iload 6, 2) := by decide +kernel
theorem dL_law_194 : decode cL_law 194 = .ok (.ifCond .ne 15, 3) := by decide +kernel
theorem dL_law_197 : decode cL_law 197 = .ok (.aload_n 3, 1) := by decide +kernel
theorem dL_law_198 : decode cL_law 198 = .ok (.iconst 0, 1) := by decide +kernel
theorem dL_law_199 : decode cL_law 199 = .ok (.laload, 1) := by decide +kernel
theorem dL_law_200 : decode cL_law 200 = .ok (.iload 7, 2) := by decide +kernel
theorem dL_law_202 : decode cL_law 202 = .ok (.i2l, 1) := by decide +kernel
theorem dL_law_203 : decode cL_law 203 = .ok (.lcmp, 1) := by decide +kernel
theorem dL_law_204 : decode cL_law 204 = .ok (.ifCond .eq 5, 3) := by decide +kernel
theorem dL_law_209 : decode cL_law 209 = .ok (.goto 1527, 3) := by decide +kernel
theorem dL_law_1736 : decode cL_law 1736 = .ok (.iinc 5 4, 3) := by decide +kernel
theorem dL_law_1739 : decode cL_law 1739 = .ok (.goto (-1711), 3) := by decide +kernel
theorem dL_law_28 : decode cL_law 28 = .ok (.iload 5, 2) := by decide +kernel
theorem dL_law_30 : decode cL_law 30 = .ok (.aload_n 0, 1) := by decide +kernel
theorem dL_law_31 : decode cL_law 31 = .ok (.arraylength, 1) := by decide +kernel
theorem dL_law_32 : decode cL_law 32 = .ok (.iconst 4, 1) := by decide +kernel
theorem dL_law_33 : decode cL_law 33 = .ok (.isub, 1) := by decide +kernel
theorem dL_law_34 : decode cL_law 34 = .ok (.if_icmp .gt 1708, 3) := by decide +kernel
theorem dL_law_1742 : decode cL_law 1742 = .ok (.iconst 1, 1) := by decide +kernel
theorem dL_law_1743 : decode cL_law 1743 = .ok (.ireturn, 1) := by decide +kernel
theorem dL_law_212 : decode cL_law 212 = .ok (.aload_n 1, 1) := by decide +kernel
theorem dL_law_213 : decode cL_law 213 = .ok (.aload_n 0, 1) := by decide +kernel
theorem dL_law_214 : decode cL_law 214 = .ok (.iload 5, 2) := by decide +kernel
theorem dL_law_216 : decode cL_law 216 = .ok (.iconst 1, 1) := by decide +kernel
theorem dL_law_217 : decode cL_law 217 = .ok (.iadd, 1) := by decide +kernel
theorem dL_law_218 : decode cL_law 218 = .ok (.iaload, 1) := by decide +kernel
theorem dL_law_219 : decode cL_law 219 = .ok (.aload_n 0, 1) := by decide +kernel
theorem dL_law_220 : decode cL_law 220 = .ok (.iload 5, 2) := by decide +kernel
theorem dL_law_222 : decode cL_law 222 = .ok (.iconst 2, 1) := by decide +kernel
theorem dL_law_223 : decode cL_law 223 = .ok (.iadd, 1) := by decide +kernel
theorem dL_law_224 : decode cL_law 224 = .ok (.iaload, 1) := by decide +kernel
theorem dL_law_225 : decode cL_law 225 = .ok (.aload_n 0, 1) := by decide +kernel
theorem dL_law_226 : decode cL_law 226 = .ok (.iload 5, 2) := by decide +kernel
theorem dL_law_228 : decode cL_law 228 = .ok (.iconst 3, 1) := by decide +kernel
theorem dL_law_229 : decode cL_law 229 = .ok (.iadd, 1) := by decide +kernel
theorem dL_law_230 : decode cL_law 230 = .ok (.iaload, 1) := by decide +kernel
theorem dL_law_231 : decode cL_law 231 = .ok (.aload_n 3, 1) := by decide +kernel
theorem dL_law_232 : decode cL_law 232 = .ok (.invokestatic 116, 3) := by decide +kernel
theorem dL_law_235 : decode cL_law 235 = .ok (.istore 6, 2) := by decide +kernel
theorem dL_law_237 : decode cL_law 237 = .ok (.aload_n 2, 1) := by decide +kernel
theorem dL_law_238 : decode cL_law 238 = .ok (.aload_n 0, 1) := by decide +kernel
theorem dL_law_239 : decode cL_law 239 = .ok (.iload 5, 2) := by decide +kernel
theorem dL_law_241 : decode cL_law 241 = .ok (.iconst 1, 1) := by decide +kernel
theorem dL_law_242 : decode cL_law 242 = .ok (.iadd, 1) := by decide +kernel
theorem dL_law_243 : decode cL_law 243 = .ok (.iaload, 1) := by decide +kernel
theorem dL_law_244 : decode cL_law 244 = .ok (.aload_n 0, 1) := by decide +kernel
theorem dL_law_245 : decode cL_law 245 = .ok (.iload 5, 2) := by decide +kernel
theorem dL_law_247 : decode cL_law 247 = .ok (.iconst 2, 1) := by decide +kernel
theorem dL_law_248 : decode cL_law 248 = .ok (.iadd, 1) := by decide +kernel
theorem dL_law_249 : decode cL_law 249 = .ok (.iaload, 1) := by decide +kernel
theorem dL_law_250 : decode cL_law 250 = .ok (.aload_n 0, 1) := by decide +kernel
theorem dL_law_251 : decode cL_law 251 = .ok (.iload 5, 2) := by decide +kernel
theorem dL_law_253 : decode cL_law 253 = .ok (.iconst 3, 1) := by decide +kernel
theorem dL_law_254 : decode cL_law 254 = .ok (.iadd, 1) := by decide +kernel
theorem dL_law_255 : decode cL_law 255 = .ok (.iaload, 1) := by decide +kernel
theorem dL_law_256 : decode cL_law 256 = .ok (.invokevirtual 119, 3) := by decide +kernel
theorem dL_law_259 : decode cL_law 259 = .ok (.istore 7, 2) := by decide +kernel
theorem dL_law_261 : decode cL_law 261 = .ok (.aload_n 2, 1) := by decide +kernel
theorem dL_law_262 : decode cL_law 262 = .ok (.invokevirtual 113, 3) := by decide +kernel
theorem dL_law_265 : decode cL_law 265 = .ok (.iload 6, 2) := by decide +kernel
theorem dL_law_267 : decode cL_law 267 = .ok (.if_icmp .eq 5, 3) := by decide +kernel
theorem dL_law_272 : decode cL_law 272 = .ok (.iload 6, 2) := by decide +kernel
theorem dL_law_274 : decode cL_law 274 = .ok (.ifCond .ne 15, 3) := by decide +kernel
theorem dL_law_289 : decode cL_law 289 = .ok (.goto 1447, 3) := by decide +kernel
theorem dL_law_292 : decode cL_law 292 = .ok (.aload_n 1, 1) := by decide +kernel
theorem dL_law_293 : decode cL_law 293 = .ok (.aload_n 0, 1) := by decide +kernel
theorem dL_law_294 : decode cL_law 294 = .ok (.iload 5, 2) := by decide +kernel
theorem dL_law_296 : decode cL_law 296 = .ok (.iconst 1, 1) := by decide +kernel
theorem dL_law_297 : decode cL_law 297 = .ok (.iadd, 1) := by decide +kernel
theorem dL_law_298 : decode cL_law 298 = .ok (.iaload, 1) := by decide +kernel
theorem dL_law_299 : decode cL_law 299 = .ok (.aload_n 0, 1) := by decide +kernel
theorem dL_law_300 : decode cL_law 300 = .ok (.iload 5, 2) := by decide +kernel
theorem dL_law_302 : decode cL_law 302 = .ok (.iconst 2, 1) := by decide +kernel
theorem dL_law_303 : decode cL_law 303 = .ok (.iadd, 1) := by decide +kernel
theorem dL_law_304 : decode cL_law 304 = .ok (.iaload, 1) := by decide +kernel
theorem dL_law_305 : decode cL_law 305 = .ok (.aload_n 0, 1) := by decide +kernel
theorem dL_law_306 : decode cL_law 306 = .ok (.iload 5, 2) := by decide +kernel
theorem dL_law_308 : decode cL_law 308 = .ok (.iconst 3, 1) := by decide +kernel
theorem dL_law_309 : decode cL_law 309 = .ok (.iadd, 1) := by decide +kernel
theorem dL_law_310 : decode cL_law 310 = .ok (.iaload, 1) := by decide +kernel
theorem dL_law_311 : decode cL_law 311 = .ok (.aload_n 3, 1) := by decide +kernel
theorem dL_law_312 : decode cL_law 312 = .ok (.invokestatic 120, 3) := by decide +kernel
theorem dL_law_315 : decode cL_law 315 = .ok (.istore 6, 2) := by decide +kernel
theorem dL_law_317 : decode cL_law 317 = .ok (.aload_n 2, 1) := by decide +kernel
theorem dL_law_318 : decode cL_law 318 = .ok (.aload_n 0, 1) := by decide +kernel
theorem dL_law_319 : decode cL_law 319 = .ok (.iload 5, 2) := by decide +kernel
theorem dL_law_321 : decode cL_law 321 = .ok (.iconst 1, 1) := by decide +kernel
theorem dL_law_322 : decode cL_law 322 = .ok (.iadd, 1) := by decide +kernel
theorem dL_law_323 : decode cL_law 323 = .ok (.iaload, 1) := by decide +kernel
theorem dL_law_324 : decode cL_law 324 = .ok (.aload_n 0, 1) := by decide +kernel
theorem dL_law_325 : decode cL_law 325 = .ok (.iload 5, 2) := by decide +kernel
theorem dL_law_327 : decode cL_law 327 = .ok (.iconst 2, 1) := by decide +kernel
theorem dL_law_328 : decode cL_law 328 = .ok (.iadd, 1) := by decide +kernel
theorem dL_law_329 : decode cL_law 329 = .ok (.iaload, 1) := by decide +kernel
theorem dL_law_330 : decode cL_law 330 = .ok (.aload_n 0, 1) := by decide +kernel
theorem dL_law_331 : decode cL_law 331 = .ok (.iload 5, 2) := by decide +kernel
theorem dL_law_333 : decode cL_law 333 = .ok (.iconst 3, 1) := by decide +kernel
theorem dL_law_334 : decode cL_law 334 = .ok (.iadd, 1) := by decide +kernel
theorem dL_law_335 : decode cL_law 335 = .ok (.iaload, 1) := by decide +kernel
theorem dL_law_336 : decode cL_law 336 = .ok (.invokevirtual 122, 3) := by decide +kernel
theorem dL_law_339 : decode cL_law 339 = .ok (.istore 7, 2) := by decide +kernel
theorem dL_law_341 : decode cL_law 341 = .ok (.aload_n 2, 1) := by decide +kernel
theorem dL_law_342 : decode cL_law 342 = .ok (.invokevirtual 113, 3) := by decide +kernel
theorem dL_law_345 : decode cL_law 345 = .ok (.iload 6, 2) := by decide +kernel
theorem dL_law_347 : decode cL_law 347 = .ok (.if_icmp .eq 5, 3) := by decide +kernel
theorem dL_law_352 : decode cL_law 352 = .ok (.iload 6, 2) := by decide +kernel
theorem dL_law_354 : decode cL_law 354 = .ok (.ifCond .ne 15, 3) := by decide +kernel
theorem dL_law_369 : decode cL_law 369 = .ok (.goto 1367, 3) := by decide +kernel
theorem dL_law_440 : decode cL_law 440 = .ok (.aload_n 1, 1) := by decide +kernel
theorem dL_law_441 : decode cL_law 441 = .ok (.aload_n 0, 1) := by decide +kernel
theorem dL_law_442 : decode cL_law 442 = .ok (.iload 5, 2) := by decide +kernel
theorem dL_law_444 : decode cL_law 444 = .ok (.iconst 1, 1) := by decide +kernel
theorem dL_law_445 : decode cL_law 445 = .ok (.iadd, 1) := by decide +kernel
theorem dL_law_446 : decode cL_law 446 = .ok (.iaload, 1) := by decide +kernel
theorem dL_law_447 : decode cL_law 447 = .ok (.aload_n 0, 1) := by decide +kernel
theorem dL_law_448 : decode cL_law 448 = .ok (.iload 5, 2) := by decide +kernel
theorem dL_law_450 : decode cL_law 450 = .ok (.iconst 2, 1) := by decide +kernel
theorem dL_law_451 : decode cL_law 451 = .ok (.iadd, 1) := by decide +kernel
theorem dL_law_452 : decode cL_law 452 = .ok (.iaload, 1) := by decide +kernel
theorem dL_law_453 : decode cL_law 453 = .ok (.aload_n 3, 1) := by decide +kernel
theorem dL_law_454 : decode cL_law 454 = .ok (.invokestatic 127, 3) := by decide +kernel
theorem dL_law_457 : decode cL_law 457 = .ok (.istore 6, 2) := by decide +kernel
theorem dL_law_459 : decode cL_law 459 = .ok (.aload_n 2, 1) := by decide +kernel
theorem dL_law_460 : decode cL_law 460 = .ok (.aload_n 0, 1) := by decide +kernel
theorem dL_law_461 : decode cL_law 461 = .ok (.iload 5, 2) := by decide +kernel
theorem dL_law_463 : decode cL_law 463 = .ok (.iconst 1, 1) := by decide +kernel
theorem dL_law_464 : decode cL_law 464 = .ok (.iadd, 1) := by decide +kernel
theorem dL_law_465 : decode cL_law 465 = .ok (.iaload, 1) := by decide +kernel
theorem dL_law_466 : decode cL_law 466 = .ok (.aload_n 0, 1) := by decide +kernel
theorem dL_law_467 : decode cL_law 467 = .ok (.iload 5, 2) := by decide +kernel
theorem dL_law_469 : decode cL_law 469 = .ok (.iconst 2, 1) := by decide +kernel
theorem dL_law_470 : decode cL_law 470 = .ok (.iadd, 1) := by decide +kernel
theorem dL_law_471 : decode cL_law 471 = .ok (.iaload, 1) := by decide +kernel
theorem dL_law_472 : decode cL_law 472 = .ok (.invokevirtual 129, 3) := by decide +kernel
theorem dL_law_475 : decode cL_law 475 = .ok (.istore 7, 2) := by decide +kernel
theorem dL_law_477 : decode cL_law 477 = .ok (.aload_n 2, 1) := by decide +kernel
theorem dL_law_478 : decode cL_law 478 = .ok (.invokevirtual 113, 3) := by decide +kernel
theorem dL_law_481 : decode cL_law 481 = .ok (.iload 6, 2) := by decide +kernel
theorem dL_law_483 : decode cL_law 483 = .ok (.if_icmp .eq 5, 3) := by decide +kernel
theorem dL_law_488 : decode cL_law 488 = .ok (.iload 6, 2) := by decide +kernel
theorem dL_law_490 : decode cL_law 490 = .ok (.ifCond .ne 15, 3) := by decide +kernel
theorem dL_law_505 : decode cL_law 505 = .ok (.goto 1231, 3) := by decide +kernel
theorem dL_law_508 : decode cL_law 508 = .ok (.aload_n 1, 1) := by decide +kernel
theorem dL_law_509 : decode cL_law 509 = .ok (.aload_n 0, 1) := by decide +kernel
theorem dL_law_510 : decode cL_law 510 = .ok (.iload 5, 2) := by decide +kernel
theorem dL_law_512 : decode cL_law 512 = .ok (.iconst 1, 1) := by decide +kernel
theorem dL_law_513 : decode cL_law 513 = .ok (.iadd, 1) := by decide +kernel
theorem dL_law_514 : decode cL_law 514 = .ok (.iaload, 1) := by decide +kernel
theorem dL_law_515 : decode cL_law 515 = .ok (.aload_n 3, 1) := by decide +kernel
theorem dL_law_516 : decode cL_law 516 = .ok (.invokestatic 130, 3) := by decide +kernel
theorem dL_law_519 : decode cL_law 519 = .ok (.istore 6, 2) := by decide +kernel
theorem dL_law_521 : decode cL_law 521 = .ok (.aload_n 2, 1) := by decide +kernel
theorem dL_law_522 : decode cL_law 522 = .ok (.aload_n 0, 1) := by decide +kernel
theorem dL_law_523 : decode cL_law 523 = .ok (.iload 5, 2) := by decide +kernel
theorem dL_law_525 : decode cL_law 525 = .ok (.iconst 1, 1) := by decide +kernel
theorem dL_law_526 : decode cL_law 526 = .ok (.iadd, 1) := by decide +kernel
theorem dL_law_527 : decode cL_law 527 = .ok (.iaload, 1) := by decide +kernel
theorem dL_law_528 : decode cL_law 528 = .ok (.invokevirtual 133, 3) := by decide +kernel
theorem dL_law_531 : decode cL_law 531 = .ok (.istore 7, 2) := by decide +kernel
theorem dL_law_533 : decode cL_law 533 = .ok (.aload_n 2, 1) := by decide +kernel
theorem dL_law_534 : decode cL_law 534 = .ok (.invokevirtual 113, 3) := by decide +kernel
theorem dL_law_537 : decode cL_law 537 = .ok (.iload 6, 2) := by decide +kernel
theorem dL_law_539 : decode cL_law 539 = .ok (.if_icmp .eq 5, 3) := by decide +kernel
theorem dL_law_544 : decode cL_law 544 = .ok (.iload 6, 2) := by decide +kernel
theorem dL_law_546 : decode cL_law 546 = .ok (.ifCond .ne 15, 3) := by decide +kernel
theorem dL_law_561 : decode cL_law 561 = .ok (.goto 1175, 3) := by decide +kernel
theorem dL_law_564 : decode cL_law 564 = .ok (.aload_n 1, 1) := by decide +kernel
theorem dL_law_565 : decode cL_law 565 = .ok (.aload_n 0, 1) := by decide +kernel
theorem dL_law_566 : decode cL_law 566 = .ok (.iload 5, 2) := by decide +kernel
theorem dL_law_568 : decode cL_law 568 = .ok (.iconst 1, 1) := by decide +kernel
theorem dL_law_569 : decode cL_law 569 = .ok (.iadd, 1) := by decide +kernel
theorem dL_law_570 : decode cL_law 570 = .ok (.iaload, 1) := by decide +kernel
theorem dL_law_571 : decode cL_law 571 = .ok (.aload_n 3, 1) := by decide +kernel
theorem dL_law_572 : decode cL_law 572 = .ok (.invokestatic 134, 3) := by decide +kernel
theorem dL_law_575 : decode cL_law 575 = .ok (.istore 6, 2) := by decide +kernel
theorem dL_law_577 : decode cL_law 577 = .ok (.aload_n 2, 1) := by decide +kernel
theorem dL_law_578 : decode cL_law 578 = .ok (.aload_n 0, 1) := by decide +kernel
theorem dL_law_579 : decode cL_law 579 = .ok (.iload 5, 2) := by decide +kernel
theorem dL_law_581 : decode cL_law 581 = .ok (.iconst 1, 1) := by decide +kernel
theorem dL_law_582 : decode cL_law 582 = .ok (.iadd, 1) := by decide +kernel
theorem dL_law_583 : decode cL_law 583 = .ok (.iaload, 1) := by decide +kernel
theorem dL_law_584 : decode cL_law 584 = .ok (.invokevirtual 136, 3) := by decide +kernel
theorem dL_law_587 : decode cL_law 587 = .ok (.istore 7, 2) := by decide +kernel
theorem dL_law_589 : decode cL_law 589 = .ok (.aload_n 2, 1) := by decide +kernel
theorem dL_law_590 : decode cL_law 590 = .ok (.invokevirtual 113, 3) := by decide +kernel
theorem dL_law_593 : decode cL_law 593 = .ok (.iload 6, 2) := by decide +kernel
theorem dL_law_595 : decode cL_law 595 = .ok (.if_icmp .eq 5, 3) := by decide +kernel
theorem dL_law_600 : decode cL_law 600 = .ok (.iload 6, 2) := by decide +kernel
theorem dL_law_602 : decode cL_law 602 = .ok (.ifCond .ne 15, 3) := by decide +kernel
theorem dL_law_617 : decode cL_law 617 = .ok (.goto 1119, 3) := by decide +kernel
theorem dL_law_620 : decode cL_law 620 = .ok (.aload_n 1, 1) := by decide +kernel
theorem dL_law_621 : decode cL_law 621 = .ok (.aload_n 0, 1) := by decide +kernel
theorem dL_law_622 : decode cL_law 622 = .ok (.iload 5, 2) := by decide +kernel
theorem dL_law_624 : decode cL_law 624 = .ok (.iconst 1, 1) := by decide +kernel
theorem dL_law_625 : decode cL_law 625 = .ok (.iadd, 1) := by decide +kernel
theorem dL_law_626 : decode cL_law 626 = .ok (.iaload, 1) := by decide +kernel
theorem dL_law_627 : decode cL_law 627 = .ok (.aload_n 0, 1) := by decide +kernel
theorem dL_law_628 : decode cL_law 628 = .ok (.iload 5, 2) := by decide +kernel
theorem dL_law_630 : decode cL_law 630 = .ok (.iconst 2, 1) := by decide +kernel
theorem dL_law_631 : decode cL_law 631 = .ok (.iadd, 1) := by decide +kernel
theorem dL_law_632 : decode cL_law 632 = .ok (.iaload, 1) := by decide +kernel
theorem dL_law_633 : decode cL_law 633 = .ok (.aload_n 3, 1) := by decide +kernel
theorem dL_law_634 : decode cL_law 634 = .ok (.invokestatic 137, 3) := by decide +kernel
theorem dL_law_637 : decode cL_law 637 = .ok (.istore 6, 2) := by decide +kernel
theorem dL_law_639 : decode cL_law 639 = .ok (.aload_n 2, 1) := by decide +kernel
theorem dL_law_640 : decode cL_law 640 = .ok (.aload_n 0, 1) := by decide +kernel
theorem dL_law_641 : decode cL_law 641 = .ok (.iload 5, 2) := by decide +kernel
theorem dL_law_643 : decode cL_law 643 = .ok (.iconst 1, 1) := by decide +kernel
theorem dL_law_644 : decode cL_law 644 = .ok (.iadd, 1) := by decide +kernel
theorem dL_law_645 : decode cL_law 645 = .ok (.iaload, 1) := by decide +kernel
theorem dL_law_646 : decode cL_law 646 = .ok (.aload_n 0, 1) := by decide +kernel
theorem dL_law_647 : decode cL_law 647 = .ok (.iload 5, 2) := by decide +kernel
theorem dL_law_649 : decode cL_law 649 = .ok (.iconst 2, 1) := by decide +kernel
theorem dL_law_650 : decode cL_law 650 = .ok (.iadd, 1) := by decide +kernel
theorem dL_law_651 : decode cL_law 651 = .ok (.iaload, 1) := by decide +kernel
theorem dL_law_652 : decode cL_law 652 = .ok (.invokevirtual 139, 3) := by decide +kernel
theorem dL_law_655 : decode cL_law 655 = .ok (.istore 7, 2) := by decide +kernel
theorem dL_law_657 : decode cL_law 657 = .ok (.aload_n 2, 1) := by decide +kernel
theorem dL_law_658 : decode cL_law 658 = .ok (.invokevirtual 113, 3) := by decide +kernel
theorem dL_law_661 : decode cL_law 661 = .ok (.iload 6, 2) := by decide +kernel
theorem dL_law_663 : decode cL_law 663 = .ok (.if_icmp .eq 5, 3) := by decide +kernel
theorem dL_law_668 : decode cL_law 668 = .ok (.iload 6, 2) := by decide +kernel
theorem dL_law_670 : decode cL_law 670 = .ok (.ifCond .ne 15, 3) := by decide +kernel
theorem dL_law_685 : decode cL_law 685 = .ok (.goto 1051, 3) := by decide +kernel
theorem dL_law_688 : decode cL_law 688 = .ok (.aload_n 1, 1) := by decide +kernel
theorem dL_law_689 : decode cL_law 689 = .ok (.aload_n 0, 1) := by decide +kernel
theorem dL_law_690 : decode cL_law 690 = .ok (.iload 5, 2) := by decide +kernel
theorem dL_law_692 : decode cL_law 692 = .ok (.iconst 1, 1) := by decide +kernel
theorem dL_law_693 : decode cL_law 693 = .ok (.iadd, 1) := by decide +kernel
theorem dL_law_694 : decode cL_law 694 = .ok (.iaload, 1) := by decide +kernel
theorem dL_law_695 : decode cL_law 695 = .ok (.aload_n 3, 1) := by decide +kernel
theorem dL_law_696 : decode cL_law 696 = .ok (.invokestatic 140, 3) := by decide +kernel
theorem dL_law_699 : decode cL_law 699 = .ok (.istore 6, 2) := by decide +kernel
theorem dL_law_701 : decode cL_law 701 = .ok (.aload_n 2, 1) := by decide +kernel
theorem dL_law_702 : decode cL_law 702 = .ok (.aload_n 0, 1) := by decide +kernel
theorem dL_law_703 : decode cL_law 703 = .ok (.iload 5, 2) := by decide +kernel
theorem dL_law_705 : decode cL_law 705 = .ok (.iconst 1, 1) := by decide +kernel
theorem dL_law_706 : decode cL_law 706 = .ok (.iadd, 1) := by decide +kernel
theorem dL_law_707 : decode cL_law 707 = .ok (.iaload, 1) := by decide +kernel
theorem dL_law_708 : decode cL_law 708 = .ok (.invokevirtual 142, 3) := by decide +kernel
theorem dL_law_711 : decode cL_law 711 = .ok (.istore 7, 2) := by decide +kernel
theorem dL_law_713 : decode cL_law 713 = .ok (.aload_n 2, 1) := by decide +kernel
theorem dL_law_714 : decode cL_law 714 = .ok (.invokevirtual 113, 3) := by decide +kernel
theorem dL_law_717 : decode cL_law 717 = .ok (.iload 6, 2) := by decide +kernel
theorem dL_law_719 : decode cL_law 719 = .ok (.if_icmp .eq 5, 3) := by decide +kernel
theorem dL_law_724 : decode cL_law 724 = .ok (.iload 6, 2) := by decide +kernel
theorem dL_law_726 : decode cL_law 726 = .ok (.ifCond .ne 15, 3) := by decide +kernel
theorem dL_law_741 : decode cL_law 741 = .ok (.goto 995, 3) := by decide +kernel
theorem dL_law_744 : decode cL_law 744 = .ok (.aload_n 1, 1) := by decide +kernel
theorem dL_law_745 : decode cL_law 745 = .ok (.aload_n 0, 1) := by decide +kernel
theorem dL_law_746 : decode cL_law 746 = .ok (.iload 5, 2) := by decide +kernel
theorem dL_law_748 : decode cL_law 748 = .ok (.iconst 1, 1) := by decide +kernel
theorem dL_law_749 : decode cL_law 749 = .ok (.iadd, 1) := by decide +kernel
theorem dL_law_750 : decode cL_law 750 = .ok (.iaload, 1) := by decide +kernel
theorem dL_law_751 : decode cL_law 751 = .ok (.aload_n 3, 1) := by decide +kernel
theorem dL_law_752 : decode cL_law 752 = .ok (.invokestatic 143, 3) := by decide +kernel
theorem dL_law_755 : decode cL_law 755 = .ok (.istore 6, 2) := by decide +kernel
theorem dL_law_757 : decode cL_law 757 = .ok (.aload_n 2, 1) := by decide +kernel
theorem dL_law_758 : decode cL_law 758 = .ok (.aload_n 0, 1) := by decide +kernel
theorem dL_law_759 : decode cL_law 759 = .ok (.iload 5, 2) := by decide +kernel
theorem dL_law_761 : decode cL_law 761 = .ok (.iconst 1, 1) := by decide +kernel
theorem dL_law_762 : decode cL_law 762 = .ok (.iadd, 1) := by decide +kernel
theorem dL_law_763 : decode cL_law 763 = .ok (.iaload, 1) := by decide +kernel
theorem dL_law_764 : decode cL_law 764 = .ok (.invokevirtual 145, 3) := by decide +kernel
theorem dL_law_767 : decode cL_law 767 = .ok (.istore 7, 2) := by decide +kernel
theorem dL_law_769 : decode cL_law 769 = .ok (.aload_n 2, 1) := by decide +kernel
theorem dL_law_770 : decode cL_law 770 = .ok (.invokevirtual 113, 3) := by decide +kernel
theorem dL_law_773 : decode cL_law 773 = .ok (.iload 6, 2) := by decide +kernel
theorem dL_law_775 : decode cL_law 775 = .ok (.if_icmp .eq 5, 3) := by decide +kernel
theorem dL_law_780 : decode cL_law 780 = .ok (.iload 6, 2) := by decide +kernel
theorem dL_law_782 : decode cL_law 782 = .ok (.ifCond .ne 15, 3) := by decide +kernel
theorem dL_law_797 : decode cL_law 797 = .ok (.goto 939, 3) := by decide +kernel
theorem dL_law_800 : decode cL_law 800 = .ok (.aload_n 1, 1) := by decide +kernel
theorem dL_law_801 : decode cL_law 801 = .ok (.aload_n 0, 1) := by decide +kernel
theorem dL_law_802 : decode cL_law 802 = .ok (.iload 5, 2) := by decide +kernel
theorem dL_law_804 : decode cL_law 804 = .ok (.iconst 1, 1) := by decide +kernel
theorem dL_law_805 : decode cL_law 805 = .ok (.iadd, 1) := by decide +kernel
theorem dL_law_806 : decode cL_law 806 = .ok (.iaload, 1) := by decide +kernel
theorem dL_law_807 : decode cL_law 807 = .ok (.aload_n 0, 1) := by decide +kernel
theorem dL_law_808 : decode cL_law 808 = .ok (.iload 5, 2) := by decide +kernel
theorem dL_law_810 : decode cL_law 810 = .ok (.iconst 2, 1) := by decide +kernel
theorem dL_law_811 : decode cL_law 811 = .ok (.iadd, 1) := by decide +kernel
theorem dL_law_812 : decode cL_law 812 = .ok (.iaload, 1) := by decide +kernel
theorem dL_law_813 : decode cL_law 813 = .ok (.aload_n 3, 1) := by decide +kernel
theorem dL_law_814 : decode cL_law 814 = .ok (.invokestatic 146, 3) := by decide +kernel
theorem dL_law_817 : decode cL_law 817 = .ok (.istore 6, 2) := by decide +kernel
theorem dL_law_819 : decode cL_law 819 = .ok (.aload_n 2, 1) := by decide +kernel
theorem dL_law_820 : decode cL_law 820 = .ok (.aload_n 0, 1) := by decide +kernel
theorem dL_law_821 : decode cL_law 821 = .ok (.iload 5, 2) := by decide +kernel
theorem dL_law_823 : decode cL_law 823 = .ok (.iconst 1, 1) := by decide +kernel
theorem dL_law_824 : decode cL_law 824 = .ok (.iadd, 1) := by decide +kernel
theorem dL_law_825 : decode cL_law 825 = .ok (.iaload, 1) := by decide +kernel
theorem dL_law_826 : decode cL_law 826 = .ok (.aload_n 0, 1) := by decide +kernel
theorem dL_law_827 : decode cL_law 827 = .ok (.iload 5, 2) := by decide +kernel
theorem dL_law_829 : decode cL_law 829 = .ok (.iconst 2, 1) := by decide +kernel
theorem dL_law_830 : decode cL_law 830 = .ok (.iadd, 1) := by decide +kernel
theorem dL_law_831 : decode cL_law 831 = .ok (.iaload, 1) := by decide +kernel
theorem dL_law_832 : decode cL_law 832 = .ok (.invokevirtual 148, 3) := by decide +kernel
theorem dL_law_835 : decode cL_law 835 = .ok (.istore 7, 2) := by decide +kernel
theorem dL_law_837 : decode cL_law 837 = .ok (.aload_n 2, 1) := by decide +kernel
theorem dL_law_838 : decode cL_law 838 = .ok (.invokevirtual 113, 3) := by decide +kernel
theorem dL_law_841 : decode cL_law 841 = .ok (.iload 6, 2) := by decide +kernel
theorem dL_law_843 : decode cL_law 843 = .ok (.if_icmp .eq 5, 3) := by decide +kernel
theorem dL_law_848 : decode cL_law 848 = .ok (.iload 6, 2) := by decide +kernel
theorem dL_law_850 : decode cL_law 850 = .ok (.ifCond .ne 15, 3) := by decide +kernel
theorem dL_law_865 : decode cL_law 865 = .ok (.goto 871, 3) := by decide +kernel
theorem dL_law_868 : decode cL_law 868 = .ok (.aload_n 1, 1) := by decide +kernel
theorem dL_law_869 : decode cL_law 869 = .ok (.aload_n 0, 1) := by decide +kernel
theorem dL_law_870 : decode cL_law 870 = .ok (.iload 5, 2) := by decide +kernel
theorem dL_law_872 : decode cL_law 872 = .ok (.iconst 1, 1) := by decide +kernel
theorem dL_law_873 : decode cL_law 873 = .ok (.iadd, 1) := by decide +kernel
theorem dL_law_874 : decode cL_law 874 = .ok (.iaload, 1) := by decide +kernel
theorem dL_law_875 : decode cL_law 875 = .ok (.aload_n 3, 1) := by decide +kernel
theorem dL_law_876 : decode cL_law 876 = .ok (.invokestatic 149, 3) := by decide +kernel
theorem dL_law_879 : decode cL_law 879 = .ok (.istore 6, 2) := by decide +kernel
theorem dL_law_881 : decode cL_law 881 = .ok (.aload_n 2, 1) := by decide +kernel
theorem dL_law_882 : decode cL_law 882 = .ok (.aload_n 0, 1) := by decide +kernel
theorem dL_law_883 : decode cL_law 883 = .ok (.iload 5, 2) := by decide +kernel
theorem dL_law_885 : decode cL_law 885 = .ok (.iconst 1, 1) := by decide +kernel
theorem dL_law_886 : decode cL_law 886 = .ok (.iadd, 1) := by decide +kernel
theorem dL_law_887 : decode cL_law 887 = .ok (.iaload, 1) := by decide +kernel
theorem dL_law_888 : decode cL_law 888 = .ok (.invokevirtual 151, 3) := by decide +kernel
theorem dL_law_891 : decode cL_law 891 = .ok (.istore 7, 2) := by decide +kernel
theorem dL_law_893 : decode cL_law 893 = .ok (.aload_n 2, 1) := by decide +kernel
theorem dL_law_894 : decode cL_law 894 = .ok (.invokevirtual 113, 3) := by decide +kernel
theorem dL_law_897 : decode cL_law 897 = .ok (.iload 6, 2) := by decide +kernel
theorem dL_law_899 : decode cL_law 899 = .ok (.if_icmp .eq 5, 3) := by decide +kernel
theorem dL_law_904 : decode cL_law 904 = .ok (.iload 6, 2) := by decide +kernel
theorem dL_law_906 : decode cL_law 906 = .ok (.ifCond .ne 15, 3) := by decide +kernel
theorem dL_law_921 : decode cL_law 921 = .ok (.goto 815, 3) := by decide +kernel
theorem dL_law_924 : decode cL_law 924 = .ok (.aload_n 1, 1) := by decide +kernel
theorem dL_law_925 : decode cL_law 925 = .ok (.aload_n 0, 1) := by decide +kernel
theorem dL_law_926 : decode cL_law 926 = .ok (.iload 5, 2) := by decide +kernel
theorem dL_law_928 : decode cL_law 928 = .ok (.iconst 1, 1) := by decide +kernel
theorem dL_law_929 : decode cL_law 929 = .ok (.iadd, 1) := by decide +kernel
theorem dL_law_930 : decode cL_law 930 = .ok (.iaload, 1) := by decide +kernel
theorem dL_law_931 : decode cL_law 931 = .ok (.aload_n 3, 1) := by decide +kernel
theorem dL_law_932 : decode cL_law 932 = .ok (.invokestatic 152, 3) := by decide +kernel
theorem dL_law_935 : decode cL_law 935 = .ok (.istore 6, 2) := by decide +kernel
theorem dL_law_937 : decode cL_law 937 = .ok (.aload_n 2, 1) := by decide +kernel
theorem dL_law_938 : decode cL_law 938 = .ok (.aload_n 0, 1) := by decide +kernel
theorem dL_law_939 : decode cL_law 939 = .ok (.iload 5, 2) := by decide +kernel
theorem dL_law_941 : decode cL_law 941 = .ok (.iconst 1, 1) := by decide +kernel
theorem dL_law_942 : decode cL_law 942 = .ok (.iadd, 1) := by decide +kernel
theorem dL_law_943 : decode cL_law 943 = .ok (.iaload, 1) := by decide +kernel
theorem dL_law_944 : decode cL_law 944 = .ok (.invokevirtual 154, 3) := by decide +kernel
theorem dL_law_947 : decode cL_law 947 = .ok (.istore 7, 2) := by decide +kernel
theorem dL_law_949 : decode cL_law 949 = .ok (.aload_n 2, 1) := by decide +kernel
theorem dL_law_950 : decode cL_law 950 = .ok (.invokevirtual 113, 3) := by decide +kernel
theorem dL_law_953 : decode cL_law 953 = .ok (.iload 6, 2) := by decide +kernel
theorem dL_law_955 : decode cL_law 955 = .ok (.if_icmp .eq 5, 3) := by decide +kernel
theorem dL_law_960 : decode cL_law 960 = .ok (.iload 6, 2) := by decide +kernel
theorem dL_law_962 : decode cL_law 962 = .ok (.ifCond .ne 22, 3) := by decide +kernel
theorem dL_law_984 : decode cL_law 984 = .ok (.goto 752, 3) := by decide +kernel
theorem dL_law_987 : decode cL_law 987 = .ok (.aload_n 1, 1) := by decide +kernel
theorem dL_law_988 : decode cL_law 988 = .ok (.aload_n 0, 1) := by decide +kernel
theorem dL_law_989 : decode cL_law 989 = .ok (.iload 5, 2) := by decide +kernel
theorem dL_law_991 : decode cL_law 991 = .ok (.iconst 1, 1) := by decide +kernel
theorem dL_law_992 : decode cL_law 992 = .ok (.iadd, 1) := by decide +kernel
theorem dL_law_993 : decode cL_law 993 = .ok (.iaload, 1) := by decide +kernel
theorem dL_law_994 : decode cL_law 994 = .ok (.aload_n 0, 1) := by decide +kernel
theorem dL_law_995 : decode cL_law 995 = .ok (.iload 5, 2) := by decide +kernel
theorem dL_law_997 : decode cL_law 997 = .ok (.iconst 2, 1) := by decide +kernel
theorem dL_law_998 : decode cL_law 998 = .ok (.iadd, 1) := by decide +kernel
theorem dL_law_999 : decode cL_law 999 = .ok (.iaload, 1) := by decide +kernel
theorem dL_law_1000 : decode cL_law 1000 = .ok (.aload_n 3, 1) := by decide +kernel
theorem dL_law_1001 : decode cL_law 1001 = .ok (.invokestatic 155, 3) := by decide +kernel
theorem dL_law_1004 : decode cL_law 1004 = .ok (.istore 6, 2) := by decide +kernel
theorem dL_law_1006 : decode cL_law 1006 = .ok (.aload_n 2, 1) := by decide +kernel
theorem dL_law_1007 : decode cL_law 1007 = .ok (.aload_n 0, 1) := by decide +kernel
theorem dL_law_1008 : decode cL_law 1008 = .ok (.iload 5, 2) := by decide +kernel
theorem dL_law_1010 : decode cL_law 1010 = .ok (.iconst 1, 1) := by decide +kernel
theorem dL_law_1011 : decode cL_law 1011 = .ok (.iadd, 1) := by decide +kernel
theorem dL_law_1012 : decode cL_law 1012 = .ok (.iaload, 1) := by decide +kernel
theorem dL_law_1013 : decode cL_law 1013 = .ok (.aload_n 0, 1) := by decide +kernel
theorem dL_law_1014 : decode cL_law 1014 = .ok (.iload 5, 2) := by decide +kernel
theorem dL_law_1016 : decode cL_law 1016 = .ok (.iconst 2, 1) := by decide +kernel
theorem dL_law_1017 : decode cL_law 1017 = .ok (.iadd, 1) := by decide +kernel
theorem dL_law_1018 : decode cL_law 1018 = .ok (.iaload, 1) := by decide +kernel
theorem dL_law_1019 : decode cL_law 1019 = .ok (.invokevirtual 157, 3) := by decide +kernel
theorem dL_law_1022 : decode cL_law 1022 = .ok (.istore 7, 2) := by decide +kernel
theorem dL_law_1024 : decode cL_law 1024 = .ok (.aload_n 2, 1) := by decide +kernel
theorem dL_law_1025 : decode cL_law 1025 = .ok (.invokevirtual 113, 3) := by decide +kernel
theorem dL_law_1028 : decode cL_law 1028 = .ok (.iload 6, 2) := by decide +kernel
theorem dL_law_1030 : decode cL_law 1030 = .ok (.if_icmp .eq 5, 3) := by decide +kernel
theorem dL_law_1035 : decode cL_law 1035 = .ok (.iload 6, 2) := by decide +kernel
theorem dL_law_1037 : decode cL_law 1037 = .ok (.ifCond .ne 22, 3) := by decide +kernel
theorem dL_law_1059 : decode cL_law 1059 = .ok (.goto 677, 3) := by decide +kernel
theorem dL_law_1062 : decode cL_law 1062 = .ok (.aload_n 1, 1) := by decide +kernel
theorem dL_law_1063 : decode cL_law 1063 = .ok (.aload_n 0, 1) := by decide +kernel
theorem dL_law_1064 : decode cL_law 1064 = .ok (.iload 5, 2) := by decide +kernel
theorem dL_law_1066 : decode cL_law 1066 = .ok (.iconst 1, 1) := by decide +kernel
theorem dL_law_1067 : decode cL_law 1067 = .ok (.iadd, 1) := by decide +kernel
theorem dL_law_1068 : decode cL_law 1068 = .ok (.iaload, 1) := by decide +kernel
theorem dL_law_1069 : decode cL_law 1069 = .ok (.aload_n 3, 1) := by decide +kernel
theorem dL_law_1070 : decode cL_law 1070 = .ok (.invokestatic 158, 3) := by decide +kernel
theorem dL_law_1073 : decode cL_law 1073 = .ok (.istore 6, 2) := by decide +kernel
theorem dL_law_1075 : decode cL_law 1075 = .ok (.aload_n 2, 1) := by decide +kernel
theorem dL_law_1076 : decode cL_law 1076 = .ok (.aload_n 0, 1) := by decide +kernel
theorem dL_law_1077 : decode cL_law 1077 = .ok (.iload 5, 2) := by decide +kernel
theorem dL_law_1079 : decode cL_law 1079 = .ok (.iconst 1, 1) := by decide +kernel
theorem dL_law_1080 : decode cL_law 1080 = .ok (.iadd, 1) := by decide +kernel
theorem dL_law_1081 : decode cL_law 1081 = .ok (.iaload, 1) := by decide +kernel
theorem dL_law_1082 : decode cL_law 1082 = .ok (.invokevirtual 160, 3) := by decide +kernel
theorem dL_law_1085 : decode cL_law 1085 = .ok (.istore 7, 2) := by decide +kernel
theorem dL_law_1087 : decode cL_law 1087 = .ok (.aload_n 2, 1) := by decide +kernel
theorem dL_law_1088 : decode cL_law 1088 = .ok (.invokevirtual 113, 3) := by decide +kernel
theorem dL_law_1091 : decode cL_law 1091 = .ok (.iload 6, 2) := by decide +kernel
theorem dL_law_1093 : decode cL_law 1093 = .ok (.if_icmp .eq 5, 3) := by decide +kernel
theorem dL_law_1098 : decode cL_law 1098 = .ok (.iload 6, 2) := by decide +kernel
theorem dL_law_1100 : decode cL_law 1100 = .ok (.ifCond .ne 15, 3) := by decide +kernel
theorem dL_law_1115 : decode cL_law 1115 = .ok (.goto 621, 3) := by decide +kernel
theorem dL_law_1198 : decode cL_law 1198 = .ok (.aload_n 1, 1) := by decide +kernel
theorem dL_law_1199 : decode cL_law 1199 = .ok (.invokevirtual 164, 3) := by decide +kernel
theorem dL_law_1202 : decode cL_law 1202 = .ok (.aload_n 2, 1) := by decide +kernel
theorem dL_law_1203 : decode cL_law 1203 = .ok (.invokevirtual 167, 3) := by decide +kernel
theorem dL_law_1206 : decode cL_law 1206 = .ok (.if_icmp .eq 530, 3) := by decide +kernel
theorem dL_law_1267 : decode cL_law 1267 = .ok (.aload_n 1, 1) := by decide +kernel
theorem dL_law_1268 : decode cL_law 1268 = .ok (.aload_n 3, 1) := by decide +kernel
theorem dL_law_1269 : decode cL_law 1269 = .ok (.invokestatic 171, 3) := by decide +kernel
theorem dL_law_1272 : decode cL_law 1272 = .ok (.istore 6, 2) := by decide +kernel
theorem dL_law_1274 : decode cL_law 1274 = .ok (.aload_n 2, 1) := by decide +kernel
theorem dL_law_1275 : decode cL_law 1275 = .ok (.invokevirtual 173, 3) := by decide +kernel
theorem dL_law_1278 : decode cL_law 1278 = .ok (.istore 7, 2) := by decide +kernel
theorem dL_law_1280 : decode cL_law 1280 = .ok (.aload_n 2, 1) := by decide +kernel
theorem dL_law_1281 : decode cL_law 1281 = .ok (.invokevirtual 113, 3) := by decide +kernel
theorem dL_law_1284 : decode cL_law 1284 = .ok (.iload 6, 2) := by decide +kernel
theorem dL_law_1286 : decode cL_law 1286 = .ok (.if_icmp .eq 5, 3) := by decide +kernel
theorem dL_law_1291 : decode cL_law 1291 = .ok (.iload 6, 2) := by decide +kernel
theorem dL_law_1293 : decode cL_law 1293 = .ok (.ifCond .ne 22, 3) := by decide +kernel
theorem dL_law_1315 : decode cL_law 1315 = .ok (.goto 421, 3) := by decide +kernel
theorem dL_law_1318 : decode cL_law 1318 = .ok (.aload_n 1, 1) := by decide +kernel
theorem dL_law_1319 : decode cL_law 1319 = .ok (.aload_n 0, 1) := by decide +kernel
theorem dL_law_1320 : decode cL_law 1320 = .ok (.iload 5, 2) := by decide +kernel
theorem dL_law_1322 : decode cL_law 1322 = .ok (.iconst 1, 1) := by decide +kernel
theorem dL_law_1323 : decode cL_law 1323 = .ok (.iadd, 1) := by decide +kernel
theorem dL_law_1324 : decode cL_law 1324 = .ok (.iaload, 1) := by decide +kernel
theorem dL_law_1325 : decode cL_law 1325 = .ok (.aload_n 0, 1) := by decide +kernel
theorem dL_law_1326 : decode cL_law 1326 = .ok (.iload 5, 2) := by decide +kernel
theorem dL_law_1328 : decode cL_law 1328 = .ok (.iconst 2, 1) := by decide +kernel
theorem dL_law_1329 : decode cL_law 1329 = .ok (.iadd, 1) := by decide +kernel
theorem dL_law_1330 : decode cL_law 1330 = .ok (.iaload, 1) := by decide +kernel
theorem dL_law_1331 : decode cL_law 1331 = .ok (.aload_n 0, 1) := by decide +kernel
theorem dL_law_1332 : decode cL_law 1332 = .ok (.iload 5, 2) := by decide +kernel
theorem dL_law_1334 : decode cL_law 1334 = .ok (.iconst 3, 1) := by decide +kernel
theorem dL_law_1335 : decode cL_law 1335 = .ok (.iadd, 1) := by decide +kernel
theorem dL_law_1336 : decode cL_law 1336 = .ok (.iaload, 1) := by decide +kernel
theorem dL_law_1337 : decode cL_law 1337 = .ok (.aload_n 3, 1) := by decide +kernel
theorem dL_law_1338 : decode cL_law 1338 = .ok (.invokestatic 174, 3) := by decide +kernel
theorem dL_law_1341 : decode cL_law 1341 = .ok (.istore 6, 2) := by decide +kernel
theorem dL_law_1343 : decode cL_law 1343 = .ok (.aload_n 2, 1) := by decide +kernel
theorem dL_law_1344 : decode cL_law 1344 = .ok (.aload_n 0, 1) := by decide +kernel
theorem dL_law_1345 : decode cL_law 1345 = .ok (.iload 5, 2) := by decide +kernel
theorem dL_law_1347 : decode cL_law 1347 = .ok (.iconst 1, 1) := by decide +kernel
theorem dL_law_1348 : decode cL_law 1348 = .ok (.iadd, 1) := by decide +kernel
theorem dL_law_1349 : decode cL_law 1349 = .ok (.iaload, 1) := by decide +kernel
theorem dL_law_1350 : decode cL_law 1350 = .ok (.aload_n 0, 1) := by decide +kernel
theorem dL_law_1351 : decode cL_law 1351 = .ok (.iload 5, 2) := by decide +kernel
theorem dL_law_1353 : decode cL_law 1353 = .ok (.iconst 2, 1) := by decide +kernel
theorem dL_law_1354 : decode cL_law 1354 = .ok (.iadd, 1) := by decide +kernel
theorem dL_law_1355 : decode cL_law 1355 = .ok (.iaload, 1) := by decide +kernel
theorem dL_law_1356 : decode cL_law 1356 = .ok (.aload_n 0, 1) := by decide +kernel
theorem dL_law_1357 : decode cL_law 1357 = .ok (.iload 5, 2) := by decide +kernel
theorem dL_law_1359 : decode cL_law 1359 = .ok (.iconst 3, 1) := by decide +kernel
theorem dL_law_1360 : decode cL_law 1360 = .ok (.iadd, 1) := by decide +kernel
theorem dL_law_1361 : decode cL_law 1361 = .ok (.iaload, 1) := by decide +kernel
theorem dL_law_1362 : decode cL_law 1362 = .ok (.invokevirtual 176, 3) := by decide +kernel
theorem dL_law_1365 : decode cL_law 1365 = .ok (.istore 7, 2) := by decide +kernel
theorem dL_law_1367 : decode cL_law 1367 = .ok (.aload_n 2, 1) := by decide +kernel
theorem dL_law_1368 : decode cL_law 1368 = .ok (.invokevirtual 113, 3) := by decide +kernel
theorem dL_law_1371 : decode cL_law 1371 = .ok (.iload 6, 2) := by decide +kernel
theorem dL_law_1373 : decode cL_law 1373 = .ok (.if_icmp .eq 5, 3) := by decide +kernel
theorem dL_law_1378 : decode cL_law 1378 = .ok (.iload 6, 2) := by decide +kernel
theorem dL_law_1380 : decode cL_law 1380 = .ok (.ifCond .ne 15, 3) := by decide +kernel
theorem dL_law_1395 : decode cL_law 1395 = .ok (.goto 341, 3) := by decide +kernel
theorem dL_law_1398 : decode cL_law 1398 = .ok (.aload_n 1, 1) := by decide +kernel
theorem dL_law_1399 : decode cL_law 1399 = .ok (.aload_n 0, 1) := by decide +kernel
theorem dL_law_1400 : decode cL_law 1400 = .ok (.iload 5, 2) := by decide +kernel
theorem dL_law_1402 : decode cL_law 1402 = .ok (.iconst 1, 1) := by decide +kernel
theorem dL_law_1403 : decode cL_law 1403 = .ok (.iadd, 1) := by decide +kernel
theorem dL_law_1404 : decode cL_law 1404 = .ok (.iaload, 1) := by decide +kernel
theorem dL_law_1405 : decode cL_law 1405 = .ok (.aload_n 0, 1) := by decide +kernel
theorem dL_law_1406 : decode cL_law 1406 = .ok (.iload 5, 2) := by decide +kernel
theorem dL_law_1408 : decode cL_law 1408 = .ok (.iconst 2, 1) := by decide +kernel
theorem dL_law_1409 : decode cL_law 1409 = .ok (.iadd, 1) := by decide +kernel
theorem dL_law_1410 : decode cL_law 1410 = .ok (.iaload, 1) := by decide +kernel
theorem dL_law_1411 : decode cL_law 1411 = .ok (.aload_n 3, 1) := by decide +kernel
theorem dL_law_1412 : decode cL_law 1412 = .ok (.invokestatic 177, 3) := by decide +kernel
theorem dL_law_1415 : decode cL_law 1415 = .ok (.istore 6, 2) := by decide +kernel
theorem dL_law_1417 : decode cL_law 1417 = .ok (.aload_n 2, 1) := by decide +kernel
theorem dL_law_1418 : decode cL_law 1418 = .ok (.aload_n 0, 1) := by decide +kernel
theorem dL_law_1419 : decode cL_law 1419 = .ok (.iload 5, 2) := by decide +kernel
theorem dL_law_1421 : decode cL_law 1421 = .ok (.iconst 1, 1) := by decide +kernel
theorem dL_law_1422 : decode cL_law 1422 = .ok (.iadd, 1) := by decide +kernel
theorem dL_law_1423 : decode cL_law 1423 = .ok (.iaload, 1) := by decide +kernel
theorem dL_law_1424 : decode cL_law 1424 = .ok (.aload_n 0, 1) := by decide +kernel
theorem dL_law_1425 : decode cL_law 1425 = .ok (.iload 5, 2) := by decide +kernel
theorem dL_law_1427 : decode cL_law 1427 = .ok (.iconst 2, 1) := by decide +kernel
theorem dL_law_1428 : decode cL_law 1428 = .ok (.iadd, 1) := by decide +kernel
theorem dL_law_1429 : decode cL_law 1429 = .ok (.iaload, 1) := by decide +kernel
theorem dL_law_1430 : decode cL_law 1430 = .ok (.invokevirtual 179, 3) := by decide +kernel
theorem dL_law_1433 : decode cL_law 1433 = .ok (.istore 7, 2) := by decide +kernel
theorem dL_law_1435 : decode cL_law 1435 = .ok (.aload_n 2, 1) := by decide +kernel
theorem dL_law_1436 : decode cL_law 1436 = .ok (.invokevirtual 113, 3) := by decide +kernel
theorem dL_law_1439 : decode cL_law 1439 = .ok (.iload 6, 2) := by decide +kernel
theorem dL_law_1441 : decode cL_law 1441 = .ok (.if_icmp .eq 5, 3) := by decide +kernel
theorem dL_law_1446 : decode cL_law 1446 = .ok (.iload 6, 2) := by decide +kernel
theorem dL_law_1448 : decode cL_law 1448 = .ok (.ifCond .ne 15, 3) := by decide +kernel
theorem dL_law_1463 : decode cL_law 1463 = .ok (.goto 273, 3) := by decide +kernel
theorem dL_law_1466 : decode cL_law 1466 = .ok (.aload_n 1, 1) := by decide +kernel
theorem dL_law_1467 : decode cL_law 1467 = .ok (.aload_n 0, 1) := by decide +kernel
theorem dL_law_1468 : decode cL_law 1468 = .ok (.iload 5, 2) := by decide +kernel
theorem dL_law_1470 : decode cL_law 1470 = .ok (.iconst 1, 1) := by decide +kernel
theorem dL_law_1471 : decode cL_law 1471 = .ok (.iadd, 1) := by decide +kernel
theorem dL_law_1472 : decode cL_law 1472 = .ok (.iaload, 1) := by decide +kernel
theorem dL_law_1473 : decode cL_law 1473 = .ok (.aload_n 3, 1) := by decide +kernel
theorem dL_law_1474 : decode cL_law 1474 = .ok (.invokestatic 180, 3) := by decide +kernel
theorem dL_law_1477 : decode cL_law 1477 = .ok (.istore 6, 2) := by decide +kernel
theorem dL_law_1479 : decode cL_law 1479 = .ok (.aload_n 2, 1) := by decide +kernel
theorem dL_law_1480 : decode cL_law 1480 = .ok (.aload_n 0, 1) := by decide +kernel
theorem dL_law_1481 : decode cL_law 1481 = .ok (.iload 5, 2) := by decide +kernel
theorem dL_law_1483 : decode cL_law 1483 = .ok (.iconst 1, 1) := by decide +kernel
theorem dL_law_1484 : decode cL_law 1484 = .ok (.iadd, 1) := by decide +kernel
theorem dL_law_1485 : decode cL_law 1485 = .ok (.iaload, 1) := by decide +kernel
theorem dL_law_1486 : decode cL_law 1486 = .ok (.invokevirtual 182, 3) := by decide +kernel
theorem dL_law_1489 : decode cL_law 1489 = .ok (.istore 7, 2) := by decide +kernel
theorem dL_law_1491 : decode cL_law 1491 = .ok (.aload_n 2, 1) := by decide +kernel
theorem dL_law_1492 : decode cL_law 1492 = .ok (.invokevirtual 113, 3) := by decide +kernel
theorem dL_law_1495 : decode cL_law 1495 = .ok (.iload 6, 2) := by decide +kernel
theorem dL_law_1497 : decode cL_law 1497 = .ok (.if_icmp .eq 5, 3) := by decide +kernel
theorem dL_law_1502 : decode cL_law 1502 = .ok (.iload 6, 2) := by decide +kernel
theorem dL_law_1504 : decode cL_law 1504 = .ok (.ifCond .ne 15, 3) := by decide +kernel
theorem dL_law_1519 : decode cL_law 1519 = .ok (.goto 217, 3) := by decide +kernel
theorem dL_law_1522 : decode cL_law 1522 = .ok (.aload_n 1, 1) := by decide +kernel
theorem dL_law_1523 : decode cL_law 1523 = .ok (.aload_n 0, 1) := by decide +kernel
theorem dL_law_1524 : decode cL_law 1524 = .ok (.iload 5, 2) := by decide +kernel
theorem dL_law_1526 : decode cL_law 1526 = .ok (.iconst 1, 1) := by decide +kernel
theorem dL_law_1527 : decode cL_law 1527 = .ok (.iadd, 1) := by decide +kernel
theorem dL_law_1528 : decode cL_law 1528 = .ok (.iaload, 1) := by decide +kernel
theorem dL_law_1529 : decode cL_law 1529 = .ok (.aload_n 3, 1) := by decide +kernel
theorem dL_law_1530 : decode cL_law 1530 = .ok (.invokestatic 183, 3) := by decide +kernel
theorem dL_law_1533 : decode cL_law 1533 = .ok (.istore 6, 2) := by decide +kernel
theorem dL_law_1535 : decode cL_law 1535 = .ok (.aload_n 2, 1) := by decide +kernel
theorem dL_law_1536 : decode cL_law 1536 = .ok (.aload_n 0, 1) := by decide +kernel
theorem dL_law_1537 : decode cL_law 1537 = .ok (.iload 5, 2) := by decide +kernel
theorem dL_law_1539 : decode cL_law 1539 = .ok (.iconst 1, 1) := by decide +kernel
theorem dL_law_1540 : decode cL_law 1540 = .ok (.iadd, 1) := by decide +kernel
theorem dL_law_1541 : decode cL_law 1541 = .ok (.iaload, 1) := by decide +kernel
theorem dL_law_1542 : decode cL_law 1542 = .ok (.invokevirtual 185, 3) := by decide +kernel
theorem dL_law_1545 : decode cL_law 1545 = .ok (.istore 7, 2) := by decide +kernel
theorem dL_law_1547 : decode cL_law 1547 = .ok (.aload_n 2, 1) := by decide +kernel
theorem dL_law_1548 : decode cL_law 1548 = .ok (.invokevirtual 113, 3) := by decide +kernel
theorem dL_law_1551 : decode cL_law 1551 = .ok (.iload 6, 2) := by decide +kernel
theorem dL_law_1553 : decode cL_law 1553 = .ok (.if_icmp .eq 5, 3) := by decide +kernel
theorem dL_law_1558 : decode cL_law 1558 = .ok (.iload 6, 2) := by decide +kernel
theorem dL_law_1560 : decode cL_law 1560 = .ok (.ifCond .ne 15, 3) := by decide +kernel
theorem dL_law_1575 : decode cL_law 1575 = .ok (.goto 161, 3) := by decide +kernel
theorem dL_law_1578 : decode cL_law 1578 = .ok (.aload_n 1, 1) := by decide +kernel
theorem dL_law_1579 : decode cL_law 1579 = .ok (.invokevirtual 186, 3) := by decide +kernel
theorem dL_law_1582 : decode cL_law 1582 = .ok (.aload_n 2, 1) := by decide +kernel
theorem dL_law_1583 : decode cL_law 1583 = .ok (.invokevirtual 190, 3) := by decide +kernel
theorem dL_law_1586 : decode cL_law 1586 = .ok (.lcmp, 1) := by decide +kernel
theorem dL_law_1587 : decode cL_law 1587 = .ok (.ifCond .eq 149, 3) := by decide +kernel
theorem dL_law_1592 : decode cL_law 1592 = .ok (.aload_n 1, 1) := by decide +kernel
theorem dL_law_1593 : decode cL_law 1593 = .ok (.aload 4, 2) := by decide +kernel
theorem dL_law_1595 : decode cL_law 1595 = .ok (.invokestatic 191, 3) := by decide +kernel
theorem dL_law_1598 : decode cL_law 1598 = .ok (.istore 6, 2) := by decide +kernel
theorem dL_law_1600 : decode cL_law 1600 = .ok (.aload_n 2, 1) := by decide +kernel
theorem dL_law_1601 : decode cL_law 1601 = .ok (.invokevirtual 194, 3) := by decide +kernel
theorem dL_law_1604 : decode cL_law 1604 = .ok (.fstore 7, 2) := by decide +kernel
theorem dL_law_1606 : decode cL_law 1606 = .ok (.aload_n 2, 1) := by decide +kernel
theorem dL_law_1607 : decode cL_law 1607 = .ok (.invokevirtual 113, 3) := by decide +kernel
theorem dL_law_1610 : decode cL_law 1610 = .ok (.iload 6, 2) := by decide +kernel
theorem dL_law_1612 : decode cL_law 1612 = .ok (.if_icmp .eq 5, 3) := by decide +kernel
theorem dL_law_1617 : decode cL_law 1617 = .ok (.iload 6, 2) := by decide +kernel
theorem dL_law_1619 : decode cL_law 1619 = .ok (.ifCond .ne 36, 3) := by decide +kernel
theorem dL_law_1655 : decode cL_law 1655 = .ok (.goto 81, 3) := by decide +kernel
theorem dL_law_1658 : decode cL_law 1658 = .ok (.aload_n 1, 1) := by decide +kernel
theorem dL_law_1659 : decode cL_law 1659 = .ok (.aload 4, 2) := by decide +kernel
theorem dL_law_1661 : decode cL_law 1661 = .ok (.invokestatic 195, 3) := by decide +kernel
theorem dL_law_1664 : decode cL_law 1664 = .ok (.istore 6, 2) := by decide +kernel
theorem dL_law_1666 : decode cL_law 1666 = .ok (.aload_n 2, 1) := by decide +kernel
theorem dL_law_1667 : decode cL_law 1667 = .ok (.invokevirtual 197, 3) := by decide +kernel
theorem dL_law_1670 : decode cL_law 1670 = .ok (.dstore 7, 2) := by decide +kernel
theorem dL_law_1672 : decode cL_law 1672 = .ok (.aload_n 2, 1) := by decide +kernel
theorem dL_law_1673 : decode cL_law 1673 = .ok (.invokevirtual 113, 3) := by decide +kernel
theorem dL_law_1676 : decode cL_law 1676 = .ok (.iload 6, 2) := by decide +kernel
theorem dL_law_1678 : decode cL_law 1678 = .ok (.if_icmp .eq 5, 3) := by decide +kernel
theorem dL_law_1683 : decode cL_law 1683 = .ok (.iload 6, 2) := by decide +kernel
theorem dL_law_1685 : decode cL_law 1685 = .ok (.ifCond .ne 35, 3) := by decide +kernel
theorem dL_law_1720 : decode cL_law 1720 = .ok (.goto 16, 3) := by decide +kernel
theorem dL_law_1723 : decode cL_law 1723 = .ok (.aload_n 1, 1) := by decide +kernel
theorem dL_law_1724 : decode cL_law 1724 = .ok (.invokevirtual 198, 3) := by decide +kernel
theorem dL_law_1727 : decode cL_law 1727 = .ok (.aload_n 2, 1) := by decide +kernel
theorem dL_law_1728 : decode cL_law 1728 = .ok (.invokevirtual 201, 3) := by decide +kernel
theorem dL_law_1731 : decode cL_law 1731 = .ok (.if_icmp .eq 5, 3) := by decide +kernel
theorem dL_law_372 : decode cL_law 372 = .ok (.aload_n 1, 1) := by decide +kernel
theorem dL_law_373 : decode cL_law 373 = .ok (.aload_n 0, 1) := by decide +kernel
theorem dL_law_374 : decode cL_law 374 = .ok (.iload 5, 2) := by decide +kernel
theorem dL_law_376 : decode cL_law 376 = .ok (.iconst 1, 1) := by decide +kernel
theorem dL_law_377 : decode cL_law 377 = .ok (.iadd, 1) := by decide +kernel
theorem dL_law_378 : decode cL_law 378 = .ok (.iaload, 1) := by decide +kernel
theorem dL_law_379 : decode cL_law 379 = .ok (.aload_n 0, 1) := by decide +kernel
theorem dL_law_380 : decode cL_law 380 = .ok (.iload 5, 2) := by decide +kernel
theorem dL_law_382 : decode cL_law 382 = .ok (.iconst 2, 1) := by decide +kernel
theorem dL_law_383 : decode cL_law 383 = .ok (.iadd, 1) := by decide +kernel
theorem dL_law_384 : decode cL_law 384 = .ok (.iaload, 1) := by decide +kernel
theorem dL_law_385 : decode cL_law 385 = .ok (.aload_n 3, 1) := by decide +kernel
theorem dL_law_386 : decode cL_law 386 = .ok (.invokestatic 123, 3) := by decide +kernel
theorem dL_law_389 : decode cL_law 389 = .ok (.istore 6, 2) := by decide +kernel
theorem dL_law_391 : decode cL_law 391 = .ok (.aload_n 2, 1) := by decide +kernel
theorem dL_law_392 : decode cL_law 392 = .ok (.aload_n 0, 1) := by decide +kernel
theorem dL_law_393 : decode cL_law 393 = .ok (.iload 5, 2) := by decide +kernel
theorem dL_law_395 : decode cL_law 395 = .ok (.iconst 1, 1) := by decide +kernel
theorem dL_law_396 : decode cL_law 396 = .ok (.iadd, 1) := by decide +kernel
theorem dL_law_397 : decode cL_law 397 = .ok (.iaload, 1) := by decide +kernel
theorem dL_law_398 : decode cL_law 398 = .ok (.aload_n 0, 1) := by decide +kernel
theorem dL_law_399 : decode cL_law 399 = .ok (.iload 5, 2) := by decide +kernel
theorem dL_law_401 : decode cL_law 401 = .ok (.iconst 2, 1) := by decide +kernel
theorem dL_law_402 : decode cL_law 402 = .ok (.iadd, 1) := by decide +kernel
theorem dL_law_403 : decode cL_law 403 = .ok (.iaload, 1) := by decide +kernel
theorem dL_law_404 : decode cL_law 404 = .ok (.invokevirtual 126, 3) := by decide +kernel
theorem dL_law_407 : decode cL_law 407 = .ok (.istore 7, 2) := by decide +kernel
theorem dL_law_409 : decode cL_law 409 = .ok (.aload_n 2, 1) := by decide +kernel
theorem dL_law_410 : decode cL_law 410 = .ok (.invokevirtual 113, 3) := by decide +kernel
theorem dL_law_413 : decode cL_law 413 = .ok (.iload 6, 2) := by decide +kernel
theorem dL_law_415 : decode cL_law 415 = .ok (.if_icmp .eq 5, 3) := by decide +kernel
theorem dL_law_420 : decode cL_law 420 = .ok (.iload 6, 2) := by decide +kernel
theorem dL_law_422 : decode cL_law 422 = .ok (.ifCond .ne 15, 3) := by decide +kernel
theorem dL_law_437 : decode cL_law 437 = .ok (.goto 1299, 3) := by decide +kernel
theorem dL_law_425 : decode cL_law 425 = .ok (.aload_n 3, 1) := by decide +kernel
theorem dL_law_426 : decode cL_law 426 = .ok (.iconst 0, 1) := by decide +kernel
theorem dL_law_427 : decode cL_law 427 = .ok (.laload, 1) := by decide +kernel
theorem dL_law_428 : decode cL_law 428 = .ok (.iload 7, 2) := by decide +kernel
theorem dL_law_430 : decode cL_law 430 = .ok (.i2l, 1) := by decide +kernel
theorem dL_law_431 : decode cL_law 431 = .ok (.lcmp, 1) := by decide +kernel
theorem dL_law_432 : decode cL_law 432 = .ok (.ifCond .eq 5, 3) := by decide +kernel
theorem dL_law_1118 : decode cL_law 1118 = .ok (.aload_n 1, 1) := by decide +kernel
theorem dL_law_1119 : decode cL_law 1119 = .ok (.aload_n 0, 1) := by decide +kernel
theorem dL_law_1120 : decode cL_law 1120 = .ok (.iload 5, 2) := by decide +kernel
theorem dL_law_1122 : decode cL_law 1122 = .ok (.iconst 1, 1) := by decide +kernel
theorem dL_law_1123 : decode cL_law 1123 = .ok (.iadd, 1) := by decide +kernel
theorem dL_law_1124 : decode cL_law 1124 = .ok (.iaload, 1) := by decide +kernel
theorem dL_law_1125 : decode cL_law 1125 = .ok (.aload_n 0, 1) := by decide +kernel
theorem dL_law_1126 : decode cL_law 1126 = .ok (.iload 5, 2) := by decide +kernel
theorem dL_law_1128 : decode cL_law 1128 = .ok (.iconst 2, 1) := by decide +kernel
theorem dL_law_1129 : decode cL_law 1129 = .ok (.iadd, 1) := by decide +kernel
theorem dL_law_1130 : decode cL_law 1130 = .ok (.iaload, 1) := by decide +kernel
theorem dL_law_1131 : decode cL_law 1131 = .ok (.aload_n 0, 1) := by decide +kernel
theorem dL_law_1132 : decode cL_law 1132 = .ok (.iload 5, 2) := by decide +kernel
theorem dL_law_1134 : decode cL_law 1134 = .ok (.iconst 3, 1) := by decide +kernel
theorem dL_law_1135 : decode cL_law 1135 = .ok (.iadd, 1) := by decide +kernel
theorem dL_law_1136 : decode cL_law 1136 = .ok (.iaload, 1) := by decide +kernel
theorem dL_law_1137 : decode cL_law 1137 = .ok (.aload_n 3, 1) := by decide +kernel
theorem dL_law_1138 : decode cL_law 1138 = .ok (.invokestatic 161, 3) := by decide +kernel
theorem dL_law_1141 : decode cL_law 1141 = .ok (.istore 6, 2) := by decide +kernel
theorem dL_law_1143 : decode cL_law 1143 = .ok (.aload_n 2, 1) := by decide +kernel
theorem dL_law_1144 : decode cL_law 1144 = .ok (.aload_n 0, 1) := by decide +kernel
theorem dL_law_1145 : decode cL_law 1145 = .ok (.iload 5, 2) := by decide +kernel
theorem dL_law_1147 : decode cL_law 1147 = .ok (.iconst 1, 1) := by decide +kernel
theorem dL_law_1148 : decode cL_law 1148 = .ok (.iadd, 1) := by decide +kernel
theorem dL_law_1149 : decode cL_law 1149 = .ok (.iaload, 1) := by decide +kernel
theorem dL_law_1150 : decode cL_law 1150 = .ok (.aload_n 0, 1) := by decide +kernel
theorem dL_law_1151 : decode cL_law 1151 = .ok (.iload 5, 2) := by decide +kernel
theorem dL_law_1153 : decode cL_law 1153 = .ok (.iconst 2, 1) := by decide +kernel
theorem dL_law_1154 : decode cL_law 1154 = .ok (.iadd, 1) := by decide +kernel
theorem dL_law_1155 : decode cL_law 1155 = .ok (.iaload, 1) := by decide +kernel
theorem dL_law_1156 : decode cL_law 1156 = .ok (.aload_n 0, 1) := by decide +kernel
theorem dL_law_1157 : decode cL_law 1157 = .ok (.iload 5, 2) := by decide +kernel
theorem dL_law_1159 : decode cL_law 1159 = .ok (.iconst 3, 1) := by decide +kernel
theorem dL_law_1160 : decode cL_law 1160 = .ok (.iadd, 1) := by decide +kernel
theorem dL_law_1161 : decode cL_law 1161 = .ok (.iaload, 1) := by decide +kernel
theorem dL_law_1162 : decode cL_law 1162 = .ok (.invokevirtual 163, 3) := by decide +kernel
theorem dL_law_1165 : decode cL_law 1165 = .ok (.istore 7, 2) := by decide +kernel
theorem dL_law_1167 : decode cL_law 1167 = .ok (.aload_n 2, 1) := by decide +kernel
theorem dL_law_1168 : decode cL_law 1168 = .ok (.invokevirtual 113, 3) := by decide +kernel
theorem dL_law_1171 : decode cL_law 1171 = .ok (.iload 6, 2) := by decide +kernel
theorem dL_law_1173 : decode cL_law 1173 = .ok (.if_icmp .eq 5, 3) := by decide +kernel
theorem dL_law_1178 : decode cL_law 1178 = .ok (.iload 6, 2) := by decide +kernel
theorem dL_law_1180 : decode cL_law 1180 = .ok (.ifCond .ne 15, 3) := by decide +kernel
theorem dL_law_1195 : decode cL_law 1195 = .ok (.goto 541, 3) := by decide +kernel
theorem dL_law_1211 : decode cL_law 1211 = .ok (.aload_n 1, 1) := by decide +kernel
theorem dL_law_1212 : decode cL_law 1212 = .ok (.aload_n 0, 1) := by decide +kernel
theorem dL_law_1213 : decode cL_law 1213 = .ok (.iload 5, 2) := by decide +kernel
theorem dL_law_1215 : decode cL_law 1215 = .ok (.iconst 1, 1) := by decide +kernel
theorem dL_law_1216 : decode cL_law 1216 = .ok (.iadd, 1) := by decide +kernel
theorem dL_law_1217 : decode cL_law 1217 = .ok (.iaload, 1) := by decide +kernel
theorem dL_law_1218 : decode cL_law 1218 = .ok (.aload_n 3, 1) := by decide +kernel
theorem dL_law_1219 : decode cL_law 1219 = .ok (.invokestatic 168, 3) := by decide +kernel
theorem dL_law_1222 : decode cL_law 1222 = .ok (.istore 6, 2) := by decide +kernel
theorem dL_law_1224 : decode cL_law 1224 = .ok (.aload_n 2, 1) := by decide +kernel
theorem dL_law_1225 : decode cL_law 1225 = .ok (.aload_n 0, 1) := by decide +kernel
theorem dL_law_1226 : decode cL_law 1226 = .ok (.iload 5, 2) := by decide +kernel
theorem dL_law_1228 : decode cL_law 1228 = .ok (.iconst 1, 1) := by decide +kernel
theorem dL_law_1229 : decode cL_law 1229 = .ok (.iadd, 1) := by decide +kernel
theorem dL_law_1230 : decode cL_law 1230 = .ok (.iaload, 1) := by decide +kernel
theorem dL_law_1231 : decode cL_law 1231 = .ok (.invokevirtual 170, 3) := by decide +kernel
theorem dL_law_1234 : decode cL_law 1234 = .ok (.istore 7, 2) := by decide +kernel
theorem dL_law_1236 : decode cL_law 1236 = .ok (.aload_n 2, 1) := by decide +kernel
theorem dL_law_1237 : decode cL_law 1237 = .ok (.invokevirtual 113, 3) := by decide +kernel
theorem dL_law_1240 : decode cL_law 1240 = .ok (.iload 6, 2) := by decide +kernel
theorem dL_law_1242 : decode cL_law 1242 = .ok (.if_icmp .eq 5, 3) := by decide +kernel
theorem dL_law_1247 : decode cL_law 1247 = .ok (.iload 6, 2) := by decide +kernel
theorem dL_law_1249 : decode cL_law 1249 = .ok (.ifCond .ne 15, 3) := by decide +kernel
theorem dL_law_1264 : decode cL_law 1264 = .ok (.goto 472, 3) := by decide +kernel
set_option maxHeartbeats 4000000 in
set_option maxRecDepth 100000 in
theorem law_puzzle {p : Program} {e : Env} {s : State} {m : MethodId} {below : List Frame} {meth : Method} {c : Code} (l : Launch) (hst : l.stackTraces = false) {scr : Nat} {xs : Nat → Int32} (C0 : lw_At p s m meth c scr 4 xs) (G : GG) (A : Nat → Prop) (hA : ∀ q : Nat, s.heap.size ≤ q → A q) (hA2 : ∀ q : Nat, A q → s.heap.size ≤ q) (hK : va_K (gD G) vwCl (gT G) s) (hE : EV G A s s.heap) (ho al ts pb sv b mm sr se mo al2 pf ou od : Nat) (f g hh pff : Nat → Int32) (H : Heap) (locs : List Loc) (hP : va_P (gD G) vwCl [(ho, .inr (11, [.ref al, .ref sv, .ref ts, .ref pb, .null, .int (nI 0)])), (al, .inr (4, [.int (nI 0), .ref (gE G), .int (nI 0)])), (sv, .inr (10, [.ref b, .ref sr, .ref se, .int (nI 0), .int (nI 0), .int (nI 110)])), (b, .inr (5, [.ref mm])), (mm, .inl (gyI G, 16, .inl f)), (sr, .inl (gyI G, 64, .inl g)), (se, .inl (gyI G, 16, .inl hh)), (mo, .inr (15, [.int (nI 0), .ref al2, .long (lN 0), .null, .ref pf, .int (nI 0)])), (al2, .inr (4, [.int (nI 0), .ref (gE G), .int (nI 0)])), (pf, .inl (gyI G, 16, .inl pff)), (ou, .inl (gyL G, 1, .inr (.inl (fun _ => 0)))), (od, .inl (gyD G, 1, .inr (.inr (.inr (.inl (fun _ => 0))))))] H) (hD : va_D A [(ho, .inr (11, [.ref al, .ref sv, .ref ts, .ref pb, .null, .int (nI 0)])), (al, .inr (4, [.int (nI 0), .ref (gE G), .int (nI 0)])), (sv, .inr (10, [.ref b, .ref sr, .ref se, .int (nI 0), .int (nI 0), .int (nI 110)])), (b, .inr (5, [.ref mm])), (mm, .inl (gyI G, 16, .inl f)), (sr, .inl (gyI G, 64, .inl g)), (se, .inl (gyI G, 16, .inl hh)), (mo, .inr (15, [.int (nI 0), .ref al2, .long (lN 0), .null, .ref pf, .int (nI 0)])), (al2, .inr (4, [.int (nI 0), .ref (gE G), .int (nI 0)])), (pf, .inl (gyI G, 16, .inl pff)), (ou, .inl (gyL G, 1, .inr (.inl (fun _ => 0)))), (od, .inl (gyD G, 1, .inr (.inr (.inr (.inl (fun _ => 0))))))]) (hS : va_S A s.heap H locs) (ls : Array Slot) (hl : lv_has ls 9 [(0, .ref scr), (1, .ref ho), (2, .ref mo), (3, .ref ou), (4, .ref od), (5, .int (nI 0))]) : W p l e room_1 s m #[Value.ref scr] below meth c H locs 17 191 (lw_Z below #[Value.ref scr] s) (F0 m 168 ls []) := by
  obtain ⟨hx, hb, hr, hml, hown, hts0, hX, hbl, hlocks, hgv⟩ := C0
  have hown : s.vm.findClass "PegboardryLaw" = some m.cls := hown
  have hts : ∀ w ∈ WW, w.before #[Value.ref scr] s = true := fun w hw => hts0 w (List.mem_filter.mp hw).1
  have hbA : ¬ A scr := fun z => Nat.not_le.mpr hbl (hA2 _ z)
  refine lv_aload_n hx hb dL_law_168 rfl (lv_at hl 1 rfl) ?_
  refine lv_aload_n hx hb dL_law_169 rfl (lv_at hl 3 rfl) ?_
  refine fin_i hP hD hS hA [0, 1, 10] [2, 3, 4, 5, 6, 7, 8, 9, 11] (wr := [(sv, .inr (10, [.ref b, .ref sr, .ref se, .int (nI 0), .int (nI 0), .int (nI 110)])), (b, .inr (5, [.ref mm])), (mm, .inl (gyI G, 16, .inl f)), (sr, .inl (gyI G, 64, .inl g)), (se, .inl (gyI G, 16, .inl hh)), (mo, .inr (15, [.int (nI 0), .ref al2, .long (lN 0), .null, .ref pf, .int (nI 0)])), (al2, .inr (4, [.int (nI 0), .ref (gE G), .int (nI 0)])), (pf, .inl (gyI G, 16, .inl pff)), (od, .inl (gyD G, 1, .inr (.inr (.inr (.inl (fun _ => 0))))))]) rfl rfl (by decide) (by decide) (vx_runSW (As := [.ref ho, .ref ou]) (rest := []) ⟨hx, hb, hml, hown, hts⟩ (l_puzzle l G ho al ts pb (nI 0) sv (nI 0) ou (fun _ => 0) hst H.size) (vx_cwSW 2 hts (gSt q349 q350 q44 q351) rfl rfl rfl (by decide +kernel) ⟨Nat.le_of_ble_eq_true rfl, Nat.le_of_ble_eq_true rfl⟩) (preS hK hE hP hD hS hA [0, 1, 10] rfl (by decide)) rfl rfl hl.1 rfl (lv_room (Nat.le_of_ble_eq_true rfl)) dL_law_170 ⟨Nat.le_of_ble_eq_true rfl, Nat.le_of_ble_eq_true rfl⟩) (fun r_3 u9 hw_2 H locs hP hD hS => ?_)
  obtain ⟨fo2_1, rfl⟩ : ∃ z, z = u9 := ⟨_, rfl⟩
  obtain ⟨rfl, hfo_4⟩ := hw_2
  have hfo_4 : fo2_1 0 = lN 0 := hfo_4
  have hP : va_P (gD G) vwCl [(sv, .inr (10, [.ref b, .ref sr, .ref se, .int (nI 0), .int (nI 0), .int (nI 110)])), (b, .inr (5, [.ref mm])), (mm, .inl (gyI G, 16, .inl f)), (sr, .inl (gyI G, 64, .inl g)), (se, .inl (gyI G, 16, .inl hh)), (mo, .inr (15, [.int (nI 0), .ref al2, .long (lN 0), .null, .ref pf, .int (nI 0)])), (al2, .inr (4, [.int (nI 0), .ref (gE G), .int (nI 0)])), (pf, .inl (gyI G, 16, .inl pff)), (od, .inl (gyD G, 1, .inr (.inr (.inr (.inl (fun _ => 0)))))), (ou, .inl (gyL G, 1, .inr (.inl fo2_1)))] H := hP
  have hD : va_D A [(sv, .inr (10, [.ref b, .ref sr, .ref se, .int (nI 0), .int (nI 0), .int (nI 110)])), (b, .inr (5, [.ref mm])), (mm, .inl (gyI G, 16, .inl f)), (sr, .inl (gyI G, 64, .inl g)), (se, .inl (gyI G, 16, .inl hh)), (mo, .inr (15, [.int (nI 0), .ref al2, .long (lN 0), .null, .ref pf, .int (nI 0)])), (al2, .inr (4, [.int (nI 0), .ref (gE G), .int (nI 0)])), (pf, .inl (gyI G, 16, .inl pff)), (od, .inl (gyD G, 1, .inr (.inr (.inr (.inl (fun _ => 0)))))), (ou, .inl (gyL G, 1, .inr (.inl fo2_1)))] := hD
  refine lv_istore (lv' := [(6, .int (nI 0)), (0, .ref scr), (1, .ref ho), (2, .ref mo), (3, .ref ou), (4, .ref od), (5, .int (nI 0))]) hx hb dL_law_173 hl (by decide) rfl (fun ls hl => ?_)
  refine lv_aload_n hx hb dL_law_175 rfl (lv_at hl 3 rfl) ?_
  refine fin_i hP hD hS hA [5, 6] [0, 1, 2, 3, 4, 7, 8, 9] (wr := [(sv, .inr (10, [.ref b, .ref sr, .ref se, .int (nI 0), .int (nI 0), .int (nI 110)])), (b, .inr (5, [.ref mm])), (mm, .inl (gyI G, 16, .inl f)), (sr, .inl (gyI G, 64, .inl g)), (se, .inl (gyI G, 16, .inl hh)), (pf, .inl (gyI G, 16, .inl pff)), (od, .inl (gyD G, 1, .inr (.inr (.inr (.inl (fun _ => 0)))))), (ou, .inl (gyL G, 1, .inr (.inl fo2_1)))]) rfl rfl (by decide) (by decide) (va_runV (As := []) (rest := []) ⟨hx, hb, hml, hown, hts⟩ (c_X10_puzzle l G mo (nI 0) al2 0 pf (nI 0) (nI 0) H.size) (cwV 0 hts (gV q950 q951 q952 q52 q953) rfl rfl rfl (by decide +kernel) ⟨Nat.le_of_ble_eq_true rfl, Nat.le_of_ble_eq_true rfl⟩) (preV (q0 := 5) (ci := 15) hK hE hP hD hS hA [5, 6] rfl (by decide) rfl rfl) rfl rfl hl.1 rfl (lv_room (Nat.le_of_ble_eq_true rfl)) dL_law_176 ⟨Nat.le_of_ble_eq_true rfl, Nat.le_of_ble_eq_true rfl⟩) (fun r_6 u9 hw_5 H locs hP hD hS => ?_)
  subst hw_5
  have hP : va_P (gD G) vwCl [(sv, .inr (10, [.ref b, .ref sr, .ref se, .int (nI 0), .int (nI 0), .int (nI 110)])), (b, .inr (5, [.ref mm])), (mm, .inl (gyI G, 16, .inl f)), (sr, .inl (gyI G, 64, .inl g)), (se, .inl (gyI G, 16, .inl hh)), (pf, .inl (gyI G, 16, .inl pff)), (od, .inl (gyD G, 1, .inr (.inr (.inr (.inl (fun _ => 0)))))), (ou, .inl (gyL G, 1, .inr (.inl fo2_1))), (mo, .inr (15, [.int (nI 0), .ref al2, .long (lN 0), .null, .ref pf, .int (nI 0)]))] H := hP
  have hD : va_D A [(sv, .inr (10, [.ref b, .ref sr, .ref se, .int (nI 0), .int (nI 0), .int (nI 110)])), (b, .inr (5, [.ref mm])), (mm, .inl (gyI G, 16, .inl f)), (sr, .inl (gyI G, 64, .inl g)), (se, .inl (gyI G, 16, .inl hh)), (pf, .inl (gyI G, 16, .inl pff)), (od, .inl (gyD G, 1, .inr (.inr (.inr (.inl (fun _ => 0)))))), (ou, .inl (gyL G, 1, .inr (.inl fo2_1))), (mo, .inr (15, [.int (nI 0), .ref al2, .long (lN 0), .null, .ref pf, .int (nI 0)]))] := hD
  refine lv_istore (lv' := [(7, .int (nI 0)), (6, .int (nI 0)), (0, .ref scr), (1, .ref ho), (2, .ref mo), (3, .ref ou), (4, .ref od), (5, .int (nI 0))]) hx hb dL_law_179 hl (by decide) rfl (fun ls hl => ?_)
  refine lv_aload_n hx hb dL_law_181 rfl (lv_at hl 4 rfl) ?_
  refine fin_i hP hD hS hA [8] [0, 1, 2, 3, 4, 5, 6, 7] (wr := [(sv, .inr (10, [.ref b, .ref sr, .ref se, .int (nI 0), .int (nI 0), .int (nI 110)])), (b, .inr (5, [.ref mm])), (mm, .inl (gyI G, 16, .inl f)), (sr, .inl (gyI G, 64, .inl g)), (se, .inl (gyI G, 16, .inl hh)), (pf, .inl (gyI G, 16, .inl pff)), (od, .inl (gyD G, 1, .inr (.inr (.inr (.inl (fun _ => 0)))))), (ou, .inl (gyL G, 1, .inr (.inl fo2_1)))]) rfl rfl (by decide) (by decide) (va_runV (As := []) (rest := []) ⟨hx, hb, hml, hown, hts⟩ (c_X10_thrown l G mo 0 al2 0 pf (nI 0) H.size) (cwV 0 hts (gV q946 q947 q948 q52 q949) rfl rfl rfl (by decide +kernel) ⟨Nat.le_of_ble_eq_true rfl, Nat.le_of_ble_eq_true rfl⟩) (preV (q0 := 8) (ci := 15) hK hE hP hD hS hA [8] rfl (by decide) rfl rfl) rfl rfl hl.1 rfl (lv_room (Nat.le_of_ble_eq_true rfl)) dL_law_182 ⟨Nat.le_of_ble_eq_true rfl, Nat.le_of_ble_eq_true rfl⟩) (fun r_8 u9 hw_7 H locs hP hD hS => ?_)
  subst hw_7
  have hP : va_P (gD G) vwCl [(sv, .inr (10, [.ref b, .ref sr, .ref se, .int (nI 0), .int (nI 0), .int (nI 110)])), (b, .inr (5, [.ref mm])), (mm, .inl (gyI G, 16, .inl f)), (sr, .inl (gyI G, 64, .inl g)), (se, .inl (gyI G, 16, .inl hh)), (pf, .inl (gyI G, 16, .inl pff)), (od, .inl (gyD G, 1, .inr (.inr (.inr (.inl (fun _ => 0)))))), (ou, .inl (gyL G, 1, .inr (.inl fo2_1))), (mo, .inr (15, [.int (nI 0), .ref al2, .long (lN 0), .null, .ref pf, .int (nI 0)]))] H := hP
  have hD : va_D A [(sv, .inr (10, [.ref b, .ref sr, .ref se, .int (nI 0), .int (nI 0), .int (nI 110)])), (b, .inr (5, [.ref mm])), (mm, .inl (gyI G, 16, .inl f)), (sr, .inl (gyI G, 64, .inl g)), (se, .inl (gyI G, 16, .inl hh)), (pf, .inl (gyI G, 16, .inl pff)), (od, .inl (gyD G, 1, .inr (.inr (.inr (.inl (fun _ => 0)))))), (ou, .inl (gyL G, 1, .inr (.inl fo2_1))), (mo, .inr (15, [.int (nI 0), .ref al2, .long (lN 0), .null, .ref pf, .int (nI 0)]))] := hD
  refine lv_iload hx hb dL_law_185 (lv_at hl 1 rfl) ?_
  refine lv_icmp_eq (tgt := 192) hx hb dL_law_187 (by decide) (fun c_9 => ?_) (fun c_9 => ?_)
  · skip
    have c_9 : 0 = 0 := (nI_eq (a := 0) (b := 0) (by omega) (by omega)).mp c_9
    refine lv_iload hx hb dL_law_192 (lv_at hl 1 rfl) ?_
    refine lv_if_ne (tgt := 209) hx hb dL_law_194 (by decide) (fun c_10 => ?_) (fun c_10 => ?_)
    · skip
      have c_10 : ¬ 0 = 0 := fun z => c_10 ((nI_eq (a := 0) (b := 0) (by omega) (by omega)).mpr z)
      exact absurd c_10 (by decide)
    · skip
      have c_10 : 0 = 0 := (nI_eq (a := 0) (b := 0) (by omega) (by omega)).mp c_10
      refine lv_aload_n hx hb dL_law_197 rfl (lv_at hl 5 rfl) ?_
      refine lv_iconst (v := nI 0) hx hb dL_law_198 (by decide) ?_
      refine va_lald (D := gD G) (cA := gyL G) (n := 1) (f := fo2_1) hx hb hK hP 7 2 rfl rfl (vp_in_nI (n := 0) (N := 1) (by omega) (by omega)) dL_law_199 ?_
      refine lv_tol (show fo2_1 (nI 0).toNatClampNeg = lN 0 by rw [nI_clamp (by omega)]; exact hfo_4) ?_
      refine lv_iload hx hb dL_law_200 (lv_at hl 0 rfl) ?_
      refine lv_i2l (v := lN 0) hx hb dL_law_202 (nI_l (by omega)) ?_
      refine W.lcmp hx hb dL_law_203 ?_
      refine lv_toe (show lg_cmp (lN 0) (lN 0) = nI 0 by decide) ?_
      refine lv_if_eq (tgt := 209) hx hb dL_law_204 (by decide) (fun c_11 => ?_) (fun c_11 => ?_)
      · skip
        have c_11 : 0 = 0 := (nI_eq (a := 0) (b := 0) (by omega) (by omega)).mp c_11
        refine lv_goto (tgt := 1736) hx hb dL_law_209 (by decide) ?_
        refine lv_iinc (v := nI 4) (lv' := [(5, .int (nI 4)), (7, .int (nI 0)), (6, .int (nI 0)), (0, .ref scr), (1, .ref ho), (2, .ref mo), (3, .ref ou), (4, .ref od)]) hx hb dL_law_1736 hl (k := 7) rfl (nI_add 0 4) (by decide) rfl (fun ls hl => ?_)
        refine lv_goto (tgt := 28) hx hb dL_law_1739 (by decide) ?_
        refine lv_iload hx hb dL_law_28 (lv_at hl 0 rfl) ?_
        refine lv_aload_n hx hb dL_law_30 rfl (lv_at hl 3 rfl) ?_
        refine va_slen hx hb hX hbl hbA hS dL_law_31 ?_
        refine lv_toe (show Int32.ofNat 4 = nI 4 from rfl) ?_
        refine lv_iconst (v := nI 4) hx hb dL_law_32 (by decide) ?_
        refine lv_isub hx hb dL_law_33 ?_
        refine lv_toe (pk_sub (a := 4) (b := 4) (by omega)) ?_
        refine lv_icmp_gt (tgt := 1742) hx hb dL_law_34 (by decide) (fun c_12 => ?_) (fun c_12 => ?_)
        · skip
          have c_12 : 0 < 4 := (nI_ltI (a := 0) (b := 4) (by omega) (by omega)).mp c_12
          refine lv_iconst (v := nI 1) hx hb dL_law_1742 (by decide) ?_
          refine va_forget (fun q hq => hA2 _ (hS.2.2 q hq)) ?_
          refine W.widen (k := 607190) (n := 7280494) (Nat.le_of_ble_eq_true rfl) (Nat.le_of_ble_eq_true rfl) ?_
          exact lw_ret (d0 := s.drawn) (Drawn.sameBut.refl s.drawn lw_cs) hx hb hr hlocks dL_law_1743
        · skip
          have c_12 : ¬ 0 < 4 := fun z => c_12 ((nI_ltI (a := 0) (b := 4) (by omega) (by omega)).mpr z)
          exact absurd c_12 (by decide)
      · skip
        have c_11 : ¬ 0 = 0 := fun z => c_11 ((nI_eq (a := 0) (b := 0) (by omega) (by omega)).mpr z)
        exact absurd c_11 (by decide)
  · skip
    have c_9 : ¬ 0 = 0 := fun z => c_9 ((nI_eq (a := 0) (b := 0) (by omega) (by omega)).mpr z)
    exact absurd c_9 (by decide)
set_option maxHeartbeats 4000000 in
set_option maxRecDepth 100000 in
theorem law_give {p : Program} {e : Env} {s : State} {m : MethodId} {below : List Frame} {meth : Method} {c : Code} (l : Launch) (hst : l.stackTraces = false) {scr : Nat} {xs : Nat → Int32} (C0 : lw_At p s m meth c scr 4 xs) (G : GG) (A : Nat → Prop) (hA : ∀ q : Nat, s.heap.size ≤ q → A q) (hA2 : ∀ q : Nat, A q → s.heap.size ≤ q) (hK : va_K (gD G) vwCl (gT G) s) (hE : EV G A s s.heap) (ho al ts pb sv b mm sr se mo al2 pf ou od : Nat) (f g hh pff : Nat → Int32) (H : Heap) (locs : List Loc) (hP : va_P (gD G) vwCl [(ho, .inr (11, [.ref al, .ref sv, .ref ts, .ref pb, .null, .int (nI 0)])), (al, .inr (4, [.int (nI 0), .ref (gE G), .int (nI 0)])), (sv, .inr (10, [.ref b, .ref sr, .ref se, .int (nI 0), .int (nI 0), .int (nI 110)])), (b, .inr (5, [.ref mm])), (mm, .inl (gyI G, 16, .inl f)), (sr, .inl (gyI G, 64, .inl g)), (se, .inl (gyI G, 16, .inl hh)), (mo, .inr (15, [.int (nI 0), .ref al2, .long (lN 0), .null, .ref pf, .int (nI 0)])), (al2, .inr (4, [.int (nI 0), .ref (gE G), .int (nI 0)])), (pf, .inl (gyI G, 16, .inl pff)), (ou, .inl (gyL G, 1, .inr (.inl (fun _ => 0)))), (od, .inl (gyD G, 1, .inr (.inr (.inr (.inl (fun _ => 0))))))] H) (hD : va_D A [(ho, .inr (11, [.ref al, .ref sv, .ref ts, .ref pb, .null, .int (nI 0)])), (al, .inr (4, [.int (nI 0), .ref (gE G), .int (nI 0)])), (sv, .inr (10, [.ref b, .ref sr, .ref se, .int (nI 0), .int (nI 0), .int (nI 110)])), (b, .inr (5, [.ref mm])), (mm, .inl (gyI G, 16, .inl f)), (sr, .inl (gyI G, 64, .inl g)), (se, .inl (gyI G, 16, .inl hh)), (mo, .inr (15, [.int (nI 0), .ref al2, .long (lN 0), .null, .ref pf, .int (nI 0)])), (al2, .inr (4, [.int (nI 0), .ref (gE G), .int (nI 0)])), (pf, .inl (gyI G, 16, .inl pff)), (ou, .inl (gyL G, 1, .inr (.inl (fun _ => 0)))), (od, .inl (gyD G, 1, .inr (.inr (.inr (.inl (fun _ => 0))))))]) (hS : va_S A s.heap H locs) (ls : Array Slot) (hl : lv_has ls 9 [(0, .ref scr), (1, .ref ho), (2, .ref mo), (3, .ref ou), (4, .ref od), (5, .int (nI 0))]) : W p l e room_1 s m #[Value.ref scr] below meth c H locs 17 191 (lw_Z below #[Value.ref scr] s) (F0 m 212 ls []) := by
  obtain ⟨hx, hb, hr, hml, hown, hts0, hX, hbl, hlocks, hgv⟩ := C0
  have hown : s.vm.findClass "PegboardryLaw" = some m.cls := hown
  have hts : ∀ w ∈ WW, w.before #[Value.ref scr] s = true := fun w hw => hts0 w (List.mem_filter.mp hw).1
  have hbA : ¬ A scr := fun z => Nat.not_le.mpr hbl (hA2 _ z)
  refine lv_aload_n hx hb dL_law_212 rfl (lv_at hl 1 rfl) ?_
  refine lv_aload_n hx hb dL_law_213 rfl (lv_at hl 0 rfl) ?_
  refine lv_iload hx hb dL_law_214 (lv_at hl 5 rfl) ?_
  refine lv_iconst (v := nI 1) hx hb dL_law_216 (by decide) ?_
  refine lv_iadd hx hb dL_law_217 ?_
  refine lv_toe (nI_add 0 1) ?_
  refine va_sld hx hb hX hbl hbA hS (vp_in_nI (n := 1) (N := 4) (by omega) (by omega)) dL_law_218 ?_
  refine lv_toe (show xs (nI (1)).toNatClampNeg = xs 1 by rw [nI_clamp (by omega)]) ?_
  refine lv_aload_n hx hb dL_law_219 rfl (lv_at hl 0 rfl) ?_
  refine lv_iload hx hb dL_law_220 (lv_at hl 5 rfl) ?_
  refine lv_iconst (v := nI 2) hx hb dL_law_222 (by decide) ?_
  refine lv_iadd hx hb dL_law_223 ?_
  refine lv_toe (nI_add 0 2) ?_
  refine va_sld hx hb hX hbl hbA hS (vp_in_nI (n := 2) (N := 4) (by omega) (by omega)) dL_law_224 ?_
  refine lv_toe (show xs (nI (2)).toNatClampNeg = xs 2 by rw [nI_clamp (by omega)]) ?_
  refine lv_aload_n hx hb dL_law_225 rfl (lv_at hl 0 rfl) ?_
  refine lv_iload hx hb dL_law_226 (lv_at hl 5 rfl) ?_
  refine lv_iconst (v := nI 3) hx hb dL_law_228 (by decide) ?_
  refine lv_iadd hx hb dL_law_229 ?_
  refine lv_toe (nI_add 0 3) ?_
  refine va_sld hx hb hX hbl hbA hS (vp_in_nI (n := 3) (N := 4) (by omega) (by omega)) dL_law_230 ?_
  refine lv_toe (show xs (nI (3)).toNatClampNeg = xs 3 by rw [nI_clamp (by omega)]) ?_
  refine lv_aload_n hx hb dL_law_231 rfl (lv_at hl 3 rfl) ?_
  refine fin_i hP hD hS hA [0, 1, 10] [2, 3, 4, 5, 6, 7, 8, 9, 11] (wr := [(sv, .inr (10, [.ref b, .ref sr, .ref se, .int (nI 0), .int (nI 0), .int (nI 110)])), (b, .inr (5, [.ref mm])), (mm, .inl (gyI G, 16, .inl f)), (sr, .inl (gyI G, 64, .inl g)), (se, .inl (gyI G, 16, .inl hh)), (mo, .inr (15, [.int (nI 0), .ref al2, .long (lN 0), .null, .ref pf, .int (nI 0)])), (al2, .inr (4, [.int (nI 0), .ref (gE G), .int (nI 0)])), (pf, .inl (gyI G, 16, .inl pff)), (od, .inl (gyD G, 1, .inr (.inr (.inr (.inl (fun _ => 0))))))]) rfl rfl (by decide) (by decide) (vx_runSW (As := [.ref ho, .int (xs 1), .int (xs 2), .int (xs 3), .ref ou]) (rest := []) ⟨hx, hb, hml, hown, hts⟩ (l_give l G ho al ts pb (nI 0) sv (nI 0) (xs 1) (xs 2) (xs 3) ou (fun _ => 0) hst H.size) (vx_cwSW 5 hts (gSt q534 q535 q44 q536) rfl rfl rfl (by decide +kernel) ⟨Nat.le_of_ble_eq_true rfl, Nat.le_of_ble_eq_true rfl⟩) (preS hK hE hP hD hS hA [0, 1, 10] rfl (by decide)) rfl rfl hl.1 rfl (lv_room (Nat.le_of_ble_eq_true rfl)) dL_law_232 ⟨Nat.le_of_ble_eq_true rfl, Nat.le_of_ble_eq_true rfl⟩) (fun r_2 u9 hw_1 H locs hP hD hS => ?_)
  subst hw_1
  have hP : va_P (gD G) vwCl [(sv, .inr (10, [.ref b, .ref sr, .ref se, .int (nI 0), .int (nI 0), .int (nI 110)])), (b, .inr (5, [.ref mm])), (mm, .inl (gyI G, 16, .inl f)), (sr, .inl (gyI G, 64, .inl g)), (se, .inl (gyI G, 16, .inl hh)), (mo, .inr (15, [.int (nI 0), .ref al2, .long (lN 0), .null, .ref pf, .int (nI 0)])), (al2, .inr (4, [.int (nI 0), .ref (gE G), .int (nI 0)])), (pf, .inl (gyI G, 16, .inl pff)), (od, .inl (gyD G, 1, .inr (.inr (.inr (.inl (fun _ => 0)))))), (ho, .inr (11, [.ref al, .ref sv, .ref ts, .ref pb, .null, .int (nI 0)])), (al, .inr (4, [.int (nI 0), .ref (gE G), .int (nI 0)])), (ou, .inl (gyL G, 1, .inr (.inl (fun _ => 0))))] H := hP
  have hD : va_D A [(sv, .inr (10, [.ref b, .ref sr, .ref se, .int (nI 0), .int (nI 0), .int (nI 110)])), (b, .inr (5, [.ref mm])), (mm, .inl (gyI G, 16, .inl f)), (sr, .inl (gyI G, 64, .inl g)), (se, .inl (gyI G, 16, .inl hh)), (mo, .inr (15, [.int (nI 0), .ref al2, .long (lN 0), .null, .ref pf, .int (nI 0)])), (al2, .inr (4, [.int (nI 0), .ref (gE G), .int (nI 0)])), (pf, .inl (gyI G, 16, .inl pff)), (od, .inl (gyD G, 1, .inr (.inr (.inr (.inl (fun _ => 0)))))), (ho, .inr (11, [.ref al, .ref sv, .ref ts, .ref pb, .null, .int (nI 0)])), (al, .inr (4, [.int (nI 0), .ref (gE G), .int (nI 0)])), (ou, .inl (gyL G, 1, .inr (.inl (fun _ => 0))))] := hD
  refine lv_istore (lv' := [(6, .int (nI 1)), (0, .ref scr), (1, .ref ho), (2, .ref mo), (3, .ref ou), (4, .ref od), (5, .int (nI 0))]) hx hb dL_law_235 hl (by decide) rfl (fun ls hl => ?_)
  refine lv_aload_n hx hb dL_law_237 rfl (lv_at hl 3 rfl) ?_
  refine lv_aload_n hx hb dL_law_238 rfl (lv_at hl 1 rfl) ?_
  refine lv_iload hx hb dL_law_239 (lv_at hl 6 rfl) ?_
  refine lv_iconst (v := nI 1) hx hb dL_law_241 (by decide) ?_
  refine lv_iadd hx hb dL_law_242 ?_
  refine lv_toe (nI_add 0 1) ?_
  refine va_sld hx hb hX hbl hbA hS (vp_in_nI (n := 1) (N := 4) (by omega) (by omega)) dL_law_243 ?_
  refine lv_toe (show xs (nI (1)).toNatClampNeg = xs 1 by rw [nI_clamp (by omega)]) ?_
  refine lv_aload_n hx hb dL_law_244 rfl (lv_at hl 1 rfl) ?_
  refine lv_iload hx hb dL_law_245 (lv_at hl 6 rfl) ?_
  refine lv_iconst (v := nI 2) hx hb dL_law_247 (by decide) ?_
  refine lv_iadd hx hb dL_law_248 ?_
  refine lv_toe (nI_add 0 2) ?_
  refine va_sld hx hb hX hbl hbA hS (vp_in_nI (n := 2) (N := 4) (by omega) (by omega)) dL_law_249 ?_
  refine lv_toe (show xs (nI (2)).toNatClampNeg = xs 2 by rw [nI_clamp (by omega)]) ?_
  refine lv_aload_n hx hb dL_law_250 rfl (lv_at hl 1 rfl) ?_
  refine lv_iload hx hb dL_law_251 (lv_at hl 6 rfl) ?_
  refine lv_iconst (v := nI 3) hx hb dL_law_253 (by decide) ?_
  refine lv_iadd hx hb dL_law_254 ?_
  refine lv_toe (nI_add 0 3) ?_
  refine va_sld hx hb hX hbl hbA hS (vp_in_nI (n := 3) (N := 4) (by omega) (by omega)) dL_law_255 ?_
  refine lv_toe (show xs (nI (3)).toNatClampNeg = xs 3 by rw [nI_clamp (by omega)]) ?_
  refine fin_i hP hD hS hA [5, 6] [0, 1, 2, 3, 4, 7, 8, 9, 10, 11] (wr := [(sv, .inr (10, [.ref b, .ref sr, .ref se, .int (nI 0), .int (nI 0), .int (nI 110)])), (b, .inr (5, [.ref mm])), (mm, .inl (gyI G, 16, .inl f)), (sr, .inl (gyI G, 64, .inl g)), (se, .inl (gyI G, 16, .inl hh)), (pf, .inl (gyI G, 16, .inl pff)), (od, .inl (gyD G, 1, .inr (.inr (.inr (.inl (fun _ => 0)))))), (ho, .inr (11, [.ref al, .ref sv, .ref ts, .ref pb, .null, .int (nI 0)])), (al, .inr (4, [.int (nI 0), .ref (gE G), .int (nI 0)])), (ou, .inl (gyL G, 1, .inr (.inl (fun _ => 0))))]) rfl rfl (by decide) (by decide) (va_runV (As := [.int (xs 1), .int (xs 2), .int (xs 3)]) (rest := []) ⟨hx, hb, hml, hown, hts⟩ (c_X10_give l G mo (nI 0) al2 0 pf (nI 0) (nI 0) (xs 1) (xs 2) (xs 3) H.size) (cwV 3 hts (gV q994 q995 q996 q52 q997) rfl rfl rfl (by decide +kernel) ⟨Nat.le_of_ble_eq_true rfl, Nat.le_of_ble_eq_true rfl⟩) (preV (q0 := 5) (ci := 15) hK hE hP hD hS hA [5, 6] rfl (by decide) rfl rfl) rfl rfl hl.1 rfl (lv_room (Nat.le_of_ble_eq_true rfl)) dL_law_256 ⟨Nat.le_of_ble_eq_true rfl, Nat.le_of_ble_eq_true rfl⟩) (fun r_4 u9 hw_3 H locs hP hD hS => ?_)
  have hP : va_P (gD G) vwCl [(sv, .inr (10, [.ref b, .ref sr, .ref se, .int (nI 0), .int (nI 0), .int (nI 110)])), (b, .inr (5, [.ref mm])), (mm, .inl (gyI G, 16, .inl f)), (sr, .inl (gyI G, 64, .inl g)), (se, .inl (gyI G, 16, .inl hh)), (pf, .inl (gyI G, 16, .inl pff)), (od, .inl (gyD G, 1, .inr (.inr (.inr (.inl (fun _ => 0)))))), (ho, .inr (11, [.ref al, .ref sv, .ref ts, .ref pb, .null, .int (nI 0)])), (al, .inr (4, [.int (nI 0), .ref (gE G), .int (nI 0)])), (ou, .inl (gyL G, 1, .inr (.inl (fun _ => 0)))), (mo, .inr (15, [.int (nI 1), .ref al2, .long (lN 0), .null, .ref pf, .int (nI 0)])), (al2, .inr (4, [.int (nI 0), .ref (gE G), .int (nI 0)]))] H := hP
  have hD : va_D A [(sv, .inr (10, [.ref b, .ref sr, .ref se, .int (nI 0), .int (nI 0), .int (nI 110)])), (b, .inr (5, [.ref mm])), (mm, .inl (gyI G, 16, .inl f)), (sr, .inl (gyI G, 64, .inl g)), (se, .inl (gyI G, 16, .inl hh)), (pf, .inl (gyI G, 16, .inl pff)), (od, .inl (gyD G, 1, .inr (.inr (.inr (.inl (fun _ => 0)))))), (ho, .inr (11, [.ref al, .ref sv, .ref ts, .ref pb, .null, .int (nI 0)])), (al, .inr (4, [.int (nI 0), .ref (gE G), .int (nI 0)])), (ou, .inl (gyL G, 1, .inr (.inl (fun _ => 0)))), (mo, .inr (15, [.int (nI 1), .ref al2, .long (lN 0), .null, .ref pf, .int (nI 0)])), (al2, .inr (4, [.int (nI 0), .ref (gE G), .int (nI 0)]))] := hD
  refine lv_istore (lv' := [(7, .int r_4), (6, .int (nI 1)), (0, .ref scr), (1, .ref ho), (2, .ref mo), (3, .ref ou), (4, .ref od), (5, .int (nI 0))]) hx hb dL_law_259 hl (by decide) rfl (fun ls hl => ?_)
  refine lv_aload_n hx hb dL_law_261 rfl (lv_at hl 4 rfl) ?_
  refine fin_i hP hD hS hA [10] [0, 1, 2, 3, 4, 5, 6, 7, 8, 9, 11] (wr := [(sv, .inr (10, [.ref b, .ref sr, .ref se, .int (nI 0), .int (nI 0), .int (nI 110)])), (b, .inr (5, [.ref mm])), (mm, .inl (gyI G, 16, .inl f)), (sr, .inl (gyI G, 64, .inl g)), (se, .inl (gyI G, 16, .inl hh)), (pf, .inl (gyI G, 16, .inl pff)), (od, .inl (gyD G, 1, .inr (.inr (.inr (.inl (fun _ => 0)))))), (ho, .inr (11, [.ref al, .ref sv, .ref ts, .ref pb, .null, .int (nI 0)])), (al, .inr (4, [.int (nI 0), .ref (gE G), .int (nI 0)])), (ou, .inl (gyL G, 1, .inr (.inl (fun _ => 0)))), (al2, .inr (4, [.int (nI 0), .ref (gE G), .int (nI 0)]))]) rfl rfl (by decide) (by decide) (va_runV (As := []) (rest := []) ⟨hx, hb, hml, hown, hts⟩ (c_X10_thrown l G mo 1 al2 0 pf (nI 0) H.size) (cwV 0 hts (gV q946 q947 q948 q52 q949) rfl rfl rfl (by decide +kernel) ⟨Nat.le_of_ble_eq_true rfl, Nat.le_of_ble_eq_true rfl⟩) (preV (q0 := 10) (ci := 15) hK hE hP hD hS hA [10] rfl (by decide) rfl rfl) rfl rfl hl.1 rfl (lv_room (Nat.le_of_ble_eq_true rfl)) dL_law_262 ⟨Nat.le_of_ble_eq_true rfl, Nat.le_of_ble_eq_true rfl⟩) (fun r_6 u9 hw_5 H locs hP hD hS => ?_)
  subst hw_5
  have hP : va_P (gD G) vwCl [(sv, .inr (10, [.ref b, .ref sr, .ref se, .int (nI 0), .int (nI 0), .int (nI 110)])), (b, .inr (5, [.ref mm])), (mm, .inl (gyI G, 16, .inl f)), (sr, .inl (gyI G, 64, .inl g)), (se, .inl (gyI G, 16, .inl hh)), (pf, .inl (gyI G, 16, .inl pff)), (od, .inl (gyD G, 1, .inr (.inr (.inr (.inl (fun _ => 0)))))), (ho, .inr (11, [.ref al, .ref sv, .ref ts, .ref pb, .null, .int (nI 0)])), (al, .inr (4, [.int (nI 0), .ref (gE G), .int (nI 0)])), (ou, .inl (gyL G, 1, .inr (.inl (fun _ => 0)))), (al2, .inr (4, [.int (nI 0), .ref (gE G), .int (nI 0)])), (mo, .inr (15, [.int (nI 1), .ref al2, .long (lN 0), .null, .ref pf, .int (nI 0)]))] H := hP
  have hD : va_D A [(sv, .inr (10, [.ref b, .ref sr, .ref se, .int (nI 0), .int (nI 0), .int (nI 110)])), (b, .inr (5, [.ref mm])), (mm, .inl (gyI G, 16, .inl f)), (sr, .inl (gyI G, 64, .inl g)), (se, .inl (gyI G, 16, .inl hh)), (pf, .inl (gyI G, 16, .inl pff)), (od, .inl (gyD G, 1, .inr (.inr (.inr (.inl (fun _ => 0)))))), (ho, .inr (11, [.ref al, .ref sv, .ref ts, .ref pb, .null, .int (nI 0)])), (al, .inr (4, [.int (nI 0), .ref (gE G), .int (nI 0)])), (ou, .inl (gyL G, 1, .inr (.inl (fun _ => 0)))), (al2, .inr (4, [.int (nI 0), .ref (gE G), .int (nI 0)])), (mo, .inr (15, [.int (nI 1), .ref al2, .long (lN 0), .null, .ref pf, .int (nI 0)]))] := hD
  refine lv_iload hx hb dL_law_265 (lv_at hl 1 rfl) ?_
  refine lv_icmp_eq (tgt := 272) hx hb dL_law_267 (by decide) (fun c_7 => ?_) (fun c_7 => ?_)
  · skip
    have c_7 : 1 = 1 := (nI_eq (a := 1) (b := 1) (by omega) (by omega)).mp c_7
    refine lv_iload hx hb dL_law_272 (lv_at hl 1 rfl) ?_
    refine lv_if_ne (tgt := 289) hx hb dL_law_274 (by decide) (fun c_8 => ?_) (fun c_8 => ?_)
    · skip
      have c_8 : ¬ 1 = 0 := fun z => c_8 ((nI_eq (a := 1) (b := 0) (by omega) (by omega)).mpr z)
      refine lv_goto (tgt := 1736) hx hb dL_law_289 (by decide) ?_
      refine lv_iinc (v := nI 4) (lv' := [(5, .int (nI 4)), (7, .int r_4), (6, .int (nI 1)), (0, .ref scr), (1, .ref ho), (2, .ref mo), (3, .ref ou), (4, .ref od)]) hx hb dL_law_1736 hl (k := 7) rfl (nI_add 0 4) (by decide) rfl (fun ls hl => ?_)
      refine lv_goto (tgt := 28) hx hb dL_law_1739 (by decide) ?_
      refine lv_iload hx hb dL_law_28 (lv_at hl 0 rfl) ?_
      refine lv_aload_n hx hb dL_law_30 rfl (lv_at hl 3 rfl) ?_
      refine va_slen hx hb hX hbl hbA hS dL_law_31 ?_
      refine lv_toe (show Int32.ofNat 4 = nI 4 from rfl) ?_
      refine lv_iconst (v := nI 4) hx hb dL_law_32 (by decide) ?_
      refine lv_isub hx hb dL_law_33 ?_
      refine lv_toe (pk_sub (a := 4) (b := 4) (by omega)) ?_
      refine lv_icmp_gt (tgt := 1742) hx hb dL_law_34 (by decide) (fun c_9 => ?_) (fun c_9 => ?_)
      · skip
        have c_9 : 0 < 4 := (nI_ltI (a := 0) (b := 4) (by omega) (by omega)).mp c_9
        refine lv_iconst (v := nI 1) hx hb dL_law_1742 (by decide) ?_
        refine va_forget (fun q hq => hA2 _ (hS.2.2 q hq)) ?_
        refine W.widen (k := 607190) (n := 7280494) (Nat.le_of_ble_eq_true rfl) (Nat.le_of_ble_eq_true rfl) ?_
        exact lw_ret (d0 := s.drawn) (Drawn.sameBut.refl s.drawn lw_cs) hx hb hr hlocks dL_law_1743
      · skip
        have c_9 : ¬ 0 < 4 := fun z => c_9 ((nI_ltI (a := 0) (b := 4) (by omega) (by omega)).mpr z)
        exact absurd c_9 (by decide)
    · skip
      have c_8 : 1 = 0 := (nI_eq (a := 1) (b := 0) (by omega) (by omega)).mp c_8
      exact absurd c_8 (by decide)
  · skip
    have c_7 : ¬ 1 = 1 := fun z => c_7 ((nI_eq (a := 1) (b := 1) (by omega) (by omega)).mpr z)
    exact absurd c_7 (by decide)
set_option maxHeartbeats 4000000 in
set_option maxRecDepth 100000 in
theorem law_addCage {p : Program} {e : Env} {s : State} {m : MethodId} {below : List Frame} {meth : Method} {c : Code} (l : Launch) (hst : l.stackTraces = false) {scr : Nat} {xs : Nat → Int32} (C0 : lw_At p s m meth c scr 4 xs) (G : GG) (A : Nat → Prop) (hA : ∀ q : Nat, s.heap.size ≤ q → A q) (hA2 : ∀ q : Nat, A q → s.heap.size ≤ q) (hK : va_K (gD G) vwCl (gT G) s) (hE : EV G A s s.heap) (ho al ts pb sv b mm sr se mo al2 pf ou od : Nat) (f g hh pff : Nat → Int32) (H : Heap) (locs : List Loc) (hP : va_P (gD G) vwCl [(ho, .inr (11, [.ref al, .ref sv, .ref ts, .ref pb, .null, .int (nI 0)])), (al, .inr (4, [.int (nI 0), .ref (gE G), .int (nI 0)])), (sv, .inr (10, [.ref b, .ref sr, .ref se, .int (nI 0), .int (nI 0), .int (nI 110)])), (b, .inr (5, [.ref mm])), (mm, .inl (gyI G, 16, .inl f)), (sr, .inl (gyI G, 64, .inl g)), (se, .inl (gyI G, 16, .inl hh)), (mo, .inr (15, [.int (nI 0), .ref al2, .long (lN 0), .null, .ref pf, .int (nI 0)])), (al2, .inr (4, [.int (nI 0), .ref (gE G), .int (nI 0)])), (pf, .inl (gyI G, 16, .inl pff)), (ou, .inl (gyL G, 1, .inr (.inl (fun _ => 0)))), (od, .inl (gyD G, 1, .inr (.inr (.inr (.inl (fun _ => 0))))))] H) (hD : va_D A [(ho, .inr (11, [.ref al, .ref sv, .ref ts, .ref pb, .null, .int (nI 0)])), (al, .inr (4, [.int (nI 0), .ref (gE G), .int (nI 0)])), (sv, .inr (10, [.ref b, .ref sr, .ref se, .int (nI 0), .int (nI 0), .int (nI 110)])), (b, .inr (5, [.ref mm])), (mm, .inl (gyI G, 16, .inl f)), (sr, .inl (gyI G, 64, .inl g)), (se, .inl (gyI G, 16, .inl hh)), (mo, .inr (15, [.int (nI 0), .ref al2, .long (lN 0), .null, .ref pf, .int (nI 0)])), (al2, .inr (4, [.int (nI 0), .ref (gE G), .int (nI 0)])), (pf, .inl (gyI G, 16, .inl pff)), (ou, .inl (gyL G, 1, .inr (.inl (fun _ => 0)))), (od, .inl (gyD G, 1, .inr (.inr (.inr (.inl (fun _ => 0))))))]) (hS : va_S A s.heap H locs) (ls : Array Slot) (hl : lv_has ls 9 [(0, .ref scr), (1, .ref ho), (2, .ref mo), (3, .ref ou), (4, .ref od), (5, .int (nI 0))]) : W p l e room_1 s m #[Value.ref scr] below meth c H locs 17 191 (lw_Z below #[Value.ref scr] s) (F0 m 292 ls []) := by
  obtain ⟨hx, hb, hr, hml, hown, hts0, hX, hbl, hlocks, hgv⟩ := C0
  have hown : s.vm.findClass "PegboardryLaw" = some m.cls := hown
  have hts : ∀ w ∈ WW, w.before #[Value.ref scr] s = true := fun w hw => hts0 w (List.mem_filter.mp hw).1
  have hbA : ¬ A scr := fun z => Nat.not_le.mpr hbl (hA2 _ z)
  refine lv_aload_n hx hb dL_law_292 rfl (lv_at hl 1 rfl) ?_
  refine lv_aload_n hx hb dL_law_293 rfl (lv_at hl 0 rfl) ?_
  refine lv_iload hx hb dL_law_294 (lv_at hl 5 rfl) ?_
  refine lv_iconst (v := nI 1) hx hb dL_law_296 (by decide) ?_
  refine lv_iadd hx hb dL_law_297 ?_
  refine lv_toe (nI_add 0 1) ?_
  refine va_sld hx hb hX hbl hbA hS (vp_in_nI (n := 1) (N := 4) (by omega) (by omega)) dL_law_298 ?_
  refine lv_toe (show xs (nI (1)).toNatClampNeg = xs 1 by rw [nI_clamp (by omega)]) ?_
  refine lv_aload_n hx hb dL_law_299 rfl (lv_at hl 0 rfl) ?_
  refine lv_iload hx hb dL_law_300 (lv_at hl 5 rfl) ?_
  refine lv_iconst (v := nI 2) hx hb dL_law_302 (by decide) ?_
  refine lv_iadd hx hb dL_law_303 ?_
  refine lv_toe (nI_add 0 2) ?_
  refine va_sld hx hb hX hbl hbA hS (vp_in_nI (n := 2) (N := 4) (by omega) (by omega)) dL_law_304 ?_
  refine lv_toe (show xs (nI (2)).toNatClampNeg = xs 2 by rw [nI_clamp (by omega)]) ?_
  refine lv_aload_n hx hb dL_law_305 rfl (lv_at hl 0 rfl) ?_
  refine lv_iload hx hb dL_law_306 (lv_at hl 5 rfl) ?_
  refine lv_iconst (v := nI 3) hx hb dL_law_308 (by decide) ?_
  refine lv_iadd hx hb dL_law_309 ?_
  refine lv_toe (nI_add 0 3) ?_
  refine va_sld hx hb hX hbl hbA hS (vp_in_nI (n := 3) (N := 4) (by omega) (by omega)) dL_law_310 ?_
  refine lv_toe (show xs (nI (3)).toNatClampNeg = xs 3 by rw [nI_clamp (by omega)]) ?_
  refine lv_aload_n hx hb dL_law_311 rfl (lv_at hl 3 rfl) ?_
  refine fin_i hP hD hS hA [0, 1, 10] [2, 3, 4, 5, 6, 7, 8, 9, 11] (wr := [(sv, .inr (10, [.ref b, .ref sr, .ref se, .int (nI 0), .int (nI 0), .int (nI 110)])), (b, .inr (5, [.ref mm])), (mm, .inl (gyI G, 16, .inl f)), (sr, .inl (gyI G, 64, .inl g)), (se, .inl (gyI G, 16, .inl hh)), (mo, .inr (15, [.int (nI 0), .ref al2, .long (lN 0), .null, .ref pf, .int (nI 0)])), (al2, .inr (4, [.int (nI 0), .ref (gE G), .int (nI 0)])), (pf, .inl (gyI G, 16, .inl pff)), (od, .inl (gyD G, 1, .inr (.inr (.inr (.inl (fun _ => 0))))))]) rfl rfl (by decide) (by decide) (vx_runSW (As := [.ref ho, .int (xs 1), .int (xs 2), .int (xs 3), .ref ou]) (rest := []) ⟨hx, hb, hml, hown, hts⟩ (l_addCage l G ho al ts pb (nI 0) sv (nI 0) (xs 1) (xs 2) (xs 3) ou (fun _ => 0) hst H.size) (vx_cwSW 5 hts (gSt q610 q611 q44 q612) rfl rfl rfl (by decide +kernel) ⟨Nat.le_of_ble_eq_true rfl, Nat.le_of_ble_eq_true rfl⟩) (preS hK hE hP hD hS hA [0, 1, 10] rfl (by decide)) rfl rfl hl.1 rfl (lv_room (Nat.le_of_ble_eq_true rfl)) dL_law_312 ⟨Nat.le_of_ble_eq_true rfl, Nat.le_of_ble_eq_true rfl⟩) (fun r_2 u9 hw_1 H locs hP hD hS => ?_)
  subst hw_1
  have hP : va_P (gD G) vwCl [(sv, .inr (10, [.ref b, .ref sr, .ref se, .int (nI 0), .int (nI 0), .int (nI 110)])), (b, .inr (5, [.ref mm])), (mm, .inl (gyI G, 16, .inl f)), (sr, .inl (gyI G, 64, .inl g)), (se, .inl (gyI G, 16, .inl hh)), (mo, .inr (15, [.int (nI 0), .ref al2, .long (lN 0), .null, .ref pf, .int (nI 0)])), (al2, .inr (4, [.int (nI 0), .ref (gE G), .int (nI 0)])), (pf, .inl (gyI G, 16, .inl pff)), (od, .inl (gyD G, 1, .inr (.inr (.inr (.inl (fun _ => 0)))))), (ho, .inr (11, [.ref al, .ref sv, .ref ts, .ref pb, .null, .int (nI 0)])), (al, .inr (4, [.int (nI 0), .ref (gE G), .int (nI 0)])), (ou, .inl (gyL G, 1, .inr (.inl (fun _ => 0))))] H := hP
  have hD : va_D A [(sv, .inr (10, [.ref b, .ref sr, .ref se, .int (nI 0), .int (nI 0), .int (nI 110)])), (b, .inr (5, [.ref mm])), (mm, .inl (gyI G, 16, .inl f)), (sr, .inl (gyI G, 64, .inl g)), (se, .inl (gyI G, 16, .inl hh)), (mo, .inr (15, [.int (nI 0), .ref al2, .long (lN 0), .null, .ref pf, .int (nI 0)])), (al2, .inr (4, [.int (nI 0), .ref (gE G), .int (nI 0)])), (pf, .inl (gyI G, 16, .inl pff)), (od, .inl (gyD G, 1, .inr (.inr (.inr (.inl (fun _ => 0)))))), (ho, .inr (11, [.ref al, .ref sv, .ref ts, .ref pb, .null, .int (nI 0)])), (al, .inr (4, [.int (nI 0), .ref (gE G), .int (nI 0)])), (ou, .inl (gyL G, 1, .inr (.inl (fun _ => 0))))] := hD
  refine lv_istore (lv' := [(6, .int (nI 1)), (0, .ref scr), (1, .ref ho), (2, .ref mo), (3, .ref ou), (4, .ref od), (5, .int (nI 0))]) hx hb dL_law_315 hl (by decide) rfl (fun ls hl => ?_)
  refine lv_aload_n hx hb dL_law_317 rfl (lv_at hl 3 rfl) ?_
  refine lv_aload_n hx hb dL_law_318 rfl (lv_at hl 1 rfl) ?_
  refine lv_iload hx hb dL_law_319 (lv_at hl 6 rfl) ?_
  refine lv_iconst (v := nI 1) hx hb dL_law_321 (by decide) ?_
  refine lv_iadd hx hb dL_law_322 ?_
  refine lv_toe (nI_add 0 1) ?_
  refine va_sld hx hb hX hbl hbA hS (vp_in_nI (n := 1) (N := 4) (by omega) (by omega)) dL_law_323 ?_
  refine lv_toe (show xs (nI (1)).toNatClampNeg = xs 1 by rw [nI_clamp (by omega)]) ?_
  refine lv_aload_n hx hb dL_law_324 rfl (lv_at hl 1 rfl) ?_
  refine lv_iload hx hb dL_law_325 (lv_at hl 6 rfl) ?_
  refine lv_iconst (v := nI 2) hx hb dL_law_327 (by decide) ?_
  refine lv_iadd hx hb dL_law_328 ?_
  refine lv_toe (nI_add 0 2) ?_
  refine va_sld hx hb hX hbl hbA hS (vp_in_nI (n := 2) (N := 4) (by omega) (by omega)) dL_law_329 ?_
  refine lv_toe (show xs (nI (2)).toNatClampNeg = xs 2 by rw [nI_clamp (by omega)]) ?_
  refine lv_aload_n hx hb dL_law_330 rfl (lv_at hl 1 rfl) ?_
  refine lv_iload hx hb dL_law_331 (lv_at hl 6 rfl) ?_
  refine lv_iconst (v := nI 3) hx hb dL_law_333 (by decide) ?_
  refine lv_iadd hx hb dL_law_334 ?_
  refine lv_toe (nI_add 0 3) ?_
  refine va_sld hx hb hX hbl hbA hS (vp_in_nI (n := 3) (N := 4) (by omega) (by omega)) dL_law_335 ?_
  refine lv_toe (show xs (nI (3)).toNatClampNeg = xs 3 by rw [nI_clamp (by omega)]) ?_
  refine fin_i hP hD hS hA [5, 6] [0, 1, 2, 3, 4, 7, 8, 9, 10, 11] (wr := [(sv, .inr (10, [.ref b, .ref sr, .ref se, .int (nI 0), .int (nI 0), .int (nI 110)])), (b, .inr (5, [.ref mm])), (mm, .inl (gyI G, 16, .inl f)), (sr, .inl (gyI G, 64, .inl g)), (se, .inl (gyI G, 16, .inl hh)), (pf, .inl (gyI G, 16, .inl pff)), (od, .inl (gyD G, 1, .inr (.inr (.inr (.inl (fun _ => 0)))))), (ho, .inr (11, [.ref al, .ref sv, .ref ts, .ref pb, .null, .int (nI 0)])), (al, .inr (4, [.int (nI 0), .ref (gE G), .int (nI 0)])), (ou, .inl (gyL G, 1, .inr (.inl (fun _ => 0))))]) rfl rfl (by decide) (by decide) (va_runV (As := [.int (xs 1), .int (xs 2), .int (xs 3)]) (rest := []) ⟨hx, hb, hml, hown, hts⟩ (c_X10_addCage l G mo (nI 0) al2 0 pf (nI 0) (nI 0) (xs 1) (xs 2) (xs 3) H.size) (cwV 3 hts (gV q1019 q1020 q1021 q52 q1022) rfl rfl rfl (by decide +kernel) ⟨Nat.le_of_ble_eq_true rfl, Nat.le_of_ble_eq_true rfl⟩) (preV (q0 := 5) (ci := 15) hK hE hP hD hS hA [5, 6] rfl (by decide) rfl rfl) rfl rfl hl.1 rfl (lv_room (Nat.le_of_ble_eq_true rfl)) dL_law_336 ⟨Nat.le_of_ble_eq_true rfl, Nat.le_of_ble_eq_true rfl⟩) (fun r_4 u9 hw_3 H locs hP hD hS => ?_)
  have hP : va_P (gD G) vwCl [(sv, .inr (10, [.ref b, .ref sr, .ref se, .int (nI 0), .int (nI 0), .int (nI 110)])), (b, .inr (5, [.ref mm])), (mm, .inl (gyI G, 16, .inl f)), (sr, .inl (gyI G, 64, .inl g)), (se, .inl (gyI G, 16, .inl hh)), (pf, .inl (gyI G, 16, .inl pff)), (od, .inl (gyD G, 1, .inr (.inr (.inr (.inl (fun _ => 0)))))), (ho, .inr (11, [.ref al, .ref sv, .ref ts, .ref pb, .null, .int (nI 0)])), (al, .inr (4, [.int (nI 0), .ref (gE G), .int (nI 0)])), (ou, .inl (gyL G, 1, .inr (.inl (fun _ => 0)))), (mo, .inr (15, [.int (nI 1), .ref al2, .long (lN 0), .null, .ref pf, .int (nI 0)])), (al2, .inr (4, [.int (nI 0), .ref (gE G), .int (nI 0)]))] H := hP
  have hD : va_D A [(sv, .inr (10, [.ref b, .ref sr, .ref se, .int (nI 0), .int (nI 0), .int (nI 110)])), (b, .inr (5, [.ref mm])), (mm, .inl (gyI G, 16, .inl f)), (sr, .inl (gyI G, 64, .inl g)), (se, .inl (gyI G, 16, .inl hh)), (pf, .inl (gyI G, 16, .inl pff)), (od, .inl (gyD G, 1, .inr (.inr (.inr (.inl (fun _ => 0)))))), (ho, .inr (11, [.ref al, .ref sv, .ref ts, .ref pb, .null, .int (nI 0)])), (al, .inr (4, [.int (nI 0), .ref (gE G), .int (nI 0)])), (ou, .inl (gyL G, 1, .inr (.inl (fun _ => 0)))), (mo, .inr (15, [.int (nI 1), .ref al2, .long (lN 0), .null, .ref pf, .int (nI 0)])), (al2, .inr (4, [.int (nI 0), .ref (gE G), .int (nI 0)]))] := hD
  refine lv_istore (lv' := [(7, .int r_4), (6, .int (nI 1)), (0, .ref scr), (1, .ref ho), (2, .ref mo), (3, .ref ou), (4, .ref od), (5, .int (nI 0))]) hx hb dL_law_339 hl (by decide) rfl (fun ls hl => ?_)
  refine lv_aload_n hx hb dL_law_341 rfl (lv_at hl 4 rfl) ?_
  refine fin_i hP hD hS hA [10] [0, 1, 2, 3, 4, 5, 6, 7, 8, 9, 11] (wr := [(sv, .inr (10, [.ref b, .ref sr, .ref se, .int (nI 0), .int (nI 0), .int (nI 110)])), (b, .inr (5, [.ref mm])), (mm, .inl (gyI G, 16, .inl f)), (sr, .inl (gyI G, 64, .inl g)), (se, .inl (gyI G, 16, .inl hh)), (pf, .inl (gyI G, 16, .inl pff)), (od, .inl (gyD G, 1, .inr (.inr (.inr (.inl (fun _ => 0)))))), (ho, .inr (11, [.ref al, .ref sv, .ref ts, .ref pb, .null, .int (nI 0)])), (al, .inr (4, [.int (nI 0), .ref (gE G), .int (nI 0)])), (ou, .inl (gyL G, 1, .inr (.inl (fun _ => 0)))), (al2, .inr (4, [.int (nI 0), .ref (gE G), .int (nI 0)]))]) rfl rfl (by decide) (by decide) (va_runV (As := []) (rest := []) ⟨hx, hb, hml, hown, hts⟩ (c_X10_thrown l G mo 1 al2 0 pf (nI 0) H.size) (cwV 0 hts (gV q946 q947 q948 q52 q949) rfl rfl rfl (by decide +kernel) ⟨Nat.le_of_ble_eq_true rfl, Nat.le_of_ble_eq_true rfl⟩) (preV (q0 := 10) (ci := 15) hK hE hP hD hS hA [10] rfl (by decide) rfl rfl) rfl rfl hl.1 rfl (lv_room (Nat.le_of_ble_eq_true rfl)) dL_law_342 ⟨Nat.le_of_ble_eq_true rfl, Nat.le_of_ble_eq_true rfl⟩) (fun r_6 u9 hw_5 H locs hP hD hS => ?_)
  subst hw_5
  have hP : va_P (gD G) vwCl [(sv, .inr (10, [.ref b, .ref sr, .ref se, .int (nI 0), .int (nI 0), .int (nI 110)])), (b, .inr (5, [.ref mm])), (mm, .inl (gyI G, 16, .inl f)), (sr, .inl (gyI G, 64, .inl g)), (se, .inl (gyI G, 16, .inl hh)), (pf, .inl (gyI G, 16, .inl pff)), (od, .inl (gyD G, 1, .inr (.inr (.inr (.inl (fun _ => 0)))))), (ho, .inr (11, [.ref al, .ref sv, .ref ts, .ref pb, .null, .int (nI 0)])), (al, .inr (4, [.int (nI 0), .ref (gE G), .int (nI 0)])), (ou, .inl (gyL G, 1, .inr (.inl (fun _ => 0)))), (al2, .inr (4, [.int (nI 0), .ref (gE G), .int (nI 0)])), (mo, .inr (15, [.int (nI 1), .ref al2, .long (lN 0), .null, .ref pf, .int (nI 0)]))] H := hP
  have hD : va_D A [(sv, .inr (10, [.ref b, .ref sr, .ref se, .int (nI 0), .int (nI 0), .int (nI 110)])), (b, .inr (5, [.ref mm])), (mm, .inl (gyI G, 16, .inl f)), (sr, .inl (gyI G, 64, .inl g)), (se, .inl (gyI G, 16, .inl hh)), (pf, .inl (gyI G, 16, .inl pff)), (od, .inl (gyD G, 1, .inr (.inr (.inr (.inl (fun _ => 0)))))), (ho, .inr (11, [.ref al, .ref sv, .ref ts, .ref pb, .null, .int (nI 0)])), (al, .inr (4, [.int (nI 0), .ref (gE G), .int (nI 0)])), (ou, .inl (gyL G, 1, .inr (.inl (fun _ => 0)))), (al2, .inr (4, [.int (nI 0), .ref (gE G), .int (nI 0)])), (mo, .inr (15, [.int (nI 1), .ref al2, .long (lN 0), .null, .ref pf, .int (nI 0)]))] := hD
  refine lv_iload hx hb dL_law_345 (lv_at hl 1 rfl) ?_
  refine lv_icmp_eq (tgt := 352) hx hb dL_law_347 (by decide) (fun c_7 => ?_) (fun c_7 => ?_)
  · skip
    have c_7 : 1 = 1 := (nI_eq (a := 1) (b := 1) (by omega) (by omega)).mp c_7
    refine lv_iload hx hb dL_law_352 (lv_at hl 1 rfl) ?_
    refine lv_if_ne (tgt := 369) hx hb dL_law_354 (by decide) (fun c_8 => ?_) (fun c_8 => ?_)
    · skip
      have c_8 : ¬ 1 = 0 := fun z => c_8 ((nI_eq (a := 1) (b := 0) (by omega) (by omega)).mpr z)
      refine lv_goto (tgt := 1736) hx hb dL_law_369 (by decide) ?_
      refine lv_iinc (v := nI 4) (lv' := [(5, .int (nI 4)), (7, .int r_4), (6, .int (nI 1)), (0, .ref scr), (1, .ref ho), (2, .ref mo), (3, .ref ou), (4, .ref od)]) hx hb dL_law_1736 hl (k := 7) rfl (nI_add 0 4) (by decide) rfl (fun ls hl => ?_)
      refine lv_goto (tgt := 28) hx hb dL_law_1739 (by decide) ?_
      refine lv_iload hx hb dL_law_28 (lv_at hl 0 rfl) ?_
      refine lv_aload_n hx hb dL_law_30 rfl (lv_at hl 3 rfl) ?_
      refine va_slen hx hb hX hbl hbA hS dL_law_31 ?_
      refine lv_toe (show Int32.ofNat 4 = nI 4 from rfl) ?_
      refine lv_iconst (v := nI 4) hx hb dL_law_32 (by decide) ?_
      refine lv_isub hx hb dL_law_33 ?_
      refine lv_toe (pk_sub (a := 4) (b := 4) (by omega)) ?_
      refine lv_icmp_gt (tgt := 1742) hx hb dL_law_34 (by decide) (fun c_9 => ?_) (fun c_9 => ?_)
      · skip
        have c_9 : 0 < 4 := (nI_ltI (a := 0) (b := 4) (by omega) (by omega)).mp c_9
        refine lv_iconst (v := nI 1) hx hb dL_law_1742 (by decide) ?_
        refine va_forget (fun q hq => hA2 _ (hS.2.2 q hq)) ?_
        refine W.widen (k := 607190) (n := 7280494) (Nat.le_of_ble_eq_true rfl) (Nat.le_of_ble_eq_true rfl) ?_
        exact lw_ret (d0 := s.drawn) (Drawn.sameBut.refl s.drawn lw_cs) hx hb hr hlocks dL_law_1743
      · skip
        have c_9 : ¬ 0 < 4 := fun z => c_9 ((nI_ltI (a := 0) (b := 4) (by omega) (by omega)).mpr z)
        exact absurd c_9 (by decide)
    · skip
      have c_8 : 1 = 0 := (nI_eq (a := 1) (b := 0) (by omega) (by omega)).mp c_8
      exact absurd c_8 (by decide)
  · skip
    have c_7 : ¬ 1 = 1 := fun z => c_7 ((nI_eq (a := 1) (b := 1) (by omega) (by omega)).mpr z)
    exact absurd c_7 (by decide)
set_option maxHeartbeats 4000000 in
set_option maxRecDepth 100000 in
theorem law_given {p : Program} {e : Env} {s : State} {m : MethodId} {below : List Frame} {meth : Method} {c : Code} (l : Launch) (hst : l.stackTraces = false) {scr : Nat} {xs : Nat → Int32} (C0 : lw_At p s m meth c scr 4 xs) (G : GG) (A : Nat → Prop) (hA : ∀ q : Nat, s.heap.size ≤ q → A q) (hA2 : ∀ q : Nat, A q → s.heap.size ≤ q) (hK : va_K (gD G) vwCl (gT G) s) (hE : EV G A s s.heap) (ho al ts pb sv b mm sr se mo al2 pf ou od : Nat) (f g hh pff : Nat → Int32) (H : Heap) (locs : List Loc) (hP : va_P (gD G) vwCl [(ho, .inr (11, [.ref al, .ref sv, .ref ts, .ref pb, .null, .int (nI 0)])), (al, .inr (4, [.int (nI 0), .ref (gE G), .int (nI 0)])), (sv, .inr (10, [.ref b, .ref sr, .ref se, .int (nI 0), .int (nI 0), .int (nI 110)])), (b, .inr (5, [.ref mm])), (mm, .inl (gyI G, 16, .inl f)), (sr, .inl (gyI G, 64, .inl g)), (se, .inl (gyI G, 16, .inl hh)), (mo, .inr (15, [.int (nI 0), .ref al2, .long (lN 0), .null, .ref pf, .int (nI 0)])), (al2, .inr (4, [.int (nI 0), .ref (gE G), .int (nI 0)])), (pf, .inl (gyI G, 16, .inl pff)), (ou, .inl (gyL G, 1, .inr (.inl (fun _ => 0)))), (od, .inl (gyD G, 1, .inr (.inr (.inr (.inl (fun _ => 0))))))] H) (hD : va_D A [(ho, .inr (11, [.ref al, .ref sv, .ref ts, .ref pb, .null, .int (nI 0)])), (al, .inr (4, [.int (nI 0), .ref (gE G), .int (nI 0)])), (sv, .inr (10, [.ref b, .ref sr, .ref se, .int (nI 0), .int (nI 0), .int (nI 110)])), (b, .inr (5, [.ref mm])), (mm, .inl (gyI G, 16, .inl f)), (sr, .inl (gyI G, 64, .inl g)), (se, .inl (gyI G, 16, .inl hh)), (mo, .inr (15, [.int (nI 0), .ref al2, .long (lN 0), .null, .ref pf, .int (nI 0)])), (al2, .inr (4, [.int (nI 0), .ref (gE G), .int (nI 0)])), (pf, .inl (gyI G, 16, .inl pff)), (ou, .inl (gyL G, 1, .inr (.inl (fun _ => 0)))), (od, .inl (gyD G, 1, .inr (.inr (.inr (.inl (fun _ => 0))))))]) (hS : va_S A s.heap H locs) (ls : Array Slot) (hl : lv_has ls 9 [(0, .ref scr), (1, .ref ho), (2, .ref mo), (3, .ref ou), (4, .ref od), (5, .int (nI 0))]) : W p l e room_1 s m #[Value.ref scr] below meth c H locs 17 191 (lw_Z below #[Value.ref scr] s) (F0 m 440 ls []) := by
  obtain ⟨hx, hb, hr, hml, hown, hts0, hX, hbl, hlocks, hgv⟩ := C0
  have hown : s.vm.findClass "PegboardryLaw" = some m.cls := hown
  have hts : ∀ w ∈ WW, w.before #[Value.ref scr] s = true := fun w hw => hts0 w (List.mem_filter.mp hw).1
  have hbA : ¬ A scr := fun z => Nat.not_le.mpr hbl (hA2 _ z)
  refine lv_aload_n hx hb dL_law_440 rfl (lv_at hl 1 rfl) ?_
  refine lv_aload_n hx hb dL_law_441 rfl (lv_at hl 0 rfl) ?_
  refine lv_iload hx hb dL_law_442 (lv_at hl 5 rfl) ?_
  refine lv_iconst (v := nI 1) hx hb dL_law_444 (by decide) ?_
  refine lv_iadd hx hb dL_law_445 ?_
  refine lv_toe (nI_add 0 1) ?_
  refine va_sld hx hb hX hbl hbA hS (vp_in_nI (n := 1) (N := 4) (by omega) (by omega)) dL_law_446 ?_
  refine lv_toe (show xs (nI (1)).toNatClampNeg = xs 1 by rw [nI_clamp (by omega)]) ?_
  refine lv_aload_n hx hb dL_law_447 rfl (lv_at hl 0 rfl) ?_
  refine lv_iload hx hb dL_law_448 (lv_at hl 5 rfl) ?_
  refine lv_iconst (v := nI 2) hx hb dL_law_450 (by decide) ?_
  refine lv_iadd hx hb dL_law_451 ?_
  refine lv_toe (nI_add 0 2) ?_
  refine va_sld hx hb hX hbl hbA hS (vp_in_nI (n := 2) (N := 4) (by omega) (by omega)) dL_law_452 ?_
  refine lv_toe (show xs (nI (2)).toNatClampNeg = xs 2 by rw [nI_clamp (by omega)]) ?_
  refine lv_aload_n hx hb dL_law_453 rfl (lv_at hl 3 rfl) ?_
  refine fin_i hP hD hS hA [0, 1, 10] [2, 3, 4, 5, 6, 7, 8, 9, 11] (wr := [(sv, .inr (10, [.ref b, .ref sr, .ref se, .int (nI 0), .int (nI 0), .int (nI 110)])), (b, .inr (5, [.ref mm])), (mm, .inl (gyI G, 16, .inl f)), (sr, .inl (gyI G, 64, .inl g)), (se, .inl (gyI G, 16, .inl hh)), (mo, .inr (15, [.int (nI 0), .ref al2, .long (lN 0), .null, .ref pf, .int (nI 0)])), (al2, .inr (4, [.int (nI 0), .ref (gE G), .int (nI 0)])), (pf, .inl (gyI G, 16, .inl pff)), (od, .inl (gyD G, 1, .inr (.inr (.inr (.inl (fun _ => 0))))))]) rfl rfl (by decide) (by decide) (vx_runSW (As := [.ref ho, .int (xs 1), .int (xs 2), .ref ou]) (rest := []) ⟨hx, hb, hml, hown, hts⟩ (l_given l G ho al ts pb (nI 0) sv (nI 0) (xs 1) (xs 2) ou (fun _ => 0) hst H.size) (vx_cwSW 4 hts (gSt q696 q697 q44 q698) rfl rfl rfl (by decide +kernel) ⟨Nat.le_of_ble_eq_true rfl, Nat.le_of_ble_eq_true rfl⟩) (preS hK hE hP hD hS hA [0, 1, 10] rfl (by decide)) rfl rfl hl.1 rfl (lv_room (Nat.le_of_ble_eq_true rfl)) dL_law_454 ⟨Nat.le_of_ble_eq_true rfl, Nat.le_of_ble_eq_true rfl⟩) (fun r_2 u9 hw_1 H locs hP hD hS => ?_)
  subst hw_1
  have hP : va_P (gD G) vwCl [(sv, .inr (10, [.ref b, .ref sr, .ref se, .int (nI 0), .int (nI 0), .int (nI 110)])), (b, .inr (5, [.ref mm])), (mm, .inl (gyI G, 16, .inl f)), (sr, .inl (gyI G, 64, .inl g)), (se, .inl (gyI G, 16, .inl hh)), (mo, .inr (15, [.int (nI 0), .ref al2, .long (lN 0), .null, .ref pf, .int (nI 0)])), (al2, .inr (4, [.int (nI 0), .ref (gE G), .int (nI 0)])), (pf, .inl (gyI G, 16, .inl pff)), (od, .inl (gyD G, 1, .inr (.inr (.inr (.inl (fun _ => 0)))))), (ho, .inr (11, [.ref al, .ref sv, .ref ts, .ref pb, .null, .int (nI 0)])), (al, .inr (4, [.int (nI 0), .ref (gE G), .int (nI 0)])), (ou, .inl (gyL G, 1, .inr (.inl (fun _ => 0))))] H := hP
  have hD : va_D A [(sv, .inr (10, [.ref b, .ref sr, .ref se, .int (nI 0), .int (nI 0), .int (nI 110)])), (b, .inr (5, [.ref mm])), (mm, .inl (gyI G, 16, .inl f)), (sr, .inl (gyI G, 64, .inl g)), (se, .inl (gyI G, 16, .inl hh)), (mo, .inr (15, [.int (nI 0), .ref al2, .long (lN 0), .null, .ref pf, .int (nI 0)])), (al2, .inr (4, [.int (nI 0), .ref (gE G), .int (nI 0)])), (pf, .inl (gyI G, 16, .inl pff)), (od, .inl (gyD G, 1, .inr (.inr (.inr (.inl (fun _ => 0)))))), (ho, .inr (11, [.ref al, .ref sv, .ref ts, .ref pb, .null, .int (nI 0)])), (al, .inr (4, [.int (nI 0), .ref (gE G), .int (nI 0)])), (ou, .inl (gyL G, 1, .inr (.inl (fun _ => 0))))] := hD
  refine lv_istore (lv' := [(6, .int (nI 1)), (0, .ref scr), (1, .ref ho), (2, .ref mo), (3, .ref ou), (4, .ref od), (5, .int (nI 0))]) hx hb dL_law_457 hl (by decide) rfl (fun ls hl => ?_)
  refine lv_aload_n hx hb dL_law_459 rfl (lv_at hl 3 rfl) ?_
  refine lv_aload_n hx hb dL_law_460 rfl (lv_at hl 1 rfl) ?_
  refine lv_iload hx hb dL_law_461 (lv_at hl 6 rfl) ?_
  refine lv_iconst (v := nI 1) hx hb dL_law_463 (by decide) ?_
  refine lv_iadd hx hb dL_law_464 ?_
  refine lv_toe (nI_add 0 1) ?_
  refine va_sld hx hb hX hbl hbA hS (vp_in_nI (n := 1) (N := 4) (by omega) (by omega)) dL_law_465 ?_
  refine lv_toe (show xs (nI (1)).toNatClampNeg = xs 1 by rw [nI_clamp (by omega)]) ?_
  refine lv_aload_n hx hb dL_law_466 rfl (lv_at hl 1 rfl) ?_
  refine lv_iload hx hb dL_law_467 (lv_at hl 6 rfl) ?_
  refine lv_iconst (v := nI 2) hx hb dL_law_469 (by decide) ?_
  refine lv_iadd hx hb dL_law_470 ?_
  refine lv_toe (nI_add 0 2) ?_
  refine va_sld hx hb hX hbl hbA hS (vp_in_nI (n := 2) (N := 4) (by omega) (by omega)) dL_law_471 ?_
  refine lv_toe (show xs (nI (2)).toNatClampNeg = xs 2 by rw [nI_clamp (by omega)]) ?_
  refine fin_i hP hD hS hA [5, 6] [0, 1, 2, 3, 4, 7, 8, 9, 10, 11] (wr := [(sv, .inr (10, [.ref b, .ref sr, .ref se, .int (nI 0), .int (nI 0), .int (nI 110)])), (b, .inr (5, [.ref mm])), (mm, .inl (gyI G, 16, .inl f)), (sr, .inl (gyI G, 64, .inl g)), (se, .inl (gyI G, 16, .inl hh)), (pf, .inl (gyI G, 16, .inl pff)), (od, .inl (gyD G, 1, .inr (.inr (.inr (.inl (fun _ => 0)))))), (ho, .inr (11, [.ref al, .ref sv, .ref ts, .ref pb, .null, .int (nI 0)])), (al, .inr (4, [.int (nI 0), .ref (gE G), .int (nI 0)])), (ou, .inl (gyL G, 1, .inr (.inl (fun _ => 0))))]) rfl rfl (by decide) (by decide) (va_runV (As := [.int (xs 1), .int (xs 2)]) (rest := []) ⟨hx, hb, hml, hown, hts⟩ (c_X10_given l G mo (nI 0) al2 0 pf (nI 0) (nI 0) (xs 1) (xs 2) H.size) (cwV 2 hts (gV q1217 q1218 q1219 q52 q1220) rfl rfl rfl (by decide +kernel) ⟨Nat.le_of_ble_eq_true rfl, Nat.le_of_ble_eq_true rfl⟩) (preV (q0 := 5) (ci := 15) hK hE hP hD hS hA [5, 6] rfl (by decide) rfl rfl) rfl rfl hl.1 rfl (lv_room (Nat.le_of_ble_eq_true rfl)) dL_law_472 ⟨Nat.le_of_ble_eq_true rfl, Nat.le_of_ble_eq_true rfl⟩) (fun r_4 u9 hw_3 H locs hP hD hS => ?_)
  have hP : va_P (gD G) vwCl [(sv, .inr (10, [.ref b, .ref sr, .ref se, .int (nI 0), .int (nI 0), .int (nI 110)])), (b, .inr (5, [.ref mm])), (mm, .inl (gyI G, 16, .inl f)), (sr, .inl (gyI G, 64, .inl g)), (se, .inl (gyI G, 16, .inl hh)), (pf, .inl (gyI G, 16, .inl pff)), (od, .inl (gyD G, 1, .inr (.inr (.inr (.inl (fun _ => 0)))))), (ho, .inr (11, [.ref al, .ref sv, .ref ts, .ref pb, .null, .int (nI 0)])), (al, .inr (4, [.int (nI 0), .ref (gE G), .int (nI 0)])), (ou, .inl (gyL G, 1, .inr (.inl (fun _ => 0)))), (mo, .inr (15, [.int (nI 1), .ref al2, .long (lN 0), .null, .ref pf, .int (nI 0)])), (al2, .inr (4, [.int (nI 0), .ref (gE G), .int (nI 0)]))] H := hP
  have hD : va_D A [(sv, .inr (10, [.ref b, .ref sr, .ref se, .int (nI 0), .int (nI 0), .int (nI 110)])), (b, .inr (5, [.ref mm])), (mm, .inl (gyI G, 16, .inl f)), (sr, .inl (gyI G, 64, .inl g)), (se, .inl (gyI G, 16, .inl hh)), (pf, .inl (gyI G, 16, .inl pff)), (od, .inl (gyD G, 1, .inr (.inr (.inr (.inl (fun _ => 0)))))), (ho, .inr (11, [.ref al, .ref sv, .ref ts, .ref pb, .null, .int (nI 0)])), (al, .inr (4, [.int (nI 0), .ref (gE G), .int (nI 0)])), (ou, .inl (gyL G, 1, .inr (.inl (fun _ => 0)))), (mo, .inr (15, [.int (nI 1), .ref al2, .long (lN 0), .null, .ref pf, .int (nI 0)])), (al2, .inr (4, [.int (nI 0), .ref (gE G), .int (nI 0)]))] := hD
  refine lv_istore (lv' := [(7, .int r_4), (6, .int (nI 1)), (0, .ref scr), (1, .ref ho), (2, .ref mo), (3, .ref ou), (4, .ref od), (5, .int (nI 0))]) hx hb dL_law_475 hl (by decide) rfl (fun ls hl => ?_)
  refine lv_aload_n hx hb dL_law_477 rfl (lv_at hl 4 rfl) ?_
  refine fin_i hP hD hS hA [10] [0, 1, 2, 3, 4, 5, 6, 7, 8, 9, 11] (wr := [(sv, .inr (10, [.ref b, .ref sr, .ref se, .int (nI 0), .int (nI 0), .int (nI 110)])), (b, .inr (5, [.ref mm])), (mm, .inl (gyI G, 16, .inl f)), (sr, .inl (gyI G, 64, .inl g)), (se, .inl (gyI G, 16, .inl hh)), (pf, .inl (gyI G, 16, .inl pff)), (od, .inl (gyD G, 1, .inr (.inr (.inr (.inl (fun _ => 0)))))), (ho, .inr (11, [.ref al, .ref sv, .ref ts, .ref pb, .null, .int (nI 0)])), (al, .inr (4, [.int (nI 0), .ref (gE G), .int (nI 0)])), (ou, .inl (gyL G, 1, .inr (.inl (fun _ => 0)))), (al2, .inr (4, [.int (nI 0), .ref (gE G), .int (nI 0)]))]) rfl rfl (by decide) (by decide) (va_runV (As := []) (rest := []) ⟨hx, hb, hml, hown, hts⟩ (c_X10_thrown l G mo 1 al2 0 pf (nI 0) H.size) (cwV 0 hts (gV q946 q947 q948 q52 q949) rfl rfl rfl (by decide +kernel) ⟨Nat.le_of_ble_eq_true rfl, Nat.le_of_ble_eq_true rfl⟩) (preV (q0 := 10) (ci := 15) hK hE hP hD hS hA [10] rfl (by decide) rfl rfl) rfl rfl hl.1 rfl (lv_room (Nat.le_of_ble_eq_true rfl)) dL_law_478 ⟨Nat.le_of_ble_eq_true rfl, Nat.le_of_ble_eq_true rfl⟩) (fun r_6 u9 hw_5 H locs hP hD hS => ?_)
  subst hw_5
  have hP : va_P (gD G) vwCl [(sv, .inr (10, [.ref b, .ref sr, .ref se, .int (nI 0), .int (nI 0), .int (nI 110)])), (b, .inr (5, [.ref mm])), (mm, .inl (gyI G, 16, .inl f)), (sr, .inl (gyI G, 64, .inl g)), (se, .inl (gyI G, 16, .inl hh)), (pf, .inl (gyI G, 16, .inl pff)), (od, .inl (gyD G, 1, .inr (.inr (.inr (.inl (fun _ => 0)))))), (ho, .inr (11, [.ref al, .ref sv, .ref ts, .ref pb, .null, .int (nI 0)])), (al, .inr (4, [.int (nI 0), .ref (gE G), .int (nI 0)])), (ou, .inl (gyL G, 1, .inr (.inl (fun _ => 0)))), (al2, .inr (4, [.int (nI 0), .ref (gE G), .int (nI 0)])), (mo, .inr (15, [.int (nI 1), .ref al2, .long (lN 0), .null, .ref pf, .int (nI 0)]))] H := hP
  have hD : va_D A [(sv, .inr (10, [.ref b, .ref sr, .ref se, .int (nI 0), .int (nI 0), .int (nI 110)])), (b, .inr (5, [.ref mm])), (mm, .inl (gyI G, 16, .inl f)), (sr, .inl (gyI G, 64, .inl g)), (se, .inl (gyI G, 16, .inl hh)), (pf, .inl (gyI G, 16, .inl pff)), (od, .inl (gyD G, 1, .inr (.inr (.inr (.inl (fun _ => 0)))))), (ho, .inr (11, [.ref al, .ref sv, .ref ts, .ref pb, .null, .int (nI 0)])), (al, .inr (4, [.int (nI 0), .ref (gE G), .int (nI 0)])), (ou, .inl (gyL G, 1, .inr (.inl (fun _ => 0)))), (al2, .inr (4, [.int (nI 0), .ref (gE G), .int (nI 0)])), (mo, .inr (15, [.int (nI 1), .ref al2, .long (lN 0), .null, .ref pf, .int (nI 0)]))] := hD
  refine lv_iload hx hb dL_law_481 (lv_at hl 1 rfl) ?_
  refine lv_icmp_eq (tgt := 488) hx hb dL_law_483 (by decide) (fun c_7 => ?_) (fun c_7 => ?_)
  · skip
    have c_7 : 1 = 1 := (nI_eq (a := 1) (b := 1) (by omega) (by omega)).mp c_7
    refine lv_iload hx hb dL_law_488 (lv_at hl 1 rfl) ?_
    refine lv_if_ne (tgt := 505) hx hb dL_law_490 (by decide) (fun c_8 => ?_) (fun c_8 => ?_)
    · skip
      have c_8 : ¬ 1 = 0 := fun z => c_8 ((nI_eq (a := 1) (b := 0) (by omega) (by omega)).mpr z)
      refine lv_goto (tgt := 1736) hx hb dL_law_505 (by decide) ?_
      refine lv_iinc (v := nI 4) (lv' := [(5, .int (nI 4)), (7, .int r_4), (6, .int (nI 1)), (0, .ref scr), (1, .ref ho), (2, .ref mo), (3, .ref ou), (4, .ref od)]) hx hb dL_law_1736 hl (k := 7) rfl (nI_add 0 4) (by decide) rfl (fun ls hl => ?_)
      refine lv_goto (tgt := 28) hx hb dL_law_1739 (by decide) ?_
      refine lv_iload hx hb dL_law_28 (lv_at hl 0 rfl) ?_
      refine lv_aload_n hx hb dL_law_30 rfl (lv_at hl 3 rfl) ?_
      refine va_slen hx hb hX hbl hbA hS dL_law_31 ?_
      refine lv_toe (show Int32.ofNat 4 = nI 4 from rfl) ?_
      refine lv_iconst (v := nI 4) hx hb dL_law_32 (by decide) ?_
      refine lv_isub hx hb dL_law_33 ?_
      refine lv_toe (pk_sub (a := 4) (b := 4) (by omega)) ?_
      refine lv_icmp_gt (tgt := 1742) hx hb dL_law_34 (by decide) (fun c_9 => ?_) (fun c_9 => ?_)
      · skip
        have c_9 : 0 < 4 := (nI_ltI (a := 0) (b := 4) (by omega) (by omega)).mp c_9
        refine lv_iconst (v := nI 1) hx hb dL_law_1742 (by decide) ?_
        refine va_forget (fun q hq => hA2 _ (hS.2.2 q hq)) ?_
        refine W.widen (k := 607190) (n := 7280494) (Nat.le_of_ble_eq_true rfl) (Nat.le_of_ble_eq_true rfl) ?_
        exact lw_ret (d0 := s.drawn) (Drawn.sameBut.refl s.drawn lw_cs) hx hb hr hlocks dL_law_1743
      · skip
        have c_9 : ¬ 0 < 4 := fun z => c_9 ((nI_ltI (a := 0) (b := 4) (by omega) (by omega)).mpr z)
        exact absurd c_9 (by decide)
    · skip
      have c_8 : 1 = 0 := (nI_eq (a := 1) (b := 0) (by omega) (by omega)).mp c_8
      exact absurd c_8 (by decide)
  · skip
    have c_7 : ¬ 1 = 1 := fun z => c_7 ((nI_eq (a := 1) (b := 1) (by omega) (by omega)).mpr z)
    exact absurd c_7 (by decide)
set_option maxHeartbeats 4000000 in
set_option maxRecDepth 100000 in
theorem law_givens {p : Program} {e : Env} {s : State} {m : MethodId} {below : List Frame} {meth : Method} {c : Code} (l : Launch) (hst : l.stackTraces = false) {scr : Nat} {xs : Nat → Int32} (C0 : lw_At p s m meth c scr 4 xs) (G : GG) (A : Nat → Prop) (hA : ∀ q : Nat, s.heap.size ≤ q → A q) (hA2 : ∀ q : Nat, A q → s.heap.size ≤ q) (hK : va_K (gD G) vwCl (gT G) s) (hE : EV G A s s.heap) (ho al ts pb sv b mm sr se mo al2 pf ou od : Nat) (f g hh pff : Nat → Int32) (H : Heap) (locs : List Loc) (hP : va_P (gD G) vwCl [(ho, .inr (11, [.ref al, .ref sv, .ref ts, .ref pb, .null, .int (nI 0)])), (al, .inr (4, [.int (nI 0), .ref (gE G), .int (nI 0)])), (sv, .inr (10, [.ref b, .ref sr, .ref se, .int (nI 0), .int (nI 0), .int (nI 110)])), (b, .inr (5, [.ref mm])), (mm, .inl (gyI G, 16, .inl f)), (sr, .inl (gyI G, 64, .inl g)), (se, .inl (gyI G, 16, .inl hh)), (mo, .inr (15, [.int (nI 0), .ref al2, .long (lN 0), .null, .ref pf, .int (nI 0)])), (al2, .inr (4, [.int (nI 0), .ref (gE G), .int (nI 0)])), (pf, .inl (gyI G, 16, .inl pff)), (ou, .inl (gyL G, 1, .inr (.inl (fun _ => 0)))), (od, .inl (gyD G, 1, .inr (.inr (.inr (.inl (fun _ => 0))))))] H) (hD : va_D A [(ho, .inr (11, [.ref al, .ref sv, .ref ts, .ref pb, .null, .int (nI 0)])), (al, .inr (4, [.int (nI 0), .ref (gE G), .int (nI 0)])), (sv, .inr (10, [.ref b, .ref sr, .ref se, .int (nI 0), .int (nI 0), .int (nI 110)])), (b, .inr (5, [.ref mm])), (mm, .inl (gyI G, 16, .inl f)), (sr, .inl (gyI G, 64, .inl g)), (se, .inl (gyI G, 16, .inl hh)), (mo, .inr (15, [.int (nI 0), .ref al2, .long (lN 0), .null, .ref pf, .int (nI 0)])), (al2, .inr (4, [.int (nI 0), .ref (gE G), .int (nI 0)])), (pf, .inl (gyI G, 16, .inl pff)), (ou, .inl (gyL G, 1, .inr (.inl (fun _ => 0)))), (od, .inl (gyD G, 1, .inr (.inr (.inr (.inl (fun _ => 0))))))]) (hS : va_S A s.heap H locs) (ls : Array Slot) (hl : lv_has ls 9 [(0, .ref scr), (1, .ref ho), (2, .ref mo), (3, .ref ou), (4, .ref od), (5, .int (nI 0))]) : W p l e room_1 s m #[Value.ref scr] below meth c H locs 17 191 (lw_Z below #[Value.ref scr] s) (F0 m 508 ls []) := by
  obtain ⟨hx, hb, hr, hml, hown, hts0, hX, hbl, hlocks, hgv⟩ := C0
  have hown : s.vm.findClass "PegboardryLaw" = some m.cls := hown
  have hts : ∀ w ∈ WW, w.before #[Value.ref scr] s = true := fun w hw => hts0 w (List.mem_filter.mp hw).1
  have hbA : ¬ A scr := fun z => Nat.not_le.mpr hbl (hA2 _ z)
  refine lv_aload_n hx hb dL_law_508 rfl (lv_at hl 1 rfl) ?_
  refine lv_aload_n hx hb dL_law_509 rfl (lv_at hl 0 rfl) ?_
  refine lv_iload hx hb dL_law_510 (lv_at hl 5 rfl) ?_
  refine lv_iconst (v := nI 1) hx hb dL_law_512 (by decide) ?_
  refine lv_iadd hx hb dL_law_513 ?_
  refine lv_toe (nI_add 0 1) ?_
  refine va_sld hx hb hX hbl hbA hS (vp_in_nI (n := 1) (N := 4) (by omega) (by omega)) dL_law_514 ?_
  refine lv_toe (show xs (nI (1)).toNatClampNeg = xs 1 by rw [nI_clamp (by omega)]) ?_
  refine lv_aload_n hx hb dL_law_515 rfl (lv_at hl 3 rfl) ?_
  refine fin_i hP hD hS hA [0, 1, 10] [2, 3, 4, 5, 6, 7, 8, 9, 11] (wr := [(sv, .inr (10, [.ref b, .ref sr, .ref se, .int (nI 0), .int (nI 0), .int (nI 110)])), (b, .inr (5, [.ref mm])), (mm, .inl (gyI G, 16, .inl f)), (sr, .inl (gyI G, 64, .inl g)), (se, .inl (gyI G, 16, .inl hh)), (mo, .inr (15, [.int (nI 0), .ref al2, .long (lN 0), .null, .ref pf, .int (nI 0)])), (al2, .inr (4, [.int (nI 0), .ref (gE G), .int (nI 0)])), (pf, .inl (gyI G, 16, .inl pff)), (od, .inl (gyD G, 1, .inr (.inr (.inr (.inl (fun _ => 0))))))]) rfl rfl (by decide) (by decide) (vx_runSW (As := [.ref ho, .int (xs 1), .ref ou]) (rest := []) ⟨hx, hb, hml, hown, hts⟩ (l_givens l G ho al ts pb (nI 0) sv (nI 0) (xs 1) ou (fun _ => 0) hst H.size) (vx_cwSW 3 hts (gSt q703 q704 q44 q705) rfl rfl rfl (by decide +kernel) ⟨Nat.le_of_ble_eq_true rfl, Nat.le_of_ble_eq_true rfl⟩) (preS hK hE hP hD hS hA [0, 1, 10] rfl (by decide)) rfl rfl hl.1 rfl (lv_room (Nat.le_of_ble_eq_true rfl)) dL_law_516 ⟨Nat.le_of_ble_eq_true rfl, Nat.le_of_ble_eq_true rfl⟩) (fun r_2 u9 hw_1 H locs hP hD hS => ?_)
  subst hw_1
  have hP : va_P (gD G) vwCl [(sv, .inr (10, [.ref b, .ref sr, .ref se, .int (nI 0), .int (nI 0), .int (nI 110)])), (b, .inr (5, [.ref mm])), (mm, .inl (gyI G, 16, .inl f)), (sr, .inl (gyI G, 64, .inl g)), (se, .inl (gyI G, 16, .inl hh)), (mo, .inr (15, [.int (nI 0), .ref al2, .long (lN 0), .null, .ref pf, .int (nI 0)])), (al2, .inr (4, [.int (nI 0), .ref (gE G), .int (nI 0)])), (pf, .inl (gyI G, 16, .inl pff)), (od, .inl (gyD G, 1, .inr (.inr (.inr (.inl (fun _ => 0)))))), (ho, .inr (11, [.ref al, .ref sv, .ref ts, .ref pb, .null, .int (nI 0)])), (al, .inr (4, [.int (nI 0), .ref (gE G), .int (nI 0)])), (ou, .inl (gyL G, 1, .inr (.inl (fun _ => 0))))] H := hP
  have hD : va_D A [(sv, .inr (10, [.ref b, .ref sr, .ref se, .int (nI 0), .int (nI 0), .int (nI 110)])), (b, .inr (5, [.ref mm])), (mm, .inl (gyI G, 16, .inl f)), (sr, .inl (gyI G, 64, .inl g)), (se, .inl (gyI G, 16, .inl hh)), (mo, .inr (15, [.int (nI 0), .ref al2, .long (lN 0), .null, .ref pf, .int (nI 0)])), (al2, .inr (4, [.int (nI 0), .ref (gE G), .int (nI 0)])), (pf, .inl (gyI G, 16, .inl pff)), (od, .inl (gyD G, 1, .inr (.inr (.inr (.inl (fun _ => 0)))))), (ho, .inr (11, [.ref al, .ref sv, .ref ts, .ref pb, .null, .int (nI 0)])), (al, .inr (4, [.int (nI 0), .ref (gE G), .int (nI 0)])), (ou, .inl (gyL G, 1, .inr (.inl (fun _ => 0))))] := hD
  refine lv_istore (lv' := [(6, .int (nI 1)), (0, .ref scr), (1, .ref ho), (2, .ref mo), (3, .ref ou), (4, .ref od), (5, .int (nI 0))]) hx hb dL_law_519 hl (by decide) rfl (fun ls hl => ?_)
  refine lv_aload_n hx hb dL_law_521 rfl (lv_at hl 3 rfl) ?_
  refine lv_aload_n hx hb dL_law_522 rfl (lv_at hl 1 rfl) ?_
  refine lv_iload hx hb dL_law_523 (lv_at hl 6 rfl) ?_
  refine lv_iconst (v := nI 1) hx hb dL_law_525 (by decide) ?_
  refine lv_iadd hx hb dL_law_526 ?_
  refine lv_toe (nI_add 0 1) ?_
  refine va_sld hx hb hX hbl hbA hS (vp_in_nI (n := 1) (N := 4) (by omega) (by omega)) dL_law_527 ?_
  refine lv_toe (show xs (nI (1)).toNatClampNeg = xs 1 by rw [nI_clamp (by omega)]) ?_
  refine fin_i hP hD hS hA [5, 6] [0, 1, 2, 3, 4, 7, 8, 9, 10, 11] (wr := [(sv, .inr (10, [.ref b, .ref sr, .ref se, .int (nI 0), .int (nI 0), .int (nI 110)])), (b, .inr (5, [.ref mm])), (mm, .inl (gyI G, 16, .inl f)), (sr, .inl (gyI G, 64, .inl g)), (se, .inl (gyI G, 16, .inl hh)), (pf, .inl (gyI G, 16, .inl pff)), (od, .inl (gyD G, 1, .inr (.inr (.inr (.inl (fun _ => 0)))))), (ho, .inr (11, [.ref al, .ref sv, .ref ts, .ref pb, .null, .int (nI 0)])), (al, .inr (4, [.int (nI 0), .ref (gE G), .int (nI 0)])), (ou, .inl (gyL G, 1, .inr (.inl (fun _ => 0))))]) rfl rfl (by decide) (by decide) (va_runV (As := [.int (xs 1)]) (rest := []) ⟨hx, hb, hml, hown, hts⟩ (c_X10_givens l G mo (nI 0) al2 0 pf (nI 0) (nI 0) (xs 1) H.size) (cwV 1 hts (gV q1221 q1222 q1223 q52 q1224) rfl rfl rfl (by decide +kernel) ⟨Nat.le_of_ble_eq_true rfl, Nat.le_of_ble_eq_true rfl⟩) (preV (q0 := 5) (ci := 15) hK hE hP hD hS hA [5, 6] rfl (by decide) rfl rfl) rfl rfl hl.1 rfl (lv_room (Nat.le_of_ble_eq_true rfl)) dL_law_528 ⟨Nat.le_of_ble_eq_true rfl, Nat.le_of_ble_eq_true rfl⟩) (fun r_4 u9 hw_3 H locs hP hD hS => ?_)
  have hP : va_P (gD G) vwCl [(sv, .inr (10, [.ref b, .ref sr, .ref se, .int (nI 0), .int (nI 0), .int (nI 110)])), (b, .inr (5, [.ref mm])), (mm, .inl (gyI G, 16, .inl f)), (sr, .inl (gyI G, 64, .inl g)), (se, .inl (gyI G, 16, .inl hh)), (pf, .inl (gyI G, 16, .inl pff)), (od, .inl (gyD G, 1, .inr (.inr (.inr (.inl (fun _ => 0)))))), (ho, .inr (11, [.ref al, .ref sv, .ref ts, .ref pb, .null, .int (nI 0)])), (al, .inr (4, [.int (nI 0), .ref (gE G), .int (nI 0)])), (ou, .inl (gyL G, 1, .inr (.inl (fun _ => 0)))), (mo, .inr (15, [.int (nI 1), .ref al2, .long (lN 0), .null, .ref pf, .int (nI 0)])), (al2, .inr (4, [.int (nI 0), .ref (gE G), .int (nI 0)]))] H := hP
  have hD : va_D A [(sv, .inr (10, [.ref b, .ref sr, .ref se, .int (nI 0), .int (nI 0), .int (nI 110)])), (b, .inr (5, [.ref mm])), (mm, .inl (gyI G, 16, .inl f)), (sr, .inl (gyI G, 64, .inl g)), (se, .inl (gyI G, 16, .inl hh)), (pf, .inl (gyI G, 16, .inl pff)), (od, .inl (gyD G, 1, .inr (.inr (.inr (.inl (fun _ => 0)))))), (ho, .inr (11, [.ref al, .ref sv, .ref ts, .ref pb, .null, .int (nI 0)])), (al, .inr (4, [.int (nI 0), .ref (gE G), .int (nI 0)])), (ou, .inl (gyL G, 1, .inr (.inl (fun _ => 0)))), (mo, .inr (15, [.int (nI 1), .ref al2, .long (lN 0), .null, .ref pf, .int (nI 0)])), (al2, .inr (4, [.int (nI 0), .ref (gE G), .int (nI 0)]))] := hD
  refine lv_istore (lv' := [(7, .int r_4), (6, .int (nI 1)), (0, .ref scr), (1, .ref ho), (2, .ref mo), (3, .ref ou), (4, .ref od), (5, .int (nI 0))]) hx hb dL_law_531 hl (by decide) rfl (fun ls hl => ?_)
  refine lv_aload_n hx hb dL_law_533 rfl (lv_at hl 4 rfl) ?_
  refine fin_i hP hD hS hA [10] [0, 1, 2, 3, 4, 5, 6, 7, 8, 9, 11] (wr := [(sv, .inr (10, [.ref b, .ref sr, .ref se, .int (nI 0), .int (nI 0), .int (nI 110)])), (b, .inr (5, [.ref mm])), (mm, .inl (gyI G, 16, .inl f)), (sr, .inl (gyI G, 64, .inl g)), (se, .inl (gyI G, 16, .inl hh)), (pf, .inl (gyI G, 16, .inl pff)), (od, .inl (gyD G, 1, .inr (.inr (.inr (.inl (fun _ => 0)))))), (ho, .inr (11, [.ref al, .ref sv, .ref ts, .ref pb, .null, .int (nI 0)])), (al, .inr (4, [.int (nI 0), .ref (gE G), .int (nI 0)])), (ou, .inl (gyL G, 1, .inr (.inl (fun _ => 0)))), (al2, .inr (4, [.int (nI 0), .ref (gE G), .int (nI 0)]))]) rfl rfl (by decide) (by decide) (va_runV (As := []) (rest := []) ⟨hx, hb, hml, hown, hts⟩ (c_X10_thrown l G mo 1 al2 0 pf (nI 0) H.size) (cwV 0 hts (gV q946 q947 q948 q52 q949) rfl rfl rfl (by decide +kernel) ⟨Nat.le_of_ble_eq_true rfl, Nat.le_of_ble_eq_true rfl⟩) (preV (q0 := 10) (ci := 15) hK hE hP hD hS hA [10] rfl (by decide) rfl rfl) rfl rfl hl.1 rfl (lv_room (Nat.le_of_ble_eq_true rfl)) dL_law_534 ⟨Nat.le_of_ble_eq_true rfl, Nat.le_of_ble_eq_true rfl⟩) (fun r_6 u9 hw_5 H locs hP hD hS => ?_)
  subst hw_5
  have hP : va_P (gD G) vwCl [(sv, .inr (10, [.ref b, .ref sr, .ref se, .int (nI 0), .int (nI 0), .int (nI 110)])), (b, .inr (5, [.ref mm])), (mm, .inl (gyI G, 16, .inl f)), (sr, .inl (gyI G, 64, .inl g)), (se, .inl (gyI G, 16, .inl hh)), (pf, .inl (gyI G, 16, .inl pff)), (od, .inl (gyD G, 1, .inr (.inr (.inr (.inl (fun _ => 0)))))), (ho, .inr (11, [.ref al, .ref sv, .ref ts, .ref pb, .null, .int (nI 0)])), (al, .inr (4, [.int (nI 0), .ref (gE G), .int (nI 0)])), (ou, .inl (gyL G, 1, .inr (.inl (fun _ => 0)))), (al2, .inr (4, [.int (nI 0), .ref (gE G), .int (nI 0)])), (mo, .inr (15, [.int (nI 1), .ref al2, .long (lN 0), .null, .ref pf, .int (nI 0)]))] H := hP
  have hD : va_D A [(sv, .inr (10, [.ref b, .ref sr, .ref se, .int (nI 0), .int (nI 0), .int (nI 110)])), (b, .inr (5, [.ref mm])), (mm, .inl (gyI G, 16, .inl f)), (sr, .inl (gyI G, 64, .inl g)), (se, .inl (gyI G, 16, .inl hh)), (pf, .inl (gyI G, 16, .inl pff)), (od, .inl (gyD G, 1, .inr (.inr (.inr (.inl (fun _ => 0)))))), (ho, .inr (11, [.ref al, .ref sv, .ref ts, .ref pb, .null, .int (nI 0)])), (al, .inr (4, [.int (nI 0), .ref (gE G), .int (nI 0)])), (ou, .inl (gyL G, 1, .inr (.inl (fun _ => 0)))), (al2, .inr (4, [.int (nI 0), .ref (gE G), .int (nI 0)])), (mo, .inr (15, [.int (nI 1), .ref al2, .long (lN 0), .null, .ref pf, .int (nI 0)]))] := hD
  refine lv_iload hx hb dL_law_537 (lv_at hl 1 rfl) ?_
  refine lv_icmp_eq (tgt := 544) hx hb dL_law_539 (by decide) (fun c_7 => ?_) (fun c_7 => ?_)
  · skip
    have c_7 : 1 = 1 := (nI_eq (a := 1) (b := 1) (by omega) (by omega)).mp c_7
    refine lv_iload hx hb dL_law_544 (lv_at hl 1 rfl) ?_
    refine lv_if_ne (tgt := 561) hx hb dL_law_546 (by decide) (fun c_8 => ?_) (fun c_8 => ?_)
    · skip
      have c_8 : ¬ 1 = 0 := fun z => c_8 ((nI_eq (a := 1) (b := 0) (by omega) (by omega)).mpr z)
      refine lv_goto (tgt := 1736) hx hb dL_law_561 (by decide) ?_
      refine lv_iinc (v := nI 4) (lv' := [(5, .int (nI 4)), (7, .int r_4), (6, .int (nI 1)), (0, .ref scr), (1, .ref ho), (2, .ref mo), (3, .ref ou), (4, .ref od)]) hx hb dL_law_1736 hl (k := 7) rfl (nI_add 0 4) (by decide) rfl (fun ls hl => ?_)
      refine lv_goto (tgt := 28) hx hb dL_law_1739 (by decide) ?_
      refine lv_iload hx hb dL_law_28 (lv_at hl 0 rfl) ?_
      refine lv_aload_n hx hb dL_law_30 rfl (lv_at hl 3 rfl) ?_
      refine va_slen hx hb hX hbl hbA hS dL_law_31 ?_
      refine lv_toe (show Int32.ofNat 4 = nI 4 from rfl) ?_
      refine lv_iconst (v := nI 4) hx hb dL_law_32 (by decide) ?_
      refine lv_isub hx hb dL_law_33 ?_
      refine lv_toe (pk_sub (a := 4) (b := 4) (by omega)) ?_
      refine lv_icmp_gt (tgt := 1742) hx hb dL_law_34 (by decide) (fun c_9 => ?_) (fun c_9 => ?_)
      · skip
        have c_9 : 0 < 4 := (nI_ltI (a := 0) (b := 4) (by omega) (by omega)).mp c_9
        refine lv_iconst (v := nI 1) hx hb dL_law_1742 (by decide) ?_
        refine va_forget (fun q hq => hA2 _ (hS.2.2 q hq)) ?_
        refine W.widen (k := 607190) (n := 7280494) (Nat.le_of_ble_eq_true rfl) (Nat.le_of_ble_eq_true rfl) ?_
        exact lw_ret (d0 := s.drawn) (Drawn.sameBut.refl s.drawn lw_cs) hx hb hr hlocks dL_law_1743
      · skip
        have c_9 : ¬ 0 < 4 := fun z => c_9 ((nI_ltI (a := 0) (b := 4) (by omega) (by omega)).mpr z)
        exact absurd c_9 (by decide)
    · skip
      have c_8 : 1 = 0 := (nI_eq (a := 1) (b := 0) (by omega) (by omega)).mp c_8
      exact absurd c_8 (by decide)
  · skip
    have c_7 : ¬ 1 = 1 := fun z => c_7 ((nI_eq (a := 1) (b := 1) (by omega) (by omega)).mpr z)
    exact absurd c_7 (by decide)
set_option maxHeartbeats 4000000 in
set_option maxRecDepth 100000 in
theorem law_solutions {p : Program} {e : Env} {s : State} {m : MethodId} {below : List Frame} {meth : Method} {c : Code} (l : Launch) (hst : l.stackTraces = false) {scr : Nat} {xs : Nat → Int32} (C0 : lw_At p s m meth c scr 4 xs) (G : GG) (A : Nat → Prop) (hA : ∀ q : Nat, s.heap.size ≤ q → A q) (hA2 : ∀ q : Nat, A q → s.heap.size ≤ q) (hK : va_K (gD G) vwCl (gT G) s) (hE : EV G A s s.heap) (ho al ts pb sv b mm sr se mo al2 pf ou od : Nat) (f g hh pff : Nat → Int32) (H : Heap) (locs : List Loc) (hP : va_P (gD G) vwCl [(ho, .inr (11, [.ref al, .ref sv, .ref ts, .ref pb, .null, .int (nI 0)])), (al, .inr (4, [.int (nI 0), .ref (gE G), .int (nI 0)])), (sv, .inr (10, [.ref b, .ref sr, .ref se, .int (nI 0), .int (nI 0), .int (nI 110)])), (b, .inr (5, [.ref mm])), (mm, .inl (gyI G, 16, .inl f)), (sr, .inl (gyI G, 64, .inl g)), (se, .inl (gyI G, 16, .inl hh)), (mo, .inr (15, [.int (nI 0), .ref al2, .long (lN 0), .null, .ref pf, .int (nI 0)])), (al2, .inr (4, [.int (nI 0), .ref (gE G), .int (nI 0)])), (pf, .inl (gyI G, 16, .inl pff)), (ou, .inl (gyL G, 1, .inr (.inl (fun _ => 0)))), (od, .inl (gyD G, 1, .inr (.inr (.inr (.inl (fun _ => 0))))))] H) (hD : va_D A [(ho, .inr (11, [.ref al, .ref sv, .ref ts, .ref pb, .null, .int (nI 0)])), (al, .inr (4, [.int (nI 0), .ref (gE G), .int (nI 0)])), (sv, .inr (10, [.ref b, .ref sr, .ref se, .int (nI 0), .int (nI 0), .int (nI 110)])), (b, .inr (5, [.ref mm])), (mm, .inl (gyI G, 16, .inl f)), (sr, .inl (gyI G, 64, .inl g)), (se, .inl (gyI G, 16, .inl hh)), (mo, .inr (15, [.int (nI 0), .ref al2, .long (lN 0), .null, .ref pf, .int (nI 0)])), (al2, .inr (4, [.int (nI 0), .ref (gE G), .int (nI 0)])), (pf, .inl (gyI G, 16, .inl pff)), (ou, .inl (gyL G, 1, .inr (.inl (fun _ => 0)))), (od, .inl (gyD G, 1, .inr (.inr (.inr (.inl (fun _ => 0))))))]) (hS : va_S A s.heap H locs) (ls : Array Slot) (hl : lv_has ls 9 [(0, .ref scr), (1, .ref ho), (2, .ref mo), (3, .ref ou), (4, .ref od), (5, .int (nI 0))]) : W p l e room_1 s m #[Value.ref scr] below meth c H locs 17 191 (lw_Z below #[Value.ref scr] s) (F0 m 564 ls []) := by
  obtain ⟨hx, hb, hr, hml, hown, hts0, hX, hbl, hlocks, hgv⟩ := C0
  have hown : s.vm.findClass "PegboardryLaw" = some m.cls := hown
  have hts : ∀ w ∈ WW, w.before #[Value.ref scr] s = true := fun w hw => hts0 w (List.mem_filter.mp hw).1
  have hbA : ¬ A scr := fun z => Nat.not_le.mpr hbl (hA2 _ z)
  refine lv_aload_n hx hb dL_law_564 rfl (lv_at hl 1 rfl) ?_
  refine lv_aload_n hx hb dL_law_565 rfl (lv_at hl 0 rfl) ?_
  refine lv_iload hx hb dL_law_566 (lv_at hl 5 rfl) ?_
  refine lv_iconst (v := nI 1) hx hb dL_law_568 (by decide) ?_
  refine lv_iadd hx hb dL_law_569 ?_
  refine lv_toe (nI_add 0 1) ?_
  refine va_sld hx hb hX hbl hbA hS (vp_in_nI (n := 1) (N := 4) (by omega) (by omega)) dL_law_570 ?_
  refine lv_toe (show xs (nI (1)).toNatClampNeg = xs 1 by rw [nI_clamp (by omega)]) ?_
  refine lv_aload_n hx hb dL_law_571 rfl (lv_at hl 3 rfl) ?_
  refine fin_i hP hD hS hA [0, 1, 10] [2, 3, 4, 5, 6, 7, 8, 9, 11] (wr := [(sv, .inr (10, [.ref b, .ref sr, .ref se, .int (nI 0), .int (nI 0), .int (nI 110)])), (b, .inr (5, [.ref mm])), (mm, .inl (gyI G, 16, .inl f)), (sr, .inl (gyI G, 64, .inl g)), (se, .inl (gyI G, 16, .inl hh)), (mo, .inr (15, [.int (nI 0), .ref al2, .long (lN 0), .null, .ref pf, .int (nI 0)])), (al2, .inr (4, [.int (nI 0), .ref (gE G), .int (nI 0)])), (pf, .inl (gyI G, 16, .inl pff)), (od, .inl (gyD G, 1, .inr (.inr (.inr (.inl (fun _ => 0))))))]) rfl rfl (by decide) (by decide) (vx_runSW (As := [.ref ho, .int (xs 1), .ref ou]) (rest := []) ⟨hx, hb, hml, hown, hts⟩ (l_solutions l G ho al ts pb (nI 0) sv (nI 0) (xs 1) ou (fun _ => 0) hst H.size) (vx_cwSW 3 hts (gSt q714 q715 q44 q716) rfl rfl rfl (by decide +kernel) ⟨Nat.le_of_ble_eq_true rfl, Nat.le_of_ble_eq_true rfl⟩) (preS hK hE hP hD hS hA [0, 1, 10] rfl (by decide)) rfl rfl hl.1 rfl (lv_room (Nat.le_of_ble_eq_true rfl)) dL_law_572 ⟨Nat.le_of_ble_eq_true rfl, Nat.le_of_ble_eq_true rfl⟩) (fun r_2 u9 hw_1 H locs hP hD hS => ?_)
  subst hw_1
  have hP : va_P (gD G) vwCl [(sv, .inr (10, [.ref b, .ref sr, .ref se, .int (nI 0), .int (nI 0), .int (nI 110)])), (b, .inr (5, [.ref mm])), (mm, .inl (gyI G, 16, .inl f)), (sr, .inl (gyI G, 64, .inl g)), (se, .inl (gyI G, 16, .inl hh)), (mo, .inr (15, [.int (nI 0), .ref al2, .long (lN 0), .null, .ref pf, .int (nI 0)])), (al2, .inr (4, [.int (nI 0), .ref (gE G), .int (nI 0)])), (pf, .inl (gyI G, 16, .inl pff)), (od, .inl (gyD G, 1, .inr (.inr (.inr (.inl (fun _ => 0)))))), (ho, .inr (11, [.ref al, .ref sv, .ref ts, .ref pb, .null, .int (nI 0)])), (al, .inr (4, [.int (nI 0), .ref (gE G), .int (nI 0)])), (ou, .inl (gyL G, 1, .inr (.inl (fun _ => 0))))] H := hP
  have hD : va_D A [(sv, .inr (10, [.ref b, .ref sr, .ref se, .int (nI 0), .int (nI 0), .int (nI 110)])), (b, .inr (5, [.ref mm])), (mm, .inl (gyI G, 16, .inl f)), (sr, .inl (gyI G, 64, .inl g)), (se, .inl (gyI G, 16, .inl hh)), (mo, .inr (15, [.int (nI 0), .ref al2, .long (lN 0), .null, .ref pf, .int (nI 0)])), (al2, .inr (4, [.int (nI 0), .ref (gE G), .int (nI 0)])), (pf, .inl (gyI G, 16, .inl pff)), (od, .inl (gyD G, 1, .inr (.inr (.inr (.inl (fun _ => 0)))))), (ho, .inr (11, [.ref al, .ref sv, .ref ts, .ref pb, .null, .int (nI 0)])), (al, .inr (4, [.int (nI 0), .ref (gE G), .int (nI 0)])), (ou, .inl (gyL G, 1, .inr (.inl (fun _ => 0))))] := hD
  refine lv_istore (lv' := [(6, .int (nI 1)), (0, .ref scr), (1, .ref ho), (2, .ref mo), (3, .ref ou), (4, .ref od), (5, .int (nI 0))]) hx hb dL_law_575 hl (by decide) rfl (fun ls hl => ?_)
  refine lv_aload_n hx hb dL_law_577 rfl (lv_at hl 3 rfl) ?_
  refine lv_aload_n hx hb dL_law_578 rfl (lv_at hl 1 rfl) ?_
  refine lv_iload hx hb dL_law_579 (lv_at hl 6 rfl) ?_
  refine lv_iconst (v := nI 1) hx hb dL_law_581 (by decide) ?_
  refine lv_iadd hx hb dL_law_582 ?_
  refine lv_toe (nI_add 0 1) ?_
  refine va_sld hx hb hX hbl hbA hS (vp_in_nI (n := 1) (N := 4) (by omega) (by omega)) dL_law_583 ?_
  refine lv_toe (show xs (nI (1)).toNatClampNeg = xs 1 by rw [nI_clamp (by omega)]) ?_
  refine fin_i hP hD hS hA [5, 6] [0, 1, 2, 3, 4, 7, 8, 9, 10, 11] (wr := [(sv, .inr (10, [.ref b, .ref sr, .ref se, .int (nI 0), .int (nI 0), .int (nI 110)])), (b, .inr (5, [.ref mm])), (mm, .inl (gyI G, 16, .inl f)), (sr, .inl (gyI G, 64, .inl g)), (se, .inl (gyI G, 16, .inl hh)), (pf, .inl (gyI G, 16, .inl pff)), (od, .inl (gyD G, 1, .inr (.inr (.inr (.inl (fun _ => 0)))))), (ho, .inr (11, [.ref al, .ref sv, .ref ts, .ref pb, .null, .int (nI 0)])), (al, .inr (4, [.int (nI 0), .ref (gE G), .int (nI 0)])), (ou, .inl (gyL G, 1, .inr (.inl (fun _ => 0))))]) rfl rfl (by decide) (by decide) (va_runV (As := [.int (xs 1)]) (rest := []) ⟨hx, hb, hml, hown, hts⟩ (c_X10_solutions l G mo (nI 0) al2 0 pf (nI 0) (nI 0) (xs 1) H.size) (cwV 1 hts (gV q1232 q1233 q1234 q52 q1235) rfl rfl rfl (by decide +kernel) ⟨Nat.le_of_ble_eq_true rfl, Nat.le_of_ble_eq_true rfl⟩) (preV (q0 := 5) (ci := 15) hK hE hP hD hS hA [5, 6] rfl (by decide) rfl rfl) rfl rfl hl.1 rfl (lv_room (Nat.le_of_ble_eq_true rfl)) dL_law_584 ⟨Nat.le_of_ble_eq_true rfl, Nat.le_of_ble_eq_true rfl⟩) (fun r_4 u9 hw_3 H locs hP hD hS => ?_)
  have hP : va_P (gD G) vwCl [(sv, .inr (10, [.ref b, .ref sr, .ref se, .int (nI 0), .int (nI 0), .int (nI 110)])), (b, .inr (5, [.ref mm])), (mm, .inl (gyI G, 16, .inl f)), (sr, .inl (gyI G, 64, .inl g)), (se, .inl (gyI G, 16, .inl hh)), (pf, .inl (gyI G, 16, .inl pff)), (od, .inl (gyD G, 1, .inr (.inr (.inr (.inl (fun _ => 0)))))), (ho, .inr (11, [.ref al, .ref sv, .ref ts, .ref pb, .null, .int (nI 0)])), (al, .inr (4, [.int (nI 0), .ref (gE G), .int (nI 0)])), (ou, .inl (gyL G, 1, .inr (.inl (fun _ => 0)))), (mo, .inr (15, [.int (nI 1), .ref al2, .long (lN 0), .null, .ref pf, .int (nI 0)])), (al2, .inr (4, [.int (nI 0), .ref (gE G), .int (nI 0)]))] H := hP
  have hD : va_D A [(sv, .inr (10, [.ref b, .ref sr, .ref se, .int (nI 0), .int (nI 0), .int (nI 110)])), (b, .inr (5, [.ref mm])), (mm, .inl (gyI G, 16, .inl f)), (sr, .inl (gyI G, 64, .inl g)), (se, .inl (gyI G, 16, .inl hh)), (pf, .inl (gyI G, 16, .inl pff)), (od, .inl (gyD G, 1, .inr (.inr (.inr (.inl (fun _ => 0)))))), (ho, .inr (11, [.ref al, .ref sv, .ref ts, .ref pb, .null, .int (nI 0)])), (al, .inr (4, [.int (nI 0), .ref (gE G), .int (nI 0)])), (ou, .inl (gyL G, 1, .inr (.inl (fun _ => 0)))), (mo, .inr (15, [.int (nI 1), .ref al2, .long (lN 0), .null, .ref pf, .int (nI 0)])), (al2, .inr (4, [.int (nI 0), .ref (gE G), .int (nI 0)]))] := hD
  refine lv_istore (lv' := [(7, .int r_4), (6, .int (nI 1)), (0, .ref scr), (1, .ref ho), (2, .ref mo), (3, .ref ou), (4, .ref od), (5, .int (nI 0))]) hx hb dL_law_587 hl (by decide) rfl (fun ls hl => ?_)
  refine lv_aload_n hx hb dL_law_589 rfl (lv_at hl 4 rfl) ?_
  refine fin_i hP hD hS hA [10] [0, 1, 2, 3, 4, 5, 6, 7, 8, 9, 11] (wr := [(sv, .inr (10, [.ref b, .ref sr, .ref se, .int (nI 0), .int (nI 0), .int (nI 110)])), (b, .inr (5, [.ref mm])), (mm, .inl (gyI G, 16, .inl f)), (sr, .inl (gyI G, 64, .inl g)), (se, .inl (gyI G, 16, .inl hh)), (pf, .inl (gyI G, 16, .inl pff)), (od, .inl (gyD G, 1, .inr (.inr (.inr (.inl (fun _ => 0)))))), (ho, .inr (11, [.ref al, .ref sv, .ref ts, .ref pb, .null, .int (nI 0)])), (al, .inr (4, [.int (nI 0), .ref (gE G), .int (nI 0)])), (ou, .inl (gyL G, 1, .inr (.inl (fun _ => 0)))), (al2, .inr (4, [.int (nI 0), .ref (gE G), .int (nI 0)]))]) rfl rfl (by decide) (by decide) (va_runV (As := []) (rest := []) ⟨hx, hb, hml, hown, hts⟩ (c_X10_thrown l G mo 1 al2 0 pf (nI 0) H.size) (cwV 0 hts (gV q946 q947 q948 q52 q949) rfl rfl rfl (by decide +kernel) ⟨Nat.le_of_ble_eq_true rfl, Nat.le_of_ble_eq_true rfl⟩) (preV (q0 := 10) (ci := 15) hK hE hP hD hS hA [10] rfl (by decide) rfl rfl) rfl rfl hl.1 rfl (lv_room (Nat.le_of_ble_eq_true rfl)) dL_law_590 ⟨Nat.le_of_ble_eq_true rfl, Nat.le_of_ble_eq_true rfl⟩) (fun r_6 u9 hw_5 H locs hP hD hS => ?_)
  subst hw_5
  have hP : va_P (gD G) vwCl [(sv, .inr (10, [.ref b, .ref sr, .ref se, .int (nI 0), .int (nI 0), .int (nI 110)])), (b, .inr (5, [.ref mm])), (mm, .inl (gyI G, 16, .inl f)), (sr, .inl (gyI G, 64, .inl g)), (se, .inl (gyI G, 16, .inl hh)), (pf, .inl (gyI G, 16, .inl pff)), (od, .inl (gyD G, 1, .inr (.inr (.inr (.inl (fun _ => 0)))))), (ho, .inr (11, [.ref al, .ref sv, .ref ts, .ref pb, .null, .int (nI 0)])), (al, .inr (4, [.int (nI 0), .ref (gE G), .int (nI 0)])), (ou, .inl (gyL G, 1, .inr (.inl (fun _ => 0)))), (al2, .inr (4, [.int (nI 0), .ref (gE G), .int (nI 0)])), (mo, .inr (15, [.int (nI 1), .ref al2, .long (lN 0), .null, .ref pf, .int (nI 0)]))] H := hP
  have hD : va_D A [(sv, .inr (10, [.ref b, .ref sr, .ref se, .int (nI 0), .int (nI 0), .int (nI 110)])), (b, .inr (5, [.ref mm])), (mm, .inl (gyI G, 16, .inl f)), (sr, .inl (gyI G, 64, .inl g)), (se, .inl (gyI G, 16, .inl hh)), (pf, .inl (gyI G, 16, .inl pff)), (od, .inl (gyD G, 1, .inr (.inr (.inr (.inl (fun _ => 0)))))), (ho, .inr (11, [.ref al, .ref sv, .ref ts, .ref pb, .null, .int (nI 0)])), (al, .inr (4, [.int (nI 0), .ref (gE G), .int (nI 0)])), (ou, .inl (gyL G, 1, .inr (.inl (fun _ => 0)))), (al2, .inr (4, [.int (nI 0), .ref (gE G), .int (nI 0)])), (mo, .inr (15, [.int (nI 1), .ref al2, .long (lN 0), .null, .ref pf, .int (nI 0)]))] := hD
  refine lv_iload hx hb dL_law_593 (lv_at hl 1 rfl) ?_
  refine lv_icmp_eq (tgt := 600) hx hb dL_law_595 (by decide) (fun c_7 => ?_) (fun c_7 => ?_)
  · skip
    have c_7 : 1 = 1 := (nI_eq (a := 1) (b := 1) (by omega) (by omega)).mp c_7
    refine lv_iload hx hb dL_law_600 (lv_at hl 1 rfl) ?_
    refine lv_if_ne (tgt := 617) hx hb dL_law_602 (by decide) (fun c_8 => ?_) (fun c_8 => ?_)
    · skip
      have c_8 : ¬ 1 = 0 := fun z => c_8 ((nI_eq (a := 1) (b := 0) (by omega) (by omega)).mpr z)
      refine lv_goto (tgt := 1736) hx hb dL_law_617 (by decide) ?_
      refine lv_iinc (v := nI 4) (lv' := [(5, .int (nI 4)), (7, .int r_4), (6, .int (nI 1)), (0, .ref scr), (1, .ref ho), (2, .ref mo), (3, .ref ou), (4, .ref od)]) hx hb dL_law_1736 hl (k := 7) rfl (nI_add 0 4) (by decide) rfl (fun ls hl => ?_)
      refine lv_goto (tgt := 28) hx hb dL_law_1739 (by decide) ?_
      refine lv_iload hx hb dL_law_28 (lv_at hl 0 rfl) ?_
      refine lv_aload_n hx hb dL_law_30 rfl (lv_at hl 3 rfl) ?_
      refine va_slen hx hb hX hbl hbA hS dL_law_31 ?_
      refine lv_toe (show Int32.ofNat 4 = nI 4 from rfl) ?_
      refine lv_iconst (v := nI 4) hx hb dL_law_32 (by decide) ?_
      refine lv_isub hx hb dL_law_33 ?_
      refine lv_toe (pk_sub (a := 4) (b := 4) (by omega)) ?_
      refine lv_icmp_gt (tgt := 1742) hx hb dL_law_34 (by decide) (fun c_9 => ?_) (fun c_9 => ?_)
      · skip
        have c_9 : 0 < 4 := (nI_ltI (a := 0) (b := 4) (by omega) (by omega)).mp c_9
        refine lv_iconst (v := nI 1) hx hb dL_law_1742 (by decide) ?_
        refine va_forget (fun q hq => hA2 _ (hS.2.2 q hq)) ?_
        refine W.widen (k := 607190) (n := 7280494) (Nat.le_of_ble_eq_true rfl) (Nat.le_of_ble_eq_true rfl) ?_
        exact lw_ret (d0 := s.drawn) (Drawn.sameBut.refl s.drawn lw_cs) hx hb hr hlocks dL_law_1743
      · skip
        have c_9 : ¬ 0 < 4 := fun z => c_9 ((nI_ltI (a := 0) (b := 4) (by omega) (by omega)).mpr z)
        exact absurd c_9 (by decide)
    · skip
      have c_8 : 1 = 0 := (nI_eq (a := 1) (b := 0) (by omega) (by omega)).mp c_8
      exact absurd c_8 (by decide)
  · skip
    have c_7 : ¬ 1 = 1 := fun z => c_7 ((nI_eq (a := 1) (b := 1) (by omega) (by omega)).mpr z)
    exact absurd c_7 (by decide)
set_option maxHeartbeats 4000000 in
set_option maxRecDepth 100000 in
theorem law_solution {p : Program} {e : Env} {s : State} {m : MethodId} {below : List Frame} {meth : Method} {c : Code} (l : Launch) (hst : l.stackTraces = false) {scr : Nat} {xs : Nat → Int32} (C0 : lw_At p s m meth c scr 4 xs) (G : GG) (A : Nat → Prop) (hA : ∀ q : Nat, s.heap.size ≤ q → A q) (hA2 : ∀ q : Nat, A q → s.heap.size ≤ q) (hK : va_K (gD G) vwCl (gT G) s) (hE : EV G A s s.heap) (ho al ts pb sv b mm sr se mo al2 pf ou od : Nat) (f g hh pff : Nat → Int32) (H : Heap) (locs : List Loc) (hP : va_P (gD G) vwCl [(ho, .inr (11, [.ref al, .ref sv, .ref ts, .ref pb, .null, .int (nI 0)])), (al, .inr (4, [.int (nI 0), .ref (gE G), .int (nI 0)])), (sv, .inr (10, [.ref b, .ref sr, .ref se, .int (nI 0), .int (nI 0), .int (nI 110)])), (b, .inr (5, [.ref mm])), (mm, .inl (gyI G, 16, .inl f)), (sr, .inl (gyI G, 64, .inl g)), (se, .inl (gyI G, 16, .inl hh)), (mo, .inr (15, [.int (nI 0), .ref al2, .long (lN 0), .null, .ref pf, .int (nI 0)])), (al2, .inr (4, [.int (nI 0), .ref (gE G), .int (nI 0)])), (pf, .inl (gyI G, 16, .inl pff)), (ou, .inl (gyL G, 1, .inr (.inl (fun _ => 0)))), (od, .inl (gyD G, 1, .inr (.inr (.inr (.inl (fun _ => 0))))))] H) (hD : va_D A [(ho, .inr (11, [.ref al, .ref sv, .ref ts, .ref pb, .null, .int (nI 0)])), (al, .inr (4, [.int (nI 0), .ref (gE G), .int (nI 0)])), (sv, .inr (10, [.ref b, .ref sr, .ref se, .int (nI 0), .int (nI 0), .int (nI 110)])), (b, .inr (5, [.ref mm])), (mm, .inl (gyI G, 16, .inl f)), (sr, .inl (gyI G, 64, .inl g)), (se, .inl (gyI G, 16, .inl hh)), (mo, .inr (15, [.int (nI 0), .ref al2, .long (lN 0), .null, .ref pf, .int (nI 0)])), (al2, .inr (4, [.int (nI 0), .ref (gE G), .int (nI 0)])), (pf, .inl (gyI G, 16, .inl pff)), (ou, .inl (gyL G, 1, .inr (.inl (fun _ => 0)))), (od, .inl (gyD G, 1, .inr (.inr (.inr (.inl (fun _ => 0))))))]) (hS : va_S A s.heap H locs) (ls : Array Slot) (hl : lv_has ls 9 [(0, .ref scr), (1, .ref ho), (2, .ref mo), (3, .ref ou), (4, .ref od), (5, .int (nI 0))]) : W p l e room_1 s m #[Value.ref scr] below meth c H locs 17 191 (lw_Z below #[Value.ref scr] s) (F0 m 620 ls []) := by
  obtain ⟨hx, hb, hr, hml, hown, hts0, hX, hbl, hlocks, hgv⟩ := C0
  have hown : s.vm.findClass "PegboardryLaw" = some m.cls := hown
  have hts : ∀ w ∈ WW, w.before #[Value.ref scr] s = true := fun w hw => hts0 w (List.mem_filter.mp hw).1
  have hbA : ¬ A scr := fun z => Nat.not_le.mpr hbl (hA2 _ z)
  refine lv_aload_n hx hb dL_law_620 rfl (lv_at hl 1 rfl) ?_
  refine lv_aload_n hx hb dL_law_621 rfl (lv_at hl 0 rfl) ?_
  refine lv_iload hx hb dL_law_622 (lv_at hl 5 rfl) ?_
  refine lv_iconst (v := nI 1) hx hb dL_law_624 (by decide) ?_
  refine lv_iadd hx hb dL_law_625 ?_
  refine lv_toe (nI_add 0 1) ?_
  refine va_sld hx hb hX hbl hbA hS (vp_in_nI (n := 1) (N := 4) (by omega) (by omega)) dL_law_626 ?_
  refine lv_toe (show xs (nI (1)).toNatClampNeg = xs 1 by rw [nI_clamp (by omega)]) ?_
  refine lv_aload_n hx hb dL_law_627 rfl (lv_at hl 0 rfl) ?_
  refine lv_iload hx hb dL_law_628 (lv_at hl 5 rfl) ?_
  refine lv_iconst (v := nI 2) hx hb dL_law_630 (by decide) ?_
  refine lv_iadd hx hb dL_law_631 ?_
  refine lv_toe (nI_add 0 2) ?_
  refine va_sld hx hb hX hbl hbA hS (vp_in_nI (n := 2) (N := 4) (by omega) (by omega)) dL_law_632 ?_
  refine lv_toe (show xs (nI (2)).toNatClampNeg = xs 2 by rw [nI_clamp (by omega)]) ?_
  refine lv_aload_n hx hb dL_law_633 rfl (lv_at hl 3 rfl) ?_
  refine fin_i hP hD hS hA [0, 1, 10] [2, 3, 4, 5, 6, 7, 8, 9, 11] (wr := [(sv, .inr (10, [.ref b, .ref sr, .ref se, .int (nI 0), .int (nI 0), .int (nI 110)])), (b, .inr (5, [.ref mm])), (mm, .inl (gyI G, 16, .inl f)), (sr, .inl (gyI G, 64, .inl g)), (se, .inl (gyI G, 16, .inl hh)), (mo, .inr (15, [.int (nI 0), .ref al2, .long (lN 0), .null, .ref pf, .int (nI 0)])), (al2, .inr (4, [.int (nI 0), .ref (gE G), .int (nI 0)])), (pf, .inl (gyI G, 16, .inl pff)), (od, .inl (gyD G, 1, .inr (.inr (.inr (.inl (fun _ => 0))))))]) rfl rfl (by decide) (by decide) (vx_runSW (As := [.ref ho, .int (xs 1), .int (xs 2), .ref ou]) (rest := []) ⟨hx, hb, hml, hown, hts⟩ (l_solution l G ho al ts pb (nI 0) sv (nI 0) (xs 1) (xs 2) ou (fun _ => 0) hst H.size) (vx_cwSW 4 hts (gSt q721 q722 q44 q723) rfl rfl rfl (by decide +kernel) ⟨Nat.le_of_ble_eq_true rfl, Nat.le_of_ble_eq_true rfl⟩) (preS hK hE hP hD hS hA [0, 1, 10] rfl (by decide)) rfl rfl hl.1 rfl (lv_room (Nat.le_of_ble_eq_true rfl)) dL_law_634 ⟨Nat.le_of_ble_eq_true rfl, Nat.le_of_ble_eq_true rfl⟩) (fun r_2 u9 hw_1 H locs hP hD hS => ?_)
  subst hw_1
  have hP : va_P (gD G) vwCl [(sv, .inr (10, [.ref b, .ref sr, .ref se, .int (nI 0), .int (nI 0), .int (nI 110)])), (b, .inr (5, [.ref mm])), (mm, .inl (gyI G, 16, .inl f)), (sr, .inl (gyI G, 64, .inl g)), (se, .inl (gyI G, 16, .inl hh)), (mo, .inr (15, [.int (nI 0), .ref al2, .long (lN 0), .null, .ref pf, .int (nI 0)])), (al2, .inr (4, [.int (nI 0), .ref (gE G), .int (nI 0)])), (pf, .inl (gyI G, 16, .inl pff)), (od, .inl (gyD G, 1, .inr (.inr (.inr (.inl (fun _ => 0)))))), (ho, .inr (11, [.ref al, .ref sv, .ref ts, .ref pb, .null, .int (nI 0)])), (al, .inr (4, [.int (nI 0), .ref (gE G), .int (nI 0)])), (ou, .inl (gyL G, 1, .inr (.inl (fun _ => 0))))] H := hP
  have hD : va_D A [(sv, .inr (10, [.ref b, .ref sr, .ref se, .int (nI 0), .int (nI 0), .int (nI 110)])), (b, .inr (5, [.ref mm])), (mm, .inl (gyI G, 16, .inl f)), (sr, .inl (gyI G, 64, .inl g)), (se, .inl (gyI G, 16, .inl hh)), (mo, .inr (15, [.int (nI 0), .ref al2, .long (lN 0), .null, .ref pf, .int (nI 0)])), (al2, .inr (4, [.int (nI 0), .ref (gE G), .int (nI 0)])), (pf, .inl (gyI G, 16, .inl pff)), (od, .inl (gyD G, 1, .inr (.inr (.inr (.inl (fun _ => 0)))))), (ho, .inr (11, [.ref al, .ref sv, .ref ts, .ref pb, .null, .int (nI 0)])), (al, .inr (4, [.int (nI 0), .ref (gE G), .int (nI 0)])), (ou, .inl (gyL G, 1, .inr (.inl (fun _ => 0))))] := hD
  refine lv_istore (lv' := [(6, .int (nI 1)), (0, .ref scr), (1, .ref ho), (2, .ref mo), (3, .ref ou), (4, .ref od), (5, .int (nI 0))]) hx hb dL_law_637 hl (by decide) rfl (fun ls hl => ?_)
  refine lv_aload_n hx hb dL_law_639 rfl (lv_at hl 3 rfl) ?_
  refine lv_aload_n hx hb dL_law_640 rfl (lv_at hl 1 rfl) ?_
  refine lv_iload hx hb dL_law_641 (lv_at hl 6 rfl) ?_
  refine lv_iconst (v := nI 1) hx hb dL_law_643 (by decide) ?_
  refine lv_iadd hx hb dL_law_644 ?_
  refine lv_toe (nI_add 0 1) ?_
  refine va_sld hx hb hX hbl hbA hS (vp_in_nI (n := 1) (N := 4) (by omega) (by omega)) dL_law_645 ?_
  refine lv_toe (show xs (nI (1)).toNatClampNeg = xs 1 by rw [nI_clamp (by omega)]) ?_
  refine lv_aload_n hx hb dL_law_646 rfl (lv_at hl 1 rfl) ?_
  refine lv_iload hx hb dL_law_647 (lv_at hl 6 rfl) ?_
  refine lv_iconst (v := nI 2) hx hb dL_law_649 (by decide) ?_
  refine lv_iadd hx hb dL_law_650 ?_
  refine lv_toe (nI_add 0 2) ?_
  refine va_sld hx hb hX hbl hbA hS (vp_in_nI (n := 2) (N := 4) (by omega) (by omega)) dL_law_651 ?_
  refine lv_toe (show xs (nI (2)).toNatClampNeg = xs 2 by rw [nI_clamp (by omega)]) ?_
  refine fin_i hP hD hS hA [5, 6] [0, 1, 2, 3, 4, 7, 8, 9, 10, 11] (wr := [(sv, .inr (10, [.ref b, .ref sr, .ref se, .int (nI 0), .int (nI 0), .int (nI 110)])), (b, .inr (5, [.ref mm])), (mm, .inl (gyI G, 16, .inl f)), (sr, .inl (gyI G, 64, .inl g)), (se, .inl (gyI G, 16, .inl hh)), (pf, .inl (gyI G, 16, .inl pff)), (od, .inl (gyD G, 1, .inr (.inr (.inr (.inl (fun _ => 0)))))), (ho, .inr (11, [.ref al, .ref sv, .ref ts, .ref pb, .null, .int (nI 0)])), (al, .inr (4, [.int (nI 0), .ref (gE G), .int (nI 0)])), (ou, .inl (gyL G, 1, .inr (.inl (fun _ => 0))))]) rfl rfl (by decide) (by decide) (va_runV (As := [.int (xs 1), .int (xs 2)]) (rest := []) ⟨hx, hb, hml, hown, hts⟩ (c_X10_solution l G mo (nI 0) al2 0 pf (nI 0) (nI 0) (xs 1) (xs 2) H.size) (cwV 2 hts (gV q1254 q1255 q1256 q52 q1257) rfl rfl rfl (by decide +kernel) ⟨Nat.le_of_ble_eq_true rfl, Nat.le_of_ble_eq_true rfl⟩) (preV (q0 := 5) (ci := 15) hK hE hP hD hS hA [5, 6] rfl (by decide) rfl rfl) rfl rfl hl.1 rfl (lv_room (Nat.le_of_ble_eq_true rfl)) dL_law_652 ⟨Nat.le_of_ble_eq_true rfl, Nat.le_of_ble_eq_true rfl⟩) (fun r_4 u9 hw_3 H locs hP hD hS => ?_)
  have hP : va_P (gD G) vwCl [(sv, .inr (10, [.ref b, .ref sr, .ref se, .int (nI 0), .int (nI 0), .int (nI 110)])), (b, .inr (5, [.ref mm])), (mm, .inl (gyI G, 16, .inl f)), (sr, .inl (gyI G, 64, .inl g)), (se, .inl (gyI G, 16, .inl hh)), (pf, .inl (gyI G, 16, .inl pff)), (od, .inl (gyD G, 1, .inr (.inr (.inr (.inl (fun _ => 0)))))), (ho, .inr (11, [.ref al, .ref sv, .ref ts, .ref pb, .null, .int (nI 0)])), (al, .inr (4, [.int (nI 0), .ref (gE G), .int (nI 0)])), (ou, .inl (gyL G, 1, .inr (.inl (fun _ => 0)))), (mo, .inr (15, [.int (nI 1), .ref al2, .long (lN 0), .null, .ref pf, .int (nI 0)])), (al2, .inr (4, [.int (nI 0), .ref (gE G), .int (nI 0)]))] H := hP
  have hD : va_D A [(sv, .inr (10, [.ref b, .ref sr, .ref se, .int (nI 0), .int (nI 0), .int (nI 110)])), (b, .inr (5, [.ref mm])), (mm, .inl (gyI G, 16, .inl f)), (sr, .inl (gyI G, 64, .inl g)), (se, .inl (gyI G, 16, .inl hh)), (pf, .inl (gyI G, 16, .inl pff)), (od, .inl (gyD G, 1, .inr (.inr (.inr (.inl (fun _ => 0)))))), (ho, .inr (11, [.ref al, .ref sv, .ref ts, .ref pb, .null, .int (nI 0)])), (al, .inr (4, [.int (nI 0), .ref (gE G), .int (nI 0)])), (ou, .inl (gyL G, 1, .inr (.inl (fun _ => 0)))), (mo, .inr (15, [.int (nI 1), .ref al2, .long (lN 0), .null, .ref pf, .int (nI 0)])), (al2, .inr (4, [.int (nI 0), .ref (gE G), .int (nI 0)]))] := hD
  refine lv_istore (lv' := [(7, .int r_4), (6, .int (nI 1)), (0, .ref scr), (1, .ref ho), (2, .ref mo), (3, .ref ou), (4, .ref od), (5, .int (nI 0))]) hx hb dL_law_655 hl (by decide) rfl (fun ls hl => ?_)
  refine lv_aload_n hx hb dL_law_657 rfl (lv_at hl 4 rfl) ?_
  refine fin_i hP hD hS hA [10] [0, 1, 2, 3, 4, 5, 6, 7, 8, 9, 11] (wr := [(sv, .inr (10, [.ref b, .ref sr, .ref se, .int (nI 0), .int (nI 0), .int (nI 110)])), (b, .inr (5, [.ref mm])), (mm, .inl (gyI G, 16, .inl f)), (sr, .inl (gyI G, 64, .inl g)), (se, .inl (gyI G, 16, .inl hh)), (pf, .inl (gyI G, 16, .inl pff)), (od, .inl (gyD G, 1, .inr (.inr (.inr (.inl (fun _ => 0)))))), (ho, .inr (11, [.ref al, .ref sv, .ref ts, .ref pb, .null, .int (nI 0)])), (al, .inr (4, [.int (nI 0), .ref (gE G), .int (nI 0)])), (ou, .inl (gyL G, 1, .inr (.inl (fun _ => 0)))), (al2, .inr (4, [.int (nI 0), .ref (gE G), .int (nI 0)]))]) rfl rfl (by decide) (by decide) (va_runV (As := []) (rest := []) ⟨hx, hb, hml, hown, hts⟩ (c_X10_thrown l G mo 1 al2 0 pf (nI 0) H.size) (cwV 0 hts (gV q946 q947 q948 q52 q949) rfl rfl rfl (by decide +kernel) ⟨Nat.le_of_ble_eq_true rfl, Nat.le_of_ble_eq_true rfl⟩) (preV (q0 := 10) (ci := 15) hK hE hP hD hS hA [10] rfl (by decide) rfl rfl) rfl rfl hl.1 rfl (lv_room (Nat.le_of_ble_eq_true rfl)) dL_law_658 ⟨Nat.le_of_ble_eq_true rfl, Nat.le_of_ble_eq_true rfl⟩) (fun r_6 u9 hw_5 H locs hP hD hS => ?_)
  subst hw_5
  have hP : va_P (gD G) vwCl [(sv, .inr (10, [.ref b, .ref sr, .ref se, .int (nI 0), .int (nI 0), .int (nI 110)])), (b, .inr (5, [.ref mm])), (mm, .inl (gyI G, 16, .inl f)), (sr, .inl (gyI G, 64, .inl g)), (se, .inl (gyI G, 16, .inl hh)), (pf, .inl (gyI G, 16, .inl pff)), (od, .inl (gyD G, 1, .inr (.inr (.inr (.inl (fun _ => 0)))))), (ho, .inr (11, [.ref al, .ref sv, .ref ts, .ref pb, .null, .int (nI 0)])), (al, .inr (4, [.int (nI 0), .ref (gE G), .int (nI 0)])), (ou, .inl (gyL G, 1, .inr (.inl (fun _ => 0)))), (al2, .inr (4, [.int (nI 0), .ref (gE G), .int (nI 0)])), (mo, .inr (15, [.int (nI 1), .ref al2, .long (lN 0), .null, .ref pf, .int (nI 0)]))] H := hP
  have hD : va_D A [(sv, .inr (10, [.ref b, .ref sr, .ref se, .int (nI 0), .int (nI 0), .int (nI 110)])), (b, .inr (5, [.ref mm])), (mm, .inl (gyI G, 16, .inl f)), (sr, .inl (gyI G, 64, .inl g)), (se, .inl (gyI G, 16, .inl hh)), (pf, .inl (gyI G, 16, .inl pff)), (od, .inl (gyD G, 1, .inr (.inr (.inr (.inl (fun _ => 0)))))), (ho, .inr (11, [.ref al, .ref sv, .ref ts, .ref pb, .null, .int (nI 0)])), (al, .inr (4, [.int (nI 0), .ref (gE G), .int (nI 0)])), (ou, .inl (gyL G, 1, .inr (.inl (fun _ => 0)))), (al2, .inr (4, [.int (nI 0), .ref (gE G), .int (nI 0)])), (mo, .inr (15, [.int (nI 1), .ref al2, .long (lN 0), .null, .ref pf, .int (nI 0)]))] := hD
  refine lv_iload hx hb dL_law_661 (lv_at hl 1 rfl) ?_
  refine lv_icmp_eq (tgt := 668) hx hb dL_law_663 (by decide) (fun c_7 => ?_) (fun c_7 => ?_)
  · skip
    have c_7 : 1 = 1 := (nI_eq (a := 1) (b := 1) (by omega) (by omega)).mp c_7
    refine lv_iload hx hb dL_law_668 (lv_at hl 1 rfl) ?_
    refine lv_if_ne (tgt := 685) hx hb dL_law_670 (by decide) (fun c_8 => ?_) (fun c_8 => ?_)
    · skip
      have c_8 : ¬ 1 = 0 := fun z => c_8 ((nI_eq (a := 1) (b := 0) (by omega) (by omega)).mpr z)
      refine lv_goto (tgt := 1736) hx hb dL_law_685 (by decide) ?_
      refine lv_iinc (v := nI 4) (lv' := [(5, .int (nI 4)), (7, .int r_4), (6, .int (nI 1)), (0, .ref scr), (1, .ref ho), (2, .ref mo), (3, .ref ou), (4, .ref od)]) hx hb dL_law_1736 hl (k := 7) rfl (nI_add 0 4) (by decide) rfl (fun ls hl => ?_)
      refine lv_goto (tgt := 28) hx hb dL_law_1739 (by decide) ?_
      refine lv_iload hx hb dL_law_28 (lv_at hl 0 rfl) ?_
      refine lv_aload_n hx hb dL_law_30 rfl (lv_at hl 3 rfl) ?_
      refine va_slen hx hb hX hbl hbA hS dL_law_31 ?_
      refine lv_toe (show Int32.ofNat 4 = nI 4 from rfl) ?_
      refine lv_iconst (v := nI 4) hx hb dL_law_32 (by decide) ?_
      refine lv_isub hx hb dL_law_33 ?_
      refine lv_toe (pk_sub (a := 4) (b := 4) (by omega)) ?_
      refine lv_icmp_gt (tgt := 1742) hx hb dL_law_34 (by decide) (fun c_9 => ?_) (fun c_9 => ?_)
      · skip
        have c_9 : 0 < 4 := (nI_ltI (a := 0) (b := 4) (by omega) (by omega)).mp c_9
        refine lv_iconst (v := nI 1) hx hb dL_law_1742 (by decide) ?_
        refine va_forget (fun q hq => hA2 _ (hS.2.2 q hq)) ?_
        refine W.widen (k := 607190) (n := 7280494) (Nat.le_of_ble_eq_true rfl) (Nat.le_of_ble_eq_true rfl) ?_
        exact lw_ret (d0 := s.drawn) (Drawn.sameBut.refl s.drawn lw_cs) hx hb hr hlocks dL_law_1743
      · skip
        have c_9 : ¬ 0 < 4 := fun z => c_9 ((nI_ltI (a := 0) (b := 4) (by omega) (by omega)).mpr z)
        exact absurd c_9 (by decide)
    · skip
      have c_8 : 1 = 0 := (nI_eq (a := 1) (b := 0) (by omega) (by omega)).mp c_8
      exact absurd c_8 (by decide)
  · skip
    have c_7 : ¬ 1 = 1 := fun z => c_7 ((nI_eq (a := 1) (b := 1) (by omega) (by omega)).mpr z)
    exact absurd c_7 (by decide)
set_option maxHeartbeats 4000000 in
set_option maxRecDepth 100000 in
theorem law_solve {p : Program} {e : Env} {s : State} {m : MethodId} {below : List Frame} {meth : Method} {c : Code} (l : Launch) (hst : l.stackTraces = false) {scr : Nat} {xs : Nat → Int32} (C0 : lw_At p s m meth c scr 4 xs) (G : GG) (A : Nat → Prop) (hA : ∀ q : Nat, s.heap.size ≤ q → A q) (hA2 : ∀ q : Nat, A q → s.heap.size ≤ q) (hK : va_K (gD G) vwCl (gT G) s) (hE : EV G A s s.heap) (ho al ts pb sv b mm sr se mo al2 pf ou od : Nat) (f g hh pff : Nat → Int32) (H : Heap) (locs : List Loc) (hP : va_P (gD G) vwCl [(ho, .inr (11, [.ref al, .ref sv, .ref ts, .ref pb, .null, .int (nI 0)])), (al, .inr (4, [.int (nI 0), .ref (gE G), .int (nI 0)])), (sv, .inr (10, [.ref b, .ref sr, .ref se, .int (nI 0), .int (nI 0), .int (nI 110)])), (b, .inr (5, [.ref mm])), (mm, .inl (gyI G, 16, .inl f)), (sr, .inl (gyI G, 64, .inl g)), (se, .inl (gyI G, 16, .inl hh)), (mo, .inr (15, [.int (nI 0), .ref al2, .long (lN 0), .null, .ref pf, .int (nI 0)])), (al2, .inr (4, [.int (nI 0), .ref (gE G), .int (nI 0)])), (pf, .inl (gyI G, 16, .inl pff)), (ou, .inl (gyL G, 1, .inr (.inl (fun _ => 0)))), (od, .inl (gyD G, 1, .inr (.inr (.inr (.inl (fun _ => 0))))))] H) (hD : va_D A [(ho, .inr (11, [.ref al, .ref sv, .ref ts, .ref pb, .null, .int (nI 0)])), (al, .inr (4, [.int (nI 0), .ref (gE G), .int (nI 0)])), (sv, .inr (10, [.ref b, .ref sr, .ref se, .int (nI 0), .int (nI 0), .int (nI 110)])), (b, .inr (5, [.ref mm])), (mm, .inl (gyI G, 16, .inl f)), (sr, .inl (gyI G, 64, .inl g)), (se, .inl (gyI G, 16, .inl hh)), (mo, .inr (15, [.int (nI 0), .ref al2, .long (lN 0), .null, .ref pf, .int (nI 0)])), (al2, .inr (4, [.int (nI 0), .ref (gE G), .int (nI 0)])), (pf, .inl (gyI G, 16, .inl pff)), (ou, .inl (gyL G, 1, .inr (.inl (fun _ => 0)))), (od, .inl (gyD G, 1, .inr (.inr (.inr (.inl (fun _ => 0))))))]) (hS : va_S A s.heap H locs) (ls : Array Slot) (hl : lv_has ls 9 [(0, .ref scr), (1, .ref ho), (2, .ref mo), (3, .ref ou), (4, .ref od), (5, .int (nI 0))]) : W p l e room_1 s m #[Value.ref scr] below meth c H locs 17 191 (lw_Z below #[Value.ref scr] s) (F0 m 688 ls []) := by
  obtain ⟨hx, hb, hr, hml, hown, hts0, hX, hbl, hlocks, hgv⟩ := C0
  have hown : s.vm.findClass "PegboardryLaw" = some m.cls := hown
  have hts : ∀ w ∈ WW, w.before #[Value.ref scr] s = true := fun w hw => hts0 w (List.mem_filter.mp hw).1
  have hbA : ¬ A scr := fun z => Nat.not_le.mpr hbl (hA2 _ z)
  refine lv_aload_n hx hb dL_law_688 rfl (lv_at hl 1 rfl) ?_
  refine lv_aload_n hx hb dL_law_689 rfl (lv_at hl 0 rfl) ?_
  refine lv_iload hx hb dL_law_690 (lv_at hl 5 rfl) ?_
  refine lv_iconst (v := nI 1) hx hb dL_law_692 (by decide) ?_
  refine lv_iadd hx hb dL_law_693 ?_
  refine lv_toe (nI_add 0 1) ?_
  refine va_sld hx hb hX hbl hbA hS (vp_in_nI (n := 1) (N := 4) (by omega) (by omega)) dL_law_694 ?_
  refine lv_toe (show xs (nI (1)).toNatClampNeg = xs 1 by rw [nI_clamp (by omega)]) ?_
  refine lv_aload_n hx hb dL_law_695 rfl (lv_at hl 3 rfl) ?_
  refine fin_i hP hD hS hA [0, 1, 10] [2, 3, 4, 5, 6, 7, 8, 9, 11] (wr := [(sv, .inr (10, [.ref b, .ref sr, .ref se, .int (nI 0), .int (nI 0), .int (nI 110)])), (b, .inr (5, [.ref mm])), (mm, .inl (gyI G, 16, .inl f)), (sr, .inl (gyI G, 64, .inl g)), (se, .inl (gyI G, 16, .inl hh)), (mo, .inr (15, [.int (nI 0), .ref al2, .long (lN 0), .null, .ref pf, .int (nI 0)])), (al2, .inr (4, [.int (nI 0), .ref (gE G), .int (nI 0)])), (pf, .inl (gyI G, 16, .inl pff)), (od, .inl (gyD G, 1, .inr (.inr (.inr (.inl (fun _ => 0))))))]) rfl rfl (by decide) (by decide) (vx_runSW (As := [.ref ho, .int (xs 1), .ref ou]) (rest := []) ⟨hx, hb, hml, hown, hts⟩ (l_solve l G ho al ts pb (nI 0) sv (nI 0) (xs 1) ou (fun _ => 0) hst H.size) (vx_cwSW 3 hts (gSt q745 q746 q44 q747) rfl rfl rfl (by decide +kernel) ⟨Nat.le_of_ble_eq_true rfl, Nat.le_of_ble_eq_true rfl⟩) (preS hK hE hP hD hS hA [0, 1, 10] rfl (by decide)) rfl rfl hl.1 rfl (lv_room (Nat.le_of_ble_eq_true rfl)) dL_law_696 ⟨Nat.le_of_ble_eq_true rfl, Nat.le_of_ble_eq_true rfl⟩) (fun r_2 u9 hw_1 H locs hP hD hS => ?_)
  subst hw_1
  have hP : va_P (gD G) vwCl [(sv, .inr (10, [.ref b, .ref sr, .ref se, .int (nI 0), .int (nI 0), .int (nI 110)])), (b, .inr (5, [.ref mm])), (mm, .inl (gyI G, 16, .inl f)), (sr, .inl (gyI G, 64, .inl g)), (se, .inl (gyI G, 16, .inl hh)), (mo, .inr (15, [.int (nI 0), .ref al2, .long (lN 0), .null, .ref pf, .int (nI 0)])), (al2, .inr (4, [.int (nI 0), .ref (gE G), .int (nI 0)])), (pf, .inl (gyI G, 16, .inl pff)), (od, .inl (gyD G, 1, .inr (.inr (.inr (.inl (fun _ => 0)))))), (ho, .inr (11, [.ref al, .ref sv, .ref ts, .ref pb, .null, .int (nI 0)])), (al, .inr (4, [.int (nI 0), .ref (gE G), .int (nI 0)])), (ou, .inl (gyL G, 1, .inr (.inl (fun _ => 0))))] H := hP
  have hD : va_D A [(sv, .inr (10, [.ref b, .ref sr, .ref se, .int (nI 0), .int (nI 0), .int (nI 110)])), (b, .inr (5, [.ref mm])), (mm, .inl (gyI G, 16, .inl f)), (sr, .inl (gyI G, 64, .inl g)), (se, .inl (gyI G, 16, .inl hh)), (mo, .inr (15, [.int (nI 0), .ref al2, .long (lN 0), .null, .ref pf, .int (nI 0)])), (al2, .inr (4, [.int (nI 0), .ref (gE G), .int (nI 0)])), (pf, .inl (gyI G, 16, .inl pff)), (od, .inl (gyD G, 1, .inr (.inr (.inr (.inl (fun _ => 0)))))), (ho, .inr (11, [.ref al, .ref sv, .ref ts, .ref pb, .null, .int (nI 0)])), (al, .inr (4, [.int (nI 0), .ref (gE G), .int (nI 0)])), (ou, .inl (gyL G, 1, .inr (.inl (fun _ => 0))))] := hD
  refine lv_istore (lv' := [(6, .int (nI 1)), (0, .ref scr), (1, .ref ho), (2, .ref mo), (3, .ref ou), (4, .ref od), (5, .int (nI 0))]) hx hb dL_law_699 hl (by decide) rfl (fun ls hl => ?_)
  refine lv_aload_n hx hb dL_law_701 rfl (lv_at hl 3 rfl) ?_
  refine lv_aload_n hx hb dL_law_702 rfl (lv_at hl 1 rfl) ?_
  refine lv_iload hx hb dL_law_703 (lv_at hl 6 rfl) ?_
  refine lv_iconst (v := nI 1) hx hb dL_law_705 (by decide) ?_
  refine lv_iadd hx hb dL_law_706 ?_
  refine lv_toe (nI_add 0 1) ?_
  refine va_sld hx hb hX hbl hbA hS (vp_in_nI (n := 1) (N := 4) (by omega) (by omega)) dL_law_707 ?_
  refine lv_toe (show xs (nI (1)).toNatClampNeg = xs 1 by rw [nI_clamp (by omega)]) ?_
  refine fin_i hP hD hS hA [5, 6] [0, 1, 2, 3, 4, 7, 8, 9, 10, 11] (wr := [(sv, .inr (10, [.ref b, .ref sr, .ref se, .int (nI 0), .int (nI 0), .int (nI 110)])), (b, .inr (5, [.ref mm])), (mm, .inl (gyI G, 16, .inl f)), (sr, .inl (gyI G, 64, .inl g)), (se, .inl (gyI G, 16, .inl hh)), (pf, .inl (gyI G, 16, .inl pff)), (od, .inl (gyD G, 1, .inr (.inr (.inr (.inl (fun _ => 0)))))), (ho, .inr (11, [.ref al, .ref sv, .ref ts, .ref pb, .null, .int (nI 0)])), (al, .inr (4, [.int (nI 0), .ref (gE G), .int (nI 0)])), (ou, .inl (gyL G, 1, .inr (.inl (fun _ => 0))))]) rfl rfl (by decide) (by decide) (va_runV (As := [.int (xs 1)]) (rest := []) ⟨hx, hb, hml, hown, hts⟩ (c_X10_solve l G mo (nI 0) al2 0 pf (nI 0) (nI 0) (xs 1) H.size) (cwV 1 hts (gV q1258 q1259 q1260 q52 q1261) rfl rfl rfl (by decide +kernel) ⟨Nat.le_of_ble_eq_true rfl, Nat.le_of_ble_eq_true rfl⟩) (preV (q0 := 5) (ci := 15) hK hE hP hD hS hA [5, 6] rfl (by decide) rfl rfl) rfl rfl hl.1 rfl (lv_room (Nat.le_of_ble_eq_true rfl)) dL_law_708 ⟨Nat.le_of_ble_eq_true rfl, Nat.le_of_ble_eq_true rfl⟩) (fun r_4 u9 hw_3 H locs hP hD hS => ?_)
  have hP : va_P (gD G) vwCl [(sv, .inr (10, [.ref b, .ref sr, .ref se, .int (nI 0), .int (nI 0), .int (nI 110)])), (b, .inr (5, [.ref mm])), (mm, .inl (gyI G, 16, .inl f)), (sr, .inl (gyI G, 64, .inl g)), (se, .inl (gyI G, 16, .inl hh)), (pf, .inl (gyI G, 16, .inl pff)), (od, .inl (gyD G, 1, .inr (.inr (.inr (.inl (fun _ => 0)))))), (ho, .inr (11, [.ref al, .ref sv, .ref ts, .ref pb, .null, .int (nI 0)])), (al, .inr (4, [.int (nI 0), .ref (gE G), .int (nI 0)])), (ou, .inl (gyL G, 1, .inr (.inl (fun _ => 0)))), (mo, .inr (15, [.int (nI 1), .ref al2, .long (lN 0), .null, .ref pf, .int (nI 0)])), (al2, .inr (4, [.int (nI 0), .ref (gE G), .int (nI 0)]))] H := hP
  have hD : va_D A [(sv, .inr (10, [.ref b, .ref sr, .ref se, .int (nI 0), .int (nI 0), .int (nI 110)])), (b, .inr (5, [.ref mm])), (mm, .inl (gyI G, 16, .inl f)), (sr, .inl (gyI G, 64, .inl g)), (se, .inl (gyI G, 16, .inl hh)), (pf, .inl (gyI G, 16, .inl pff)), (od, .inl (gyD G, 1, .inr (.inr (.inr (.inl (fun _ => 0)))))), (ho, .inr (11, [.ref al, .ref sv, .ref ts, .ref pb, .null, .int (nI 0)])), (al, .inr (4, [.int (nI 0), .ref (gE G), .int (nI 0)])), (ou, .inl (gyL G, 1, .inr (.inl (fun _ => 0)))), (mo, .inr (15, [.int (nI 1), .ref al2, .long (lN 0), .null, .ref pf, .int (nI 0)])), (al2, .inr (4, [.int (nI 0), .ref (gE G), .int (nI 0)]))] := hD
  refine lv_istore (lv' := [(7, .int r_4), (6, .int (nI 1)), (0, .ref scr), (1, .ref ho), (2, .ref mo), (3, .ref ou), (4, .ref od), (5, .int (nI 0))]) hx hb dL_law_711 hl (by decide) rfl (fun ls hl => ?_)
  refine lv_aload_n hx hb dL_law_713 rfl (lv_at hl 4 rfl) ?_
  refine fin_i hP hD hS hA [10] [0, 1, 2, 3, 4, 5, 6, 7, 8, 9, 11] (wr := [(sv, .inr (10, [.ref b, .ref sr, .ref se, .int (nI 0), .int (nI 0), .int (nI 110)])), (b, .inr (5, [.ref mm])), (mm, .inl (gyI G, 16, .inl f)), (sr, .inl (gyI G, 64, .inl g)), (se, .inl (gyI G, 16, .inl hh)), (pf, .inl (gyI G, 16, .inl pff)), (od, .inl (gyD G, 1, .inr (.inr (.inr (.inl (fun _ => 0)))))), (ho, .inr (11, [.ref al, .ref sv, .ref ts, .ref pb, .null, .int (nI 0)])), (al, .inr (4, [.int (nI 0), .ref (gE G), .int (nI 0)])), (ou, .inl (gyL G, 1, .inr (.inl (fun _ => 0)))), (al2, .inr (4, [.int (nI 0), .ref (gE G), .int (nI 0)]))]) rfl rfl (by decide) (by decide) (va_runV (As := []) (rest := []) ⟨hx, hb, hml, hown, hts⟩ (c_X10_thrown l G mo 1 al2 0 pf (nI 0) H.size) (cwV 0 hts (gV q946 q947 q948 q52 q949) rfl rfl rfl (by decide +kernel) ⟨Nat.le_of_ble_eq_true rfl, Nat.le_of_ble_eq_true rfl⟩) (preV (q0 := 10) (ci := 15) hK hE hP hD hS hA [10] rfl (by decide) rfl rfl) rfl rfl hl.1 rfl (lv_room (Nat.le_of_ble_eq_true rfl)) dL_law_714 ⟨Nat.le_of_ble_eq_true rfl, Nat.le_of_ble_eq_true rfl⟩) (fun r_6 u9 hw_5 H locs hP hD hS => ?_)
  subst hw_5
  have hP : va_P (gD G) vwCl [(sv, .inr (10, [.ref b, .ref sr, .ref se, .int (nI 0), .int (nI 0), .int (nI 110)])), (b, .inr (5, [.ref mm])), (mm, .inl (gyI G, 16, .inl f)), (sr, .inl (gyI G, 64, .inl g)), (se, .inl (gyI G, 16, .inl hh)), (pf, .inl (gyI G, 16, .inl pff)), (od, .inl (gyD G, 1, .inr (.inr (.inr (.inl (fun _ => 0)))))), (ho, .inr (11, [.ref al, .ref sv, .ref ts, .ref pb, .null, .int (nI 0)])), (al, .inr (4, [.int (nI 0), .ref (gE G), .int (nI 0)])), (ou, .inl (gyL G, 1, .inr (.inl (fun _ => 0)))), (al2, .inr (4, [.int (nI 0), .ref (gE G), .int (nI 0)])), (mo, .inr (15, [.int (nI 1), .ref al2, .long (lN 0), .null, .ref pf, .int (nI 0)]))] H := hP
  have hD : va_D A [(sv, .inr (10, [.ref b, .ref sr, .ref se, .int (nI 0), .int (nI 0), .int (nI 110)])), (b, .inr (5, [.ref mm])), (mm, .inl (gyI G, 16, .inl f)), (sr, .inl (gyI G, 64, .inl g)), (se, .inl (gyI G, 16, .inl hh)), (pf, .inl (gyI G, 16, .inl pff)), (od, .inl (gyD G, 1, .inr (.inr (.inr (.inl (fun _ => 0)))))), (ho, .inr (11, [.ref al, .ref sv, .ref ts, .ref pb, .null, .int (nI 0)])), (al, .inr (4, [.int (nI 0), .ref (gE G), .int (nI 0)])), (ou, .inl (gyL G, 1, .inr (.inl (fun _ => 0)))), (al2, .inr (4, [.int (nI 0), .ref (gE G), .int (nI 0)])), (mo, .inr (15, [.int (nI 1), .ref al2, .long (lN 0), .null, .ref pf, .int (nI 0)]))] := hD
  refine lv_iload hx hb dL_law_717 (lv_at hl 1 rfl) ?_
  refine lv_icmp_eq (tgt := 724) hx hb dL_law_719 (by decide) (fun c_7 => ?_) (fun c_7 => ?_)
  · skip
    have c_7 : 1 = 1 := (nI_eq (a := 1) (b := 1) (by omega) (by omega)).mp c_7
    refine lv_iload hx hb dL_law_724 (lv_at hl 1 rfl) ?_
    refine lv_if_ne (tgt := 741) hx hb dL_law_726 (by decide) (fun c_8 => ?_) (fun c_8 => ?_)
    · skip
      have c_8 : ¬ 1 = 0 := fun z => c_8 ((nI_eq (a := 1) (b := 0) (by omega) (by omega)).mpr z)
      refine lv_goto (tgt := 1736) hx hb dL_law_741 (by decide) ?_
      refine lv_iinc (v := nI 4) (lv' := [(5, .int (nI 4)), (7, .int r_4), (6, .int (nI 1)), (0, .ref scr), (1, .ref ho), (2, .ref mo), (3, .ref ou), (4, .ref od)]) hx hb dL_law_1736 hl (k := 7) rfl (nI_add 0 4) (by decide) rfl (fun ls hl => ?_)
      refine lv_goto (tgt := 28) hx hb dL_law_1739 (by decide) ?_
      refine lv_iload hx hb dL_law_28 (lv_at hl 0 rfl) ?_
      refine lv_aload_n hx hb dL_law_30 rfl (lv_at hl 3 rfl) ?_
      refine va_slen hx hb hX hbl hbA hS dL_law_31 ?_
      refine lv_toe (show Int32.ofNat 4 = nI 4 from rfl) ?_
      refine lv_iconst (v := nI 4) hx hb dL_law_32 (by decide) ?_
      refine lv_isub hx hb dL_law_33 ?_
      refine lv_toe (pk_sub (a := 4) (b := 4) (by omega)) ?_
      refine lv_icmp_gt (tgt := 1742) hx hb dL_law_34 (by decide) (fun c_9 => ?_) (fun c_9 => ?_)
      · skip
        have c_9 : 0 < 4 := (nI_ltI (a := 0) (b := 4) (by omega) (by omega)).mp c_9
        refine lv_iconst (v := nI 1) hx hb dL_law_1742 (by decide) ?_
        refine va_forget (fun q hq => hA2 _ (hS.2.2 q hq)) ?_
        refine W.widen (k := 607190) (n := 7280494) (Nat.le_of_ble_eq_true rfl) (Nat.le_of_ble_eq_true rfl) ?_
        exact lw_ret (d0 := s.drawn) (Drawn.sameBut.refl s.drawn lw_cs) hx hb hr hlocks dL_law_1743
      · skip
        have c_9 : ¬ 0 < 4 := fun z => c_9 ((nI_ltI (a := 0) (b := 4) (by omega) (by omega)).mpr z)
        exact absurd c_9 (by decide)
    · skip
      have c_8 : 1 = 0 := (nI_eq (a := 1) (b := 0) (by omega) (by omega)).mp c_8
      exact absurd c_8 (by decide)
  · skip
    have c_7 : ¬ 1 = 1 := fun z => c_7 ((nI_eq (a := 1) (b := 1) (by omega) (by omega)).mpr z)
    exact absurd c_7 (by decide)
set_option maxHeartbeats 4000000 in
set_option maxRecDepth 100000 in
theorem law_steps {p : Program} {e : Env} {s : State} {m : MethodId} {below : List Frame} {meth : Method} {c : Code} (l : Launch) (hst : l.stackTraces = false) {scr : Nat} {xs : Nat → Int32} (C0 : lw_At p s m meth c scr 4 xs) (G : GG) (A : Nat → Prop) (hA : ∀ q : Nat, s.heap.size ≤ q → A q) (hA2 : ∀ q : Nat, A q → s.heap.size ≤ q) (hK : va_K (gD G) vwCl (gT G) s) (hE : EV G A s s.heap) (ho al ts pb sv b mm sr se mo al2 pf ou od : Nat) (f g hh pff : Nat → Int32) (H : Heap) (locs : List Loc) (hP : va_P (gD G) vwCl [(ho, .inr (11, [.ref al, .ref sv, .ref ts, .ref pb, .null, .int (nI 0)])), (al, .inr (4, [.int (nI 0), .ref (gE G), .int (nI 0)])), (sv, .inr (10, [.ref b, .ref sr, .ref se, .int (nI 0), .int (nI 0), .int (nI 110)])), (b, .inr (5, [.ref mm])), (mm, .inl (gyI G, 16, .inl f)), (sr, .inl (gyI G, 64, .inl g)), (se, .inl (gyI G, 16, .inl hh)), (mo, .inr (15, [.int (nI 0), .ref al2, .long (lN 0), .null, .ref pf, .int (nI 0)])), (al2, .inr (4, [.int (nI 0), .ref (gE G), .int (nI 0)])), (pf, .inl (gyI G, 16, .inl pff)), (ou, .inl (gyL G, 1, .inr (.inl (fun _ => 0)))), (od, .inl (gyD G, 1, .inr (.inr (.inr (.inl (fun _ => 0))))))] H) (hD : va_D A [(ho, .inr (11, [.ref al, .ref sv, .ref ts, .ref pb, .null, .int (nI 0)])), (al, .inr (4, [.int (nI 0), .ref (gE G), .int (nI 0)])), (sv, .inr (10, [.ref b, .ref sr, .ref se, .int (nI 0), .int (nI 0), .int (nI 110)])), (b, .inr (5, [.ref mm])), (mm, .inl (gyI G, 16, .inl f)), (sr, .inl (gyI G, 64, .inl g)), (se, .inl (gyI G, 16, .inl hh)), (mo, .inr (15, [.int (nI 0), .ref al2, .long (lN 0), .null, .ref pf, .int (nI 0)])), (al2, .inr (4, [.int (nI 0), .ref (gE G), .int (nI 0)])), (pf, .inl (gyI G, 16, .inl pff)), (ou, .inl (gyL G, 1, .inr (.inl (fun _ => 0)))), (od, .inl (gyD G, 1, .inr (.inr (.inr (.inl (fun _ => 0))))))]) (hS : va_S A s.heap H locs) (ls : Array Slot) (hl : lv_has ls 9 [(0, .ref scr), (1, .ref ho), (2, .ref mo), (3, .ref ou), (4, .ref od), (5, .int (nI 0))]) : W p l e room_1 s m #[Value.ref scr] below meth c H locs 17 191 (lw_Z below #[Value.ref scr] s) (F0 m 744 ls []) := by
  obtain ⟨hx, hb, hr, hml, hown, hts0, hX, hbl, hlocks, hgv⟩ := C0
  have hown : s.vm.findClass "PegboardryLaw" = some m.cls := hown
  have hts : ∀ w ∈ WW, w.before #[Value.ref scr] s = true := fun w hw => hts0 w (List.mem_filter.mp hw).1
  have hbA : ¬ A scr := fun z => Nat.not_le.mpr hbl (hA2 _ z)
  refine lv_aload_n hx hb dL_law_744 rfl (lv_at hl 1 rfl) ?_
  refine lv_aload_n hx hb dL_law_745 rfl (lv_at hl 0 rfl) ?_
  refine lv_iload hx hb dL_law_746 (lv_at hl 5 rfl) ?_
  refine lv_iconst (v := nI 1) hx hb dL_law_748 (by decide) ?_
  refine lv_iadd hx hb dL_law_749 ?_
  refine lv_toe (nI_add 0 1) ?_
  refine va_sld hx hb hX hbl hbA hS (vp_in_nI (n := 1) (N := 4) (by omega) (by omega)) dL_law_750 ?_
  refine lv_toe (show xs (nI (1)).toNatClampNeg = xs 1 by rw [nI_clamp (by omega)]) ?_
  refine lv_aload_n hx hb dL_law_751 rfl (lv_at hl 3 rfl) ?_
  refine fin_i hP hD hS hA [0, 1, 10] [2, 3, 4, 5, 6, 7, 8, 9, 11] (wr := [(sv, .inr (10, [.ref b, .ref sr, .ref se, .int (nI 0), .int (nI 0), .int (nI 110)])), (b, .inr (5, [.ref mm])), (mm, .inl (gyI G, 16, .inl f)), (sr, .inl (gyI G, 64, .inl g)), (se, .inl (gyI G, 16, .inl hh)), (mo, .inr (15, [.int (nI 0), .ref al2, .long (lN 0), .null, .ref pf, .int (nI 0)])), (al2, .inr (4, [.int (nI 0), .ref (gE G), .int (nI 0)])), (pf, .inl (gyI G, 16, .inl pff)), (od, .inl (gyD G, 1, .inr (.inr (.inr (.inl (fun _ => 0))))))]) rfl rfl (by decide) (by decide) (vx_runSW (As := [.ref ho, .int (xs 1), .ref ou]) (rest := []) ⟨hx, hb, hml, hown, hts⟩ (l_steps l G ho al ts pb (nI 0) sv (nI 0) (xs 1) ou (fun _ => 0) hst H.size) (vx_cwSW 3 hts (gSt q752 q753 q44 q754) rfl rfl rfl (by decide +kernel) ⟨Nat.le_of_ble_eq_true rfl, Nat.le_of_ble_eq_true rfl⟩) (preS hK hE hP hD hS hA [0, 1, 10] rfl (by decide)) rfl rfl hl.1 rfl (lv_room (Nat.le_of_ble_eq_true rfl)) dL_law_752 ⟨Nat.le_of_ble_eq_true rfl, Nat.le_of_ble_eq_true rfl⟩) (fun r_2 u9 hw_1 H locs hP hD hS => ?_)
  subst hw_1
  have hP : va_P (gD G) vwCl [(sv, .inr (10, [.ref b, .ref sr, .ref se, .int (nI 0), .int (nI 0), .int (nI 110)])), (b, .inr (5, [.ref mm])), (mm, .inl (gyI G, 16, .inl f)), (sr, .inl (gyI G, 64, .inl g)), (se, .inl (gyI G, 16, .inl hh)), (mo, .inr (15, [.int (nI 0), .ref al2, .long (lN 0), .null, .ref pf, .int (nI 0)])), (al2, .inr (4, [.int (nI 0), .ref (gE G), .int (nI 0)])), (pf, .inl (gyI G, 16, .inl pff)), (od, .inl (gyD G, 1, .inr (.inr (.inr (.inl (fun _ => 0)))))), (ho, .inr (11, [.ref al, .ref sv, .ref ts, .ref pb, .null, .int (nI 0)])), (al, .inr (4, [.int (nI 0), .ref (gE G), .int (nI 0)])), (ou, .inl (gyL G, 1, .inr (.inl (fun _ => 0))))] H := hP
  have hD : va_D A [(sv, .inr (10, [.ref b, .ref sr, .ref se, .int (nI 0), .int (nI 0), .int (nI 110)])), (b, .inr (5, [.ref mm])), (mm, .inl (gyI G, 16, .inl f)), (sr, .inl (gyI G, 64, .inl g)), (se, .inl (gyI G, 16, .inl hh)), (mo, .inr (15, [.int (nI 0), .ref al2, .long (lN 0), .null, .ref pf, .int (nI 0)])), (al2, .inr (4, [.int (nI 0), .ref (gE G), .int (nI 0)])), (pf, .inl (gyI G, 16, .inl pff)), (od, .inl (gyD G, 1, .inr (.inr (.inr (.inl (fun _ => 0)))))), (ho, .inr (11, [.ref al, .ref sv, .ref ts, .ref pb, .null, .int (nI 0)])), (al, .inr (4, [.int (nI 0), .ref (gE G), .int (nI 0)])), (ou, .inl (gyL G, 1, .inr (.inl (fun _ => 0))))] := hD
  refine lv_istore (lv' := [(6, .int (nI 1)), (0, .ref scr), (1, .ref ho), (2, .ref mo), (3, .ref ou), (4, .ref od), (5, .int (nI 0))]) hx hb dL_law_755 hl (by decide) rfl (fun ls hl => ?_)
  refine lv_aload_n hx hb dL_law_757 rfl (lv_at hl 3 rfl) ?_
  refine lv_aload_n hx hb dL_law_758 rfl (lv_at hl 1 rfl) ?_
  refine lv_iload hx hb dL_law_759 (lv_at hl 6 rfl) ?_
  refine lv_iconst (v := nI 1) hx hb dL_law_761 (by decide) ?_
  refine lv_iadd hx hb dL_law_762 ?_
  refine lv_toe (nI_add 0 1) ?_
  refine va_sld hx hb hX hbl hbA hS (vp_in_nI (n := 1) (N := 4) (by omega) (by omega)) dL_law_763 ?_
  refine lv_toe (show xs (nI (1)).toNatClampNeg = xs 1 by rw [nI_clamp (by omega)]) ?_
  refine fin_i hP hD hS hA [5, 6] [0, 1, 2, 3, 4, 7, 8, 9, 10, 11] (wr := [(sv, .inr (10, [.ref b, .ref sr, .ref se, .int (nI 0), .int (nI 0), .int (nI 110)])), (b, .inr (5, [.ref mm])), (mm, .inl (gyI G, 16, .inl f)), (sr, .inl (gyI G, 64, .inl g)), (se, .inl (gyI G, 16, .inl hh)), (pf, .inl (gyI G, 16, .inl pff)), (od, .inl (gyD G, 1, .inr (.inr (.inr (.inl (fun _ => 0)))))), (ho, .inr (11, [.ref al, .ref sv, .ref ts, .ref pb, .null, .int (nI 0)])), (al, .inr (4, [.int (nI 0), .ref (gE G), .int (nI 0)])), (ou, .inl (gyL G, 1, .inr (.inl (fun _ => 0))))]) rfl rfl (by decide) (by decide) (va_runV (As := [.int (xs 1)]) (rest := []) ⟨hx, hb, hml, hown, hts⟩ (c_X10_steps l G mo (nI 0) al2 0 pf (nI 0) (nI 0) (xs 1) H.size) (cwV 1 hts (gV q1266 q1267 q1268 q52 q1269) rfl rfl rfl (by decide +kernel) ⟨Nat.le_of_ble_eq_true rfl, Nat.le_of_ble_eq_true rfl⟩) (preV (q0 := 5) (ci := 15) hK hE hP hD hS hA [5, 6] rfl (by decide) rfl rfl) rfl rfl hl.1 rfl (lv_room (Nat.le_of_ble_eq_true rfl)) dL_law_764 ⟨Nat.le_of_ble_eq_true rfl, Nat.le_of_ble_eq_true rfl⟩) (fun r_4 u9 hw_3 H locs hP hD hS => ?_)
  have hP : va_P (gD G) vwCl [(sv, .inr (10, [.ref b, .ref sr, .ref se, .int (nI 0), .int (nI 0), .int (nI 110)])), (b, .inr (5, [.ref mm])), (mm, .inl (gyI G, 16, .inl f)), (sr, .inl (gyI G, 64, .inl g)), (se, .inl (gyI G, 16, .inl hh)), (pf, .inl (gyI G, 16, .inl pff)), (od, .inl (gyD G, 1, .inr (.inr (.inr (.inl (fun _ => 0)))))), (ho, .inr (11, [.ref al, .ref sv, .ref ts, .ref pb, .null, .int (nI 0)])), (al, .inr (4, [.int (nI 0), .ref (gE G), .int (nI 0)])), (ou, .inl (gyL G, 1, .inr (.inl (fun _ => 0)))), (mo, .inr (15, [.int (nI 1), .ref al2, .long (lN 0), .null, .ref pf, .int (nI 0)])), (al2, .inr (4, [.int (nI 0), .ref (gE G), .int (nI 0)]))] H := hP
  have hD : va_D A [(sv, .inr (10, [.ref b, .ref sr, .ref se, .int (nI 0), .int (nI 0), .int (nI 110)])), (b, .inr (5, [.ref mm])), (mm, .inl (gyI G, 16, .inl f)), (sr, .inl (gyI G, 64, .inl g)), (se, .inl (gyI G, 16, .inl hh)), (pf, .inl (gyI G, 16, .inl pff)), (od, .inl (gyD G, 1, .inr (.inr (.inr (.inl (fun _ => 0)))))), (ho, .inr (11, [.ref al, .ref sv, .ref ts, .ref pb, .null, .int (nI 0)])), (al, .inr (4, [.int (nI 0), .ref (gE G), .int (nI 0)])), (ou, .inl (gyL G, 1, .inr (.inl (fun _ => 0)))), (mo, .inr (15, [.int (nI 1), .ref al2, .long (lN 0), .null, .ref pf, .int (nI 0)])), (al2, .inr (4, [.int (nI 0), .ref (gE G), .int (nI 0)]))] := hD
  refine lv_istore (lv' := [(7, .int r_4), (6, .int (nI 1)), (0, .ref scr), (1, .ref ho), (2, .ref mo), (3, .ref ou), (4, .ref od), (5, .int (nI 0))]) hx hb dL_law_767 hl (by decide) rfl (fun ls hl => ?_)
  refine lv_aload_n hx hb dL_law_769 rfl (lv_at hl 4 rfl) ?_
  refine fin_i hP hD hS hA [10] [0, 1, 2, 3, 4, 5, 6, 7, 8, 9, 11] (wr := [(sv, .inr (10, [.ref b, .ref sr, .ref se, .int (nI 0), .int (nI 0), .int (nI 110)])), (b, .inr (5, [.ref mm])), (mm, .inl (gyI G, 16, .inl f)), (sr, .inl (gyI G, 64, .inl g)), (se, .inl (gyI G, 16, .inl hh)), (pf, .inl (gyI G, 16, .inl pff)), (od, .inl (gyD G, 1, .inr (.inr (.inr (.inl (fun _ => 0)))))), (ho, .inr (11, [.ref al, .ref sv, .ref ts, .ref pb, .null, .int (nI 0)])), (al, .inr (4, [.int (nI 0), .ref (gE G), .int (nI 0)])), (ou, .inl (gyL G, 1, .inr (.inl (fun _ => 0)))), (al2, .inr (4, [.int (nI 0), .ref (gE G), .int (nI 0)]))]) rfl rfl (by decide) (by decide) (va_runV (As := []) (rest := []) ⟨hx, hb, hml, hown, hts⟩ (c_X10_thrown l G mo 1 al2 0 pf (nI 0) H.size) (cwV 0 hts (gV q946 q947 q948 q52 q949) rfl rfl rfl (by decide +kernel) ⟨Nat.le_of_ble_eq_true rfl, Nat.le_of_ble_eq_true rfl⟩) (preV (q0 := 10) (ci := 15) hK hE hP hD hS hA [10] rfl (by decide) rfl rfl) rfl rfl hl.1 rfl (lv_room (Nat.le_of_ble_eq_true rfl)) dL_law_770 ⟨Nat.le_of_ble_eq_true rfl, Nat.le_of_ble_eq_true rfl⟩) (fun r_6 u9 hw_5 H locs hP hD hS => ?_)
  subst hw_5
  have hP : va_P (gD G) vwCl [(sv, .inr (10, [.ref b, .ref sr, .ref se, .int (nI 0), .int (nI 0), .int (nI 110)])), (b, .inr (5, [.ref mm])), (mm, .inl (gyI G, 16, .inl f)), (sr, .inl (gyI G, 64, .inl g)), (se, .inl (gyI G, 16, .inl hh)), (pf, .inl (gyI G, 16, .inl pff)), (od, .inl (gyD G, 1, .inr (.inr (.inr (.inl (fun _ => 0)))))), (ho, .inr (11, [.ref al, .ref sv, .ref ts, .ref pb, .null, .int (nI 0)])), (al, .inr (4, [.int (nI 0), .ref (gE G), .int (nI 0)])), (ou, .inl (gyL G, 1, .inr (.inl (fun _ => 0)))), (al2, .inr (4, [.int (nI 0), .ref (gE G), .int (nI 0)])), (mo, .inr (15, [.int (nI 1), .ref al2, .long (lN 0), .null, .ref pf, .int (nI 0)]))] H := hP
  have hD : va_D A [(sv, .inr (10, [.ref b, .ref sr, .ref se, .int (nI 0), .int (nI 0), .int (nI 110)])), (b, .inr (5, [.ref mm])), (mm, .inl (gyI G, 16, .inl f)), (sr, .inl (gyI G, 64, .inl g)), (se, .inl (gyI G, 16, .inl hh)), (pf, .inl (gyI G, 16, .inl pff)), (od, .inl (gyD G, 1, .inr (.inr (.inr (.inl (fun _ => 0)))))), (ho, .inr (11, [.ref al, .ref sv, .ref ts, .ref pb, .null, .int (nI 0)])), (al, .inr (4, [.int (nI 0), .ref (gE G), .int (nI 0)])), (ou, .inl (gyL G, 1, .inr (.inl (fun _ => 0)))), (al2, .inr (4, [.int (nI 0), .ref (gE G), .int (nI 0)])), (mo, .inr (15, [.int (nI 1), .ref al2, .long (lN 0), .null, .ref pf, .int (nI 0)]))] := hD
  refine lv_iload hx hb dL_law_773 (lv_at hl 1 rfl) ?_
  refine lv_icmp_eq (tgt := 780) hx hb dL_law_775 (by decide) (fun c_7 => ?_) (fun c_7 => ?_)
  · skip
    have c_7 : 1 = 1 := (nI_eq (a := 1) (b := 1) (by omega) (by omega)).mp c_7
    refine lv_iload hx hb dL_law_780 (lv_at hl 1 rfl) ?_
    refine lv_if_ne (tgt := 797) hx hb dL_law_782 (by decide) (fun c_8 => ?_) (fun c_8 => ?_)
    · skip
      have c_8 : ¬ 1 = 0 := fun z => c_8 ((nI_eq (a := 1) (b := 0) (by omega) (by omega)).mpr z)
      refine lv_goto (tgt := 1736) hx hb dL_law_797 (by decide) ?_
      refine lv_iinc (v := nI 4) (lv' := [(5, .int (nI 4)), (7, .int r_4), (6, .int (nI 1)), (0, .ref scr), (1, .ref ho), (2, .ref mo), (3, .ref ou), (4, .ref od)]) hx hb dL_law_1736 hl (k := 7) rfl (nI_add 0 4) (by decide) rfl (fun ls hl => ?_)
      refine lv_goto (tgt := 28) hx hb dL_law_1739 (by decide) ?_
      refine lv_iload hx hb dL_law_28 (lv_at hl 0 rfl) ?_
      refine lv_aload_n hx hb dL_law_30 rfl (lv_at hl 3 rfl) ?_
      refine va_slen hx hb hX hbl hbA hS dL_law_31 ?_
      refine lv_toe (show Int32.ofNat 4 = nI 4 from rfl) ?_
      refine lv_iconst (v := nI 4) hx hb dL_law_32 (by decide) ?_
      refine lv_isub hx hb dL_law_33 ?_
      refine lv_toe (pk_sub (a := 4) (b := 4) (by omega)) ?_
      refine lv_icmp_gt (tgt := 1742) hx hb dL_law_34 (by decide) (fun c_9 => ?_) (fun c_9 => ?_)
      · skip
        have c_9 : 0 < 4 := (nI_ltI (a := 0) (b := 4) (by omega) (by omega)).mp c_9
        refine lv_iconst (v := nI 1) hx hb dL_law_1742 (by decide) ?_
        refine va_forget (fun q hq => hA2 _ (hS.2.2 q hq)) ?_
        refine W.widen (k := 607190) (n := 7280494) (Nat.le_of_ble_eq_true rfl) (Nat.le_of_ble_eq_true rfl) ?_
        exact lw_ret (d0 := s.drawn) (Drawn.sameBut.refl s.drawn lw_cs) hx hb hr hlocks dL_law_1743
      · skip
        have c_9 : ¬ 0 < 4 := fun z => c_9 ((nI_ltI (a := 0) (b := 4) (by omega) (by omega)).mpr z)
        exact absurd c_9 (by decide)
    · skip
      have c_8 : 1 = 0 := (nI_eq (a := 1) (b := 0) (by omega) (by omega)).mp c_8
      exact absurd c_8 (by decide)
  · skip
    have c_7 : ¬ 1 = 1 := fun z => c_7 ((nI_eq (a := 1) (b := 1) (by omega) (by omega)).mpr z)
    exact absurd c_7 (by decide)
set_option maxHeartbeats 4000000 in
set_option maxRecDepth 100000 in
theorem law_stepAt {p : Program} {e : Env} {s : State} {m : MethodId} {below : List Frame} {meth : Method} {c : Code} (l : Launch) (hst : l.stackTraces = false) {scr : Nat} {xs : Nat → Int32} (C0 : lw_At p s m meth c scr 4 xs) (G : GG) (A : Nat → Prop) (hA : ∀ q : Nat, s.heap.size ≤ q → A q) (hA2 : ∀ q : Nat, A q → s.heap.size ≤ q) (hK : va_K (gD G) vwCl (gT G) s) (hE : EV G A s s.heap) (ho al ts pb sv b mm sr se mo al2 pf ou od : Nat) (f g hh pff : Nat → Int32) (H : Heap) (locs : List Loc) (hP : va_P (gD G) vwCl [(ho, .inr (11, [.ref al, .ref sv, .ref ts, .ref pb, .null, .int (nI 0)])), (al, .inr (4, [.int (nI 0), .ref (gE G), .int (nI 0)])), (sv, .inr (10, [.ref b, .ref sr, .ref se, .int (nI 0), .int (nI 0), .int (nI 110)])), (b, .inr (5, [.ref mm])), (mm, .inl (gyI G, 16, .inl f)), (sr, .inl (gyI G, 64, .inl g)), (se, .inl (gyI G, 16, .inl hh)), (mo, .inr (15, [.int (nI 0), .ref al2, .long (lN 0), .null, .ref pf, .int (nI 0)])), (al2, .inr (4, [.int (nI 0), .ref (gE G), .int (nI 0)])), (pf, .inl (gyI G, 16, .inl pff)), (ou, .inl (gyL G, 1, .inr (.inl (fun _ => 0)))), (od, .inl (gyD G, 1, .inr (.inr (.inr (.inl (fun _ => 0))))))] H) (hD : va_D A [(ho, .inr (11, [.ref al, .ref sv, .ref ts, .ref pb, .null, .int (nI 0)])), (al, .inr (4, [.int (nI 0), .ref (gE G), .int (nI 0)])), (sv, .inr (10, [.ref b, .ref sr, .ref se, .int (nI 0), .int (nI 0), .int (nI 110)])), (b, .inr (5, [.ref mm])), (mm, .inl (gyI G, 16, .inl f)), (sr, .inl (gyI G, 64, .inl g)), (se, .inl (gyI G, 16, .inl hh)), (mo, .inr (15, [.int (nI 0), .ref al2, .long (lN 0), .null, .ref pf, .int (nI 0)])), (al2, .inr (4, [.int (nI 0), .ref (gE G), .int (nI 0)])), (pf, .inl (gyI G, 16, .inl pff)), (ou, .inl (gyL G, 1, .inr (.inl (fun _ => 0)))), (od, .inl (gyD G, 1, .inr (.inr (.inr (.inl (fun _ => 0))))))]) (hS : va_S A s.heap H locs) (ls : Array Slot) (hl : lv_has ls 9 [(0, .ref scr), (1, .ref ho), (2, .ref mo), (3, .ref ou), (4, .ref od), (5, .int (nI 0))]) : W p l e room_1 s m #[Value.ref scr] below meth c H locs 17 191 (lw_Z below #[Value.ref scr] s) (F0 m 800 ls []) := by
  obtain ⟨hx, hb, hr, hml, hown, hts0, hX, hbl, hlocks, hgv⟩ := C0
  have hown : s.vm.findClass "PegboardryLaw" = some m.cls := hown
  have hts : ∀ w ∈ WW, w.before #[Value.ref scr] s = true := fun w hw => hts0 w (List.mem_filter.mp hw).1
  have hbA : ¬ A scr := fun z => Nat.not_le.mpr hbl (hA2 _ z)
  refine lv_aload_n hx hb dL_law_800 rfl (lv_at hl 1 rfl) ?_
  refine lv_aload_n hx hb dL_law_801 rfl (lv_at hl 0 rfl) ?_
  refine lv_iload hx hb dL_law_802 (lv_at hl 5 rfl) ?_
  refine lv_iconst (v := nI 1) hx hb dL_law_804 (by decide) ?_
  refine lv_iadd hx hb dL_law_805 ?_
  refine lv_toe (nI_add 0 1) ?_
  refine va_sld hx hb hX hbl hbA hS (vp_in_nI (n := 1) (N := 4) (by omega) (by omega)) dL_law_806 ?_
  refine lv_toe (show xs (nI (1)).toNatClampNeg = xs 1 by rw [nI_clamp (by omega)]) ?_
  refine lv_aload_n hx hb dL_law_807 rfl (lv_at hl 0 rfl) ?_
  refine lv_iload hx hb dL_law_808 (lv_at hl 5 rfl) ?_
  refine lv_iconst (v := nI 2) hx hb dL_law_810 (by decide) ?_
  refine lv_iadd hx hb dL_law_811 ?_
  refine lv_toe (nI_add 0 2) ?_
  refine va_sld hx hb hX hbl hbA hS (vp_in_nI (n := 2) (N := 4) (by omega) (by omega)) dL_law_812 ?_
  refine lv_toe (show xs (nI (2)).toNatClampNeg = xs 2 by rw [nI_clamp (by omega)]) ?_
  refine lv_aload_n hx hb dL_law_813 rfl (lv_at hl 3 rfl) ?_
  refine fin_i hP hD hS hA [0, 1, 10] [2, 3, 4, 5, 6, 7, 8, 9, 11] (wr := [(sv, .inr (10, [.ref b, .ref sr, .ref se, .int (nI 0), .int (nI 0), .int (nI 110)])), (b, .inr (5, [.ref mm])), (mm, .inl (gyI G, 16, .inl f)), (sr, .inl (gyI G, 64, .inl g)), (se, .inl (gyI G, 16, .inl hh)), (mo, .inr (15, [.int (nI 0), .ref al2, .long (lN 0), .null, .ref pf, .int (nI 0)])), (al2, .inr (4, [.int (nI 0), .ref (gE G), .int (nI 0)])), (pf, .inl (gyI G, 16, .inl pff)), (od, .inl (gyD G, 1, .inr (.inr (.inr (.inl (fun _ => 0))))))]) rfl rfl (by decide) (by decide) (vx_runSW (As := [.ref ho, .int (xs 1), .int (xs 2), .ref ou]) (rest := []) ⟨hx, hb, hml, hown, hts⟩ (l_stepAt l G ho al ts pb (nI 0) sv (nI 0) (xs 1) (xs 2) ou (fun _ => 0) hst H.size) (vx_cwSW 4 hts (gSt q759 q760 q44 q761) rfl rfl rfl (by decide +kernel) ⟨Nat.le_of_ble_eq_true rfl, Nat.le_of_ble_eq_true rfl⟩) (preS hK hE hP hD hS hA [0, 1, 10] rfl (by decide)) rfl rfl hl.1 rfl (lv_room (Nat.le_of_ble_eq_true rfl)) dL_law_814 ⟨Nat.le_of_ble_eq_true rfl, Nat.le_of_ble_eq_true rfl⟩) (fun r_2 u9 hw_1 H locs hP hD hS => ?_)
  subst hw_1
  have hP : va_P (gD G) vwCl [(sv, .inr (10, [.ref b, .ref sr, .ref se, .int (nI 0), .int (nI 0), .int (nI 110)])), (b, .inr (5, [.ref mm])), (mm, .inl (gyI G, 16, .inl f)), (sr, .inl (gyI G, 64, .inl g)), (se, .inl (gyI G, 16, .inl hh)), (mo, .inr (15, [.int (nI 0), .ref al2, .long (lN 0), .null, .ref pf, .int (nI 0)])), (al2, .inr (4, [.int (nI 0), .ref (gE G), .int (nI 0)])), (pf, .inl (gyI G, 16, .inl pff)), (od, .inl (gyD G, 1, .inr (.inr (.inr (.inl (fun _ => 0)))))), (ho, .inr (11, [.ref al, .ref sv, .ref ts, .ref pb, .null, .int (nI 0)])), (al, .inr (4, [.int (nI 0), .ref (gE G), .int (nI 0)])), (ou, .inl (gyL G, 1, .inr (.inl (fun _ => 0))))] H := hP
  have hD : va_D A [(sv, .inr (10, [.ref b, .ref sr, .ref se, .int (nI 0), .int (nI 0), .int (nI 110)])), (b, .inr (5, [.ref mm])), (mm, .inl (gyI G, 16, .inl f)), (sr, .inl (gyI G, 64, .inl g)), (se, .inl (gyI G, 16, .inl hh)), (mo, .inr (15, [.int (nI 0), .ref al2, .long (lN 0), .null, .ref pf, .int (nI 0)])), (al2, .inr (4, [.int (nI 0), .ref (gE G), .int (nI 0)])), (pf, .inl (gyI G, 16, .inl pff)), (od, .inl (gyD G, 1, .inr (.inr (.inr (.inl (fun _ => 0)))))), (ho, .inr (11, [.ref al, .ref sv, .ref ts, .ref pb, .null, .int (nI 0)])), (al, .inr (4, [.int (nI 0), .ref (gE G), .int (nI 0)])), (ou, .inl (gyL G, 1, .inr (.inl (fun _ => 0))))] := hD
  refine lv_istore (lv' := [(6, .int (nI 1)), (0, .ref scr), (1, .ref ho), (2, .ref mo), (3, .ref ou), (4, .ref od), (5, .int (nI 0))]) hx hb dL_law_817 hl (by decide) rfl (fun ls hl => ?_)
  refine lv_aload_n hx hb dL_law_819 rfl (lv_at hl 3 rfl) ?_
  refine lv_aload_n hx hb dL_law_820 rfl (lv_at hl 1 rfl) ?_
  refine lv_iload hx hb dL_law_821 (lv_at hl 6 rfl) ?_
  refine lv_iconst (v := nI 1) hx hb dL_law_823 (by decide) ?_
  refine lv_iadd hx hb dL_law_824 ?_
  refine lv_toe (nI_add 0 1) ?_
  refine va_sld hx hb hX hbl hbA hS (vp_in_nI (n := 1) (N := 4) (by omega) (by omega)) dL_law_825 ?_
  refine lv_toe (show xs (nI (1)).toNatClampNeg = xs 1 by rw [nI_clamp (by omega)]) ?_
  refine lv_aload_n hx hb dL_law_826 rfl (lv_at hl 1 rfl) ?_
  refine lv_iload hx hb dL_law_827 (lv_at hl 6 rfl) ?_
  refine lv_iconst (v := nI 2) hx hb dL_law_829 (by decide) ?_
  refine lv_iadd hx hb dL_law_830 ?_
  refine lv_toe (nI_add 0 2) ?_
  refine va_sld hx hb hX hbl hbA hS (vp_in_nI (n := 2) (N := 4) (by omega) (by omega)) dL_law_831 ?_
  refine lv_toe (show xs (nI (2)).toNatClampNeg = xs 2 by rw [nI_clamp (by omega)]) ?_
  refine fin_i hP hD hS hA [5, 6] [0, 1, 2, 3, 4, 7, 8, 9, 10, 11] (wr := [(sv, .inr (10, [.ref b, .ref sr, .ref se, .int (nI 0), .int (nI 0), .int (nI 110)])), (b, .inr (5, [.ref mm])), (mm, .inl (gyI G, 16, .inl f)), (sr, .inl (gyI G, 64, .inl g)), (se, .inl (gyI G, 16, .inl hh)), (pf, .inl (gyI G, 16, .inl pff)), (od, .inl (gyD G, 1, .inr (.inr (.inr (.inl (fun _ => 0)))))), (ho, .inr (11, [.ref al, .ref sv, .ref ts, .ref pb, .null, .int (nI 0)])), (al, .inr (4, [.int (nI 0), .ref (gE G), .int (nI 0)])), (ou, .inl (gyL G, 1, .inr (.inl (fun _ => 0))))]) rfl rfl (by decide) (by decide) (va_runV (As := [.int (xs 1), .int (xs 2)]) (rest := []) ⟨hx, hb, hml, hown, hts⟩ (c_X10_stepAt l G mo (nI 0) al2 0 pf (nI 0) (nI 0) (xs 1) (xs 2) H.size) (cwV 2 hts (gV q1270 q1271 q1272 q52 q1273) rfl rfl rfl (by decide +kernel) ⟨Nat.le_of_ble_eq_true rfl, Nat.le_of_ble_eq_true rfl⟩) (preV (q0 := 5) (ci := 15) hK hE hP hD hS hA [5, 6] rfl (by decide) rfl rfl) rfl rfl hl.1 rfl (lv_room (Nat.le_of_ble_eq_true rfl)) dL_law_832 ⟨Nat.le_of_ble_eq_true rfl, Nat.le_of_ble_eq_true rfl⟩) (fun r_4 u9 hw_3 H locs hP hD hS => ?_)
  have hP : va_P (gD G) vwCl [(sv, .inr (10, [.ref b, .ref sr, .ref se, .int (nI 0), .int (nI 0), .int (nI 110)])), (b, .inr (5, [.ref mm])), (mm, .inl (gyI G, 16, .inl f)), (sr, .inl (gyI G, 64, .inl g)), (se, .inl (gyI G, 16, .inl hh)), (pf, .inl (gyI G, 16, .inl pff)), (od, .inl (gyD G, 1, .inr (.inr (.inr (.inl (fun _ => 0)))))), (ho, .inr (11, [.ref al, .ref sv, .ref ts, .ref pb, .null, .int (nI 0)])), (al, .inr (4, [.int (nI 0), .ref (gE G), .int (nI 0)])), (ou, .inl (gyL G, 1, .inr (.inl (fun _ => 0)))), (mo, .inr (15, [.int (nI 1), .ref al2, .long (lN 0), .null, .ref pf, .int (nI 0)])), (al2, .inr (4, [.int (nI 0), .ref (gE G), .int (nI 0)]))] H := hP
  have hD : va_D A [(sv, .inr (10, [.ref b, .ref sr, .ref se, .int (nI 0), .int (nI 0), .int (nI 110)])), (b, .inr (5, [.ref mm])), (mm, .inl (gyI G, 16, .inl f)), (sr, .inl (gyI G, 64, .inl g)), (se, .inl (gyI G, 16, .inl hh)), (pf, .inl (gyI G, 16, .inl pff)), (od, .inl (gyD G, 1, .inr (.inr (.inr (.inl (fun _ => 0)))))), (ho, .inr (11, [.ref al, .ref sv, .ref ts, .ref pb, .null, .int (nI 0)])), (al, .inr (4, [.int (nI 0), .ref (gE G), .int (nI 0)])), (ou, .inl (gyL G, 1, .inr (.inl (fun _ => 0)))), (mo, .inr (15, [.int (nI 1), .ref al2, .long (lN 0), .null, .ref pf, .int (nI 0)])), (al2, .inr (4, [.int (nI 0), .ref (gE G), .int (nI 0)]))] := hD
  refine lv_istore (lv' := [(7, .int r_4), (6, .int (nI 1)), (0, .ref scr), (1, .ref ho), (2, .ref mo), (3, .ref ou), (4, .ref od), (5, .int (nI 0))]) hx hb dL_law_835 hl (by decide) rfl (fun ls hl => ?_)
  refine lv_aload_n hx hb dL_law_837 rfl (lv_at hl 4 rfl) ?_
  refine fin_i hP hD hS hA [10] [0, 1, 2, 3, 4, 5, 6, 7, 8, 9, 11] (wr := [(sv, .inr (10, [.ref b, .ref sr, .ref se, .int (nI 0), .int (nI 0), .int (nI 110)])), (b, .inr (5, [.ref mm])), (mm, .inl (gyI G, 16, .inl f)), (sr, .inl (gyI G, 64, .inl g)), (se, .inl (gyI G, 16, .inl hh)), (pf, .inl (gyI G, 16, .inl pff)), (od, .inl (gyD G, 1, .inr (.inr (.inr (.inl (fun _ => 0)))))), (ho, .inr (11, [.ref al, .ref sv, .ref ts, .ref pb, .null, .int (nI 0)])), (al, .inr (4, [.int (nI 0), .ref (gE G), .int (nI 0)])), (ou, .inl (gyL G, 1, .inr (.inl (fun _ => 0)))), (al2, .inr (4, [.int (nI 0), .ref (gE G), .int (nI 0)]))]) rfl rfl (by decide) (by decide) (va_runV (As := []) (rest := []) ⟨hx, hb, hml, hown, hts⟩ (c_X10_thrown l G mo 1 al2 0 pf (nI 0) H.size) (cwV 0 hts (gV q946 q947 q948 q52 q949) rfl rfl rfl (by decide +kernel) ⟨Nat.le_of_ble_eq_true rfl, Nat.le_of_ble_eq_true rfl⟩) (preV (q0 := 10) (ci := 15) hK hE hP hD hS hA [10] rfl (by decide) rfl rfl) rfl rfl hl.1 rfl (lv_room (Nat.le_of_ble_eq_true rfl)) dL_law_838 ⟨Nat.le_of_ble_eq_true rfl, Nat.le_of_ble_eq_true rfl⟩) (fun r_6 u9 hw_5 H locs hP hD hS => ?_)
  subst hw_5
  have hP : va_P (gD G) vwCl [(sv, .inr (10, [.ref b, .ref sr, .ref se, .int (nI 0), .int (nI 0), .int (nI 110)])), (b, .inr (5, [.ref mm])), (mm, .inl (gyI G, 16, .inl f)), (sr, .inl (gyI G, 64, .inl g)), (se, .inl (gyI G, 16, .inl hh)), (pf, .inl (gyI G, 16, .inl pff)), (od, .inl (gyD G, 1, .inr (.inr (.inr (.inl (fun _ => 0)))))), (ho, .inr (11, [.ref al, .ref sv, .ref ts, .ref pb, .null, .int (nI 0)])), (al, .inr (4, [.int (nI 0), .ref (gE G), .int (nI 0)])), (ou, .inl (gyL G, 1, .inr (.inl (fun _ => 0)))), (al2, .inr (4, [.int (nI 0), .ref (gE G), .int (nI 0)])), (mo, .inr (15, [.int (nI 1), .ref al2, .long (lN 0), .null, .ref pf, .int (nI 0)]))] H := hP
  have hD : va_D A [(sv, .inr (10, [.ref b, .ref sr, .ref se, .int (nI 0), .int (nI 0), .int (nI 110)])), (b, .inr (5, [.ref mm])), (mm, .inl (gyI G, 16, .inl f)), (sr, .inl (gyI G, 64, .inl g)), (se, .inl (gyI G, 16, .inl hh)), (pf, .inl (gyI G, 16, .inl pff)), (od, .inl (gyD G, 1, .inr (.inr (.inr (.inl (fun _ => 0)))))), (ho, .inr (11, [.ref al, .ref sv, .ref ts, .ref pb, .null, .int (nI 0)])), (al, .inr (4, [.int (nI 0), .ref (gE G), .int (nI 0)])), (ou, .inl (gyL G, 1, .inr (.inl (fun _ => 0)))), (al2, .inr (4, [.int (nI 0), .ref (gE G), .int (nI 0)])), (mo, .inr (15, [.int (nI 1), .ref al2, .long (lN 0), .null, .ref pf, .int (nI 0)]))] := hD
  refine lv_iload hx hb dL_law_841 (lv_at hl 1 rfl) ?_
  refine lv_icmp_eq (tgt := 848) hx hb dL_law_843 (by decide) (fun c_7 => ?_) (fun c_7 => ?_)
  · skip
    have c_7 : 1 = 1 := (nI_eq (a := 1) (b := 1) (by omega) (by omega)).mp c_7
    refine lv_iload hx hb dL_law_848 (lv_at hl 1 rfl) ?_
    refine lv_if_ne (tgt := 865) hx hb dL_law_850 (by decide) (fun c_8 => ?_) (fun c_8 => ?_)
    · skip
      have c_8 : ¬ 1 = 0 := fun z => c_8 ((nI_eq (a := 1) (b := 0) (by omega) (by omega)).mpr z)
      refine lv_goto (tgt := 1736) hx hb dL_law_865 (by decide) ?_
      refine lv_iinc (v := nI 4) (lv' := [(5, .int (nI 4)), (7, .int r_4), (6, .int (nI 1)), (0, .ref scr), (1, .ref ho), (2, .ref mo), (3, .ref ou), (4, .ref od)]) hx hb dL_law_1736 hl (k := 7) rfl (nI_add 0 4) (by decide) rfl (fun ls hl => ?_)
      refine lv_goto (tgt := 28) hx hb dL_law_1739 (by decide) ?_
      refine lv_iload hx hb dL_law_28 (lv_at hl 0 rfl) ?_
      refine lv_aload_n hx hb dL_law_30 rfl (lv_at hl 3 rfl) ?_
      refine va_slen hx hb hX hbl hbA hS dL_law_31 ?_
      refine lv_toe (show Int32.ofNat 4 = nI 4 from rfl) ?_
      refine lv_iconst (v := nI 4) hx hb dL_law_32 (by decide) ?_
      refine lv_isub hx hb dL_law_33 ?_
      refine lv_toe (pk_sub (a := 4) (b := 4) (by omega)) ?_
      refine lv_icmp_gt (tgt := 1742) hx hb dL_law_34 (by decide) (fun c_9 => ?_) (fun c_9 => ?_)
      · skip
        have c_9 : 0 < 4 := (nI_ltI (a := 0) (b := 4) (by omega) (by omega)).mp c_9
        refine lv_iconst (v := nI 1) hx hb dL_law_1742 (by decide) ?_
        refine va_forget (fun q hq => hA2 _ (hS.2.2 q hq)) ?_
        refine W.widen (k := 607190) (n := 7280494) (Nat.le_of_ble_eq_true rfl) (Nat.le_of_ble_eq_true rfl) ?_
        exact lw_ret (d0 := s.drawn) (Drawn.sameBut.refl s.drawn lw_cs) hx hb hr hlocks dL_law_1743
      · skip
        have c_9 : ¬ 0 < 4 := fun z => c_9 ((nI_ltI (a := 0) (b := 4) (by omega) (by omega)).mpr z)
        exact absurd c_9 (by decide)
    · skip
      have c_8 : 1 = 0 := (nI_eq (a := 1) (b := 0) (by omega) (by omega)).mp c_8
      exact absurd c_8 (by decide)
  · skip
    have c_7 : ¬ 1 = 1 := fun z => c_7 ((nI_eq (a := 1) (b := 1) (by omega) (by omega)).mpr z)
    exact absurd c_7 (by decide)
set_option maxHeartbeats 4000000 in
set_option maxRecDepth 100000 in
theorem law_grade {p : Program} {e : Env} {s : State} {m : MethodId} {below : List Frame} {meth : Method} {c : Code} (l : Launch) (hst : l.stackTraces = false) {scr : Nat} {xs : Nat → Int32} (C0 : lw_At p s m meth c scr 4 xs) (G : GG) (A : Nat → Prop) (hA : ∀ q : Nat, s.heap.size ≤ q → A q) (hA2 : ∀ q : Nat, A q → s.heap.size ≤ q) (hK : va_K (gD G) vwCl (gT G) s) (hE : EV G A s s.heap) (ho al ts pb sv b mm sr se mo al2 pf ou od : Nat) (f g hh pff : Nat → Int32) (H : Heap) (locs : List Loc) (hP : va_P (gD G) vwCl [(ho, .inr (11, [.ref al, .ref sv, .ref ts, .ref pb, .null, .int (nI 0)])), (al, .inr (4, [.int (nI 0), .ref (gE G), .int (nI 0)])), (sv, .inr (10, [.ref b, .ref sr, .ref se, .int (nI 0), .int (nI 0), .int (nI 110)])), (b, .inr (5, [.ref mm])), (mm, .inl (gyI G, 16, .inl f)), (sr, .inl (gyI G, 64, .inl g)), (se, .inl (gyI G, 16, .inl hh)), (mo, .inr (15, [.int (nI 0), .ref al2, .long (lN 0), .null, .ref pf, .int (nI 0)])), (al2, .inr (4, [.int (nI 0), .ref (gE G), .int (nI 0)])), (pf, .inl (gyI G, 16, .inl pff)), (ou, .inl (gyL G, 1, .inr (.inl (fun _ => 0)))), (od, .inl (gyD G, 1, .inr (.inr (.inr (.inl (fun _ => 0))))))] H) (hD : va_D A [(ho, .inr (11, [.ref al, .ref sv, .ref ts, .ref pb, .null, .int (nI 0)])), (al, .inr (4, [.int (nI 0), .ref (gE G), .int (nI 0)])), (sv, .inr (10, [.ref b, .ref sr, .ref se, .int (nI 0), .int (nI 0), .int (nI 110)])), (b, .inr (5, [.ref mm])), (mm, .inl (gyI G, 16, .inl f)), (sr, .inl (gyI G, 64, .inl g)), (se, .inl (gyI G, 16, .inl hh)), (mo, .inr (15, [.int (nI 0), .ref al2, .long (lN 0), .null, .ref pf, .int (nI 0)])), (al2, .inr (4, [.int (nI 0), .ref (gE G), .int (nI 0)])), (pf, .inl (gyI G, 16, .inl pff)), (ou, .inl (gyL G, 1, .inr (.inl (fun _ => 0)))), (od, .inl (gyD G, 1, .inr (.inr (.inr (.inl (fun _ => 0))))))]) (hS : va_S A s.heap H locs) (ls : Array Slot) (hl : lv_has ls 9 [(0, .ref scr), (1, .ref ho), (2, .ref mo), (3, .ref ou), (4, .ref od), (5, .int (nI 0))]) : W p l e room_1 s m #[Value.ref scr] below meth c H locs 17 191 (lw_Z below #[Value.ref scr] s) (F0 m 868 ls []) := by
  obtain ⟨hx, hb, hr, hml, hown, hts0, hX, hbl, hlocks, hgv⟩ := C0
  have hown : s.vm.findClass "PegboardryLaw" = some m.cls := hown
  have hts : ∀ w ∈ WW, w.before #[Value.ref scr] s = true := fun w hw => hts0 w (List.mem_filter.mp hw).1
  have hbA : ¬ A scr := fun z => Nat.not_le.mpr hbl (hA2 _ z)
  refine lv_aload_n hx hb dL_law_868 rfl (lv_at hl 1 rfl) ?_
  refine lv_aload_n hx hb dL_law_869 rfl (lv_at hl 0 rfl) ?_
  refine lv_iload hx hb dL_law_870 (lv_at hl 5 rfl) ?_
  refine lv_iconst (v := nI 1) hx hb dL_law_872 (by decide) ?_
  refine lv_iadd hx hb dL_law_873 ?_
  refine lv_toe (nI_add 0 1) ?_
  refine va_sld hx hb hX hbl hbA hS (vp_in_nI (n := 1) (N := 4) (by omega) (by omega)) dL_law_874 ?_
  refine lv_toe (show xs (nI (1)).toNatClampNeg = xs 1 by rw [nI_clamp (by omega)]) ?_
  refine lv_aload_n hx hb dL_law_875 rfl (lv_at hl 3 rfl) ?_
  refine fin_i hP hD hS hA [0, 1, 10] [2, 3, 4, 5, 6, 7, 8, 9, 11] (wr := [(sv, .inr (10, [.ref b, .ref sr, .ref se, .int (nI 0), .int (nI 0), .int (nI 110)])), (b, .inr (5, [.ref mm])), (mm, .inl (gyI G, 16, .inl f)), (sr, .inl (gyI G, 64, .inl g)), (se, .inl (gyI G, 16, .inl hh)), (mo, .inr (15, [.int (nI 0), .ref al2, .long (lN 0), .null, .ref pf, .int (nI 0)])), (al2, .inr (4, [.int (nI 0), .ref (gE G), .int (nI 0)])), (pf, .inl (gyI G, 16, .inl pff)), (od, .inl (gyD G, 1, .inr (.inr (.inr (.inl (fun _ => 0))))))]) rfl rfl (by decide) (by decide) (vx_runSW (As := [.ref ho, .int (xs 1), .ref ou]) (rest := []) ⟨hx, hb, hml, hown, hts⟩ (l_grade l G ho al ts pb (nI 0) sv (nI 0) (xs 1) ou (fun _ => 0) hst H.size) (vx_cwSW 3 hts (gSt q767 q768 q44 q769) rfl rfl rfl (by decide +kernel) ⟨Nat.le_of_ble_eq_true rfl, Nat.le_of_ble_eq_true rfl⟩) (preS hK hE hP hD hS hA [0, 1, 10] rfl (by decide)) rfl rfl hl.1 rfl (lv_room (Nat.le_of_ble_eq_true rfl)) dL_law_876 ⟨Nat.le_of_ble_eq_true rfl, Nat.le_of_ble_eq_true rfl⟩) (fun r_2 u9 hw_1 H locs hP hD hS => ?_)
  subst hw_1
  have hP : va_P (gD G) vwCl [(sv, .inr (10, [.ref b, .ref sr, .ref se, .int (nI 0), .int (nI 0), .int (nI 110)])), (b, .inr (5, [.ref mm])), (mm, .inl (gyI G, 16, .inl f)), (sr, .inl (gyI G, 64, .inl g)), (se, .inl (gyI G, 16, .inl hh)), (mo, .inr (15, [.int (nI 0), .ref al2, .long (lN 0), .null, .ref pf, .int (nI 0)])), (al2, .inr (4, [.int (nI 0), .ref (gE G), .int (nI 0)])), (pf, .inl (gyI G, 16, .inl pff)), (od, .inl (gyD G, 1, .inr (.inr (.inr (.inl (fun _ => 0)))))), (ho, .inr (11, [.ref al, .ref sv, .ref ts, .ref pb, .null, .int (nI 0)])), (al, .inr (4, [.int (nI 0), .ref (gE G), .int (nI 0)])), (ou, .inl (gyL G, 1, .inr (.inl (fun _ => 0))))] H := hP
  have hD : va_D A [(sv, .inr (10, [.ref b, .ref sr, .ref se, .int (nI 0), .int (nI 0), .int (nI 110)])), (b, .inr (5, [.ref mm])), (mm, .inl (gyI G, 16, .inl f)), (sr, .inl (gyI G, 64, .inl g)), (se, .inl (gyI G, 16, .inl hh)), (mo, .inr (15, [.int (nI 0), .ref al2, .long (lN 0), .null, .ref pf, .int (nI 0)])), (al2, .inr (4, [.int (nI 0), .ref (gE G), .int (nI 0)])), (pf, .inl (gyI G, 16, .inl pff)), (od, .inl (gyD G, 1, .inr (.inr (.inr (.inl (fun _ => 0)))))), (ho, .inr (11, [.ref al, .ref sv, .ref ts, .ref pb, .null, .int (nI 0)])), (al, .inr (4, [.int (nI 0), .ref (gE G), .int (nI 0)])), (ou, .inl (gyL G, 1, .inr (.inl (fun _ => 0))))] := hD
  refine lv_istore (lv' := [(6, .int (nI 1)), (0, .ref scr), (1, .ref ho), (2, .ref mo), (3, .ref ou), (4, .ref od), (5, .int (nI 0))]) hx hb dL_law_879 hl (by decide) rfl (fun ls hl => ?_)
  refine lv_aload_n hx hb dL_law_881 rfl (lv_at hl 3 rfl) ?_
  refine lv_aload_n hx hb dL_law_882 rfl (lv_at hl 1 rfl) ?_
  refine lv_iload hx hb dL_law_883 (lv_at hl 6 rfl) ?_
  refine lv_iconst (v := nI 1) hx hb dL_law_885 (by decide) ?_
  refine lv_iadd hx hb dL_law_886 ?_
  refine lv_toe (nI_add 0 1) ?_
  refine va_sld hx hb hX hbl hbA hS (vp_in_nI (n := 1) (N := 4) (by omega) (by omega)) dL_law_887 ?_
  refine lv_toe (show xs (nI (1)).toNatClampNeg = xs 1 by rw [nI_clamp (by omega)]) ?_
  refine fin_i hP hD hS hA [5, 6] [0, 1, 2, 3, 4, 7, 8, 9, 10, 11] (wr := [(sv, .inr (10, [.ref b, .ref sr, .ref se, .int (nI 0), .int (nI 0), .int (nI 110)])), (b, .inr (5, [.ref mm])), (mm, .inl (gyI G, 16, .inl f)), (sr, .inl (gyI G, 64, .inl g)), (se, .inl (gyI G, 16, .inl hh)), (pf, .inl (gyI G, 16, .inl pff)), (od, .inl (gyD G, 1, .inr (.inr (.inr (.inl (fun _ => 0)))))), (ho, .inr (11, [.ref al, .ref sv, .ref ts, .ref pb, .null, .int (nI 0)])), (al, .inr (4, [.int (nI 0), .ref (gE G), .int (nI 0)])), (ou, .inl (gyL G, 1, .inr (.inl (fun _ => 0))))]) rfl rfl (by decide) (by decide) (va_runV (As := [.int (xs 1)]) (rest := []) ⟨hx, hb, hml, hown, hts⟩ (c_X10_grade l G mo (nI 0) al2 0 pf (nI 0) (nI 0) (xs 1) H.size) (cwV 1 hts (gV q1279 q1280 q1281 q52 q1282) rfl rfl rfl (by decide +kernel) ⟨Nat.le_of_ble_eq_true rfl, Nat.le_of_ble_eq_true rfl⟩) (preV (q0 := 5) (ci := 15) hK hE hP hD hS hA [5, 6] rfl (by decide) rfl rfl) rfl rfl hl.1 rfl (lv_room (Nat.le_of_ble_eq_true rfl)) dL_law_888 ⟨Nat.le_of_ble_eq_true rfl, Nat.le_of_ble_eq_true rfl⟩) (fun r_4 u9 hw_3 H locs hP hD hS => ?_)
  have hP : va_P (gD G) vwCl [(sv, .inr (10, [.ref b, .ref sr, .ref se, .int (nI 0), .int (nI 0), .int (nI 110)])), (b, .inr (5, [.ref mm])), (mm, .inl (gyI G, 16, .inl f)), (sr, .inl (gyI G, 64, .inl g)), (se, .inl (gyI G, 16, .inl hh)), (pf, .inl (gyI G, 16, .inl pff)), (od, .inl (gyD G, 1, .inr (.inr (.inr (.inl (fun _ => 0)))))), (ho, .inr (11, [.ref al, .ref sv, .ref ts, .ref pb, .null, .int (nI 0)])), (al, .inr (4, [.int (nI 0), .ref (gE G), .int (nI 0)])), (ou, .inl (gyL G, 1, .inr (.inl (fun _ => 0)))), (mo, .inr (15, [.int (nI 1), .ref al2, .long (lN 0), .null, .ref pf, .int (nI 0)])), (al2, .inr (4, [.int (nI 0), .ref (gE G), .int (nI 0)]))] H := hP
  have hD : va_D A [(sv, .inr (10, [.ref b, .ref sr, .ref se, .int (nI 0), .int (nI 0), .int (nI 110)])), (b, .inr (5, [.ref mm])), (mm, .inl (gyI G, 16, .inl f)), (sr, .inl (gyI G, 64, .inl g)), (se, .inl (gyI G, 16, .inl hh)), (pf, .inl (gyI G, 16, .inl pff)), (od, .inl (gyD G, 1, .inr (.inr (.inr (.inl (fun _ => 0)))))), (ho, .inr (11, [.ref al, .ref sv, .ref ts, .ref pb, .null, .int (nI 0)])), (al, .inr (4, [.int (nI 0), .ref (gE G), .int (nI 0)])), (ou, .inl (gyL G, 1, .inr (.inl (fun _ => 0)))), (mo, .inr (15, [.int (nI 1), .ref al2, .long (lN 0), .null, .ref pf, .int (nI 0)])), (al2, .inr (4, [.int (nI 0), .ref (gE G), .int (nI 0)]))] := hD
  refine lv_istore (lv' := [(7, .int r_4), (6, .int (nI 1)), (0, .ref scr), (1, .ref ho), (2, .ref mo), (3, .ref ou), (4, .ref od), (5, .int (nI 0))]) hx hb dL_law_891 hl (by decide) rfl (fun ls hl => ?_)
  refine lv_aload_n hx hb dL_law_893 rfl (lv_at hl 4 rfl) ?_
  refine fin_i hP hD hS hA [10] [0, 1, 2, 3, 4, 5, 6, 7, 8, 9, 11] (wr := [(sv, .inr (10, [.ref b, .ref sr, .ref se, .int (nI 0), .int (nI 0), .int (nI 110)])), (b, .inr (5, [.ref mm])), (mm, .inl (gyI G, 16, .inl f)), (sr, .inl (gyI G, 64, .inl g)), (se, .inl (gyI G, 16, .inl hh)), (pf, .inl (gyI G, 16, .inl pff)), (od, .inl (gyD G, 1, .inr (.inr (.inr (.inl (fun _ => 0)))))), (ho, .inr (11, [.ref al, .ref sv, .ref ts, .ref pb, .null, .int (nI 0)])), (al, .inr (4, [.int (nI 0), .ref (gE G), .int (nI 0)])), (ou, .inl (gyL G, 1, .inr (.inl (fun _ => 0)))), (al2, .inr (4, [.int (nI 0), .ref (gE G), .int (nI 0)]))]) rfl rfl (by decide) (by decide) (va_runV (As := []) (rest := []) ⟨hx, hb, hml, hown, hts⟩ (c_X10_thrown l G mo 1 al2 0 pf (nI 0) H.size) (cwV 0 hts (gV q946 q947 q948 q52 q949) rfl rfl rfl (by decide +kernel) ⟨Nat.le_of_ble_eq_true rfl, Nat.le_of_ble_eq_true rfl⟩) (preV (q0 := 10) (ci := 15) hK hE hP hD hS hA [10] rfl (by decide) rfl rfl) rfl rfl hl.1 rfl (lv_room (Nat.le_of_ble_eq_true rfl)) dL_law_894 ⟨Nat.le_of_ble_eq_true rfl, Nat.le_of_ble_eq_true rfl⟩) (fun r_6 u9 hw_5 H locs hP hD hS => ?_)
  subst hw_5
  have hP : va_P (gD G) vwCl [(sv, .inr (10, [.ref b, .ref sr, .ref se, .int (nI 0), .int (nI 0), .int (nI 110)])), (b, .inr (5, [.ref mm])), (mm, .inl (gyI G, 16, .inl f)), (sr, .inl (gyI G, 64, .inl g)), (se, .inl (gyI G, 16, .inl hh)), (pf, .inl (gyI G, 16, .inl pff)), (od, .inl (gyD G, 1, .inr (.inr (.inr (.inl (fun _ => 0)))))), (ho, .inr (11, [.ref al, .ref sv, .ref ts, .ref pb, .null, .int (nI 0)])), (al, .inr (4, [.int (nI 0), .ref (gE G), .int (nI 0)])), (ou, .inl (gyL G, 1, .inr (.inl (fun _ => 0)))), (al2, .inr (4, [.int (nI 0), .ref (gE G), .int (nI 0)])), (mo, .inr (15, [.int (nI 1), .ref al2, .long (lN 0), .null, .ref pf, .int (nI 0)]))] H := hP
  have hD : va_D A [(sv, .inr (10, [.ref b, .ref sr, .ref se, .int (nI 0), .int (nI 0), .int (nI 110)])), (b, .inr (5, [.ref mm])), (mm, .inl (gyI G, 16, .inl f)), (sr, .inl (gyI G, 64, .inl g)), (se, .inl (gyI G, 16, .inl hh)), (pf, .inl (gyI G, 16, .inl pff)), (od, .inl (gyD G, 1, .inr (.inr (.inr (.inl (fun _ => 0)))))), (ho, .inr (11, [.ref al, .ref sv, .ref ts, .ref pb, .null, .int (nI 0)])), (al, .inr (4, [.int (nI 0), .ref (gE G), .int (nI 0)])), (ou, .inl (gyL G, 1, .inr (.inl (fun _ => 0)))), (al2, .inr (4, [.int (nI 0), .ref (gE G), .int (nI 0)])), (mo, .inr (15, [.int (nI 1), .ref al2, .long (lN 0), .null, .ref pf, .int (nI 0)]))] := hD
  refine lv_iload hx hb dL_law_897 (lv_at hl 1 rfl) ?_
  refine lv_icmp_eq (tgt := 904) hx hb dL_law_899 (by decide) (fun c_7 => ?_) (fun c_7 => ?_)
  · skip
    have c_7 : 1 = 1 := (nI_eq (a := 1) (b := 1) (by omega) (by omega)).mp c_7
    refine lv_iload hx hb dL_law_904 (lv_at hl 1 rfl) ?_
    refine lv_if_ne (tgt := 921) hx hb dL_law_906 (by decide) (fun c_8 => ?_) (fun c_8 => ?_)
    · skip
      have c_8 : ¬ 1 = 0 := fun z => c_8 ((nI_eq (a := 1) (b := 0) (by omega) (by omega)).mpr z)
      refine lv_goto (tgt := 1736) hx hb dL_law_921 (by decide) ?_
      refine lv_iinc (v := nI 4) (lv' := [(5, .int (nI 4)), (7, .int r_4), (6, .int (nI 1)), (0, .ref scr), (1, .ref ho), (2, .ref mo), (3, .ref ou), (4, .ref od)]) hx hb dL_law_1736 hl (k := 7) rfl (nI_add 0 4) (by decide) rfl (fun ls hl => ?_)
      refine lv_goto (tgt := 28) hx hb dL_law_1739 (by decide) ?_
      refine lv_iload hx hb dL_law_28 (lv_at hl 0 rfl) ?_
      refine lv_aload_n hx hb dL_law_30 rfl (lv_at hl 3 rfl) ?_
      refine va_slen hx hb hX hbl hbA hS dL_law_31 ?_
      refine lv_toe (show Int32.ofNat 4 = nI 4 from rfl) ?_
      refine lv_iconst (v := nI 4) hx hb dL_law_32 (by decide) ?_
      refine lv_isub hx hb dL_law_33 ?_
      refine lv_toe (pk_sub (a := 4) (b := 4) (by omega)) ?_
      refine lv_icmp_gt (tgt := 1742) hx hb dL_law_34 (by decide) (fun c_9 => ?_) (fun c_9 => ?_)
      · skip
        have c_9 : 0 < 4 := (nI_ltI (a := 0) (b := 4) (by omega) (by omega)).mp c_9
        refine lv_iconst (v := nI 1) hx hb dL_law_1742 (by decide) ?_
        refine va_forget (fun q hq => hA2 _ (hS.2.2 q hq)) ?_
        refine W.widen (k := 607190) (n := 7280494) (Nat.le_of_ble_eq_true rfl) (Nat.le_of_ble_eq_true rfl) ?_
        exact lw_ret (d0 := s.drawn) (Drawn.sameBut.refl s.drawn lw_cs) hx hb hr hlocks dL_law_1743
      · skip
        have c_9 : ¬ 0 < 4 := fun z => c_9 ((nI_ltI (a := 0) (b := 4) (by omega) (by omega)).mpr z)
        exact absurd c_9 (by decide)
    · skip
      have c_8 : 1 = 0 := (nI_eq (a := 1) (b := 0) (by omega) (by omega)).mp c_8
      exact absurd c_8 (by decide)
  · skip
    have c_7 : ¬ 1 = 1 := fun z => c_7 ((nI_eq (a := 1) (b := 1) (by omega) (by omega)).mpr z)
    exact absurd c_7 (by decide)
set_option maxHeartbeats 4000000 in
set_option maxRecDepth 100000 in
theorem law_isMinimal {p : Program} {e : Env} {s : State} {m : MethodId} {below : List Frame} {meth : Method} {c : Code} (l : Launch) (hst : l.stackTraces = false) {scr : Nat} {xs : Nat → Int32} (C0 : lw_At p s m meth c scr 4 xs) (G : GG) (A : Nat → Prop) (hA : ∀ q : Nat, s.heap.size ≤ q → A q) (hA2 : ∀ q : Nat, A q → s.heap.size ≤ q) (hK : va_K (gD G) vwCl (gT G) s) (hE : EV G A s s.heap) (ho al ts pb sv b mm sr se mo al2 pf ou od : Nat) (f g hh pff : Nat → Int32) (H : Heap) (locs : List Loc) (hP : va_P (gD G) vwCl [(ho, .inr (11, [.ref al, .ref sv, .ref ts, .ref pb, .null, .int (nI 0)])), (al, .inr (4, [.int (nI 0), .ref (gE G), .int (nI 0)])), (sv, .inr (10, [.ref b, .ref sr, .ref se, .int (nI 0), .int (nI 0), .int (nI 110)])), (b, .inr (5, [.ref mm])), (mm, .inl (gyI G, 16, .inl f)), (sr, .inl (gyI G, 64, .inl g)), (se, .inl (gyI G, 16, .inl hh)), (mo, .inr (15, [.int (nI 0), .ref al2, .long (lN 0), .null, .ref pf, .int (nI 0)])), (al2, .inr (4, [.int (nI 0), .ref (gE G), .int (nI 0)])), (pf, .inl (gyI G, 16, .inl pff)), (ou, .inl (gyL G, 1, .inr (.inl (fun _ => 0)))), (od, .inl (gyD G, 1, .inr (.inr (.inr (.inl (fun _ => 0))))))] H) (hD : va_D A [(ho, .inr (11, [.ref al, .ref sv, .ref ts, .ref pb, .null, .int (nI 0)])), (al, .inr (4, [.int (nI 0), .ref (gE G), .int (nI 0)])), (sv, .inr (10, [.ref b, .ref sr, .ref se, .int (nI 0), .int (nI 0), .int (nI 110)])), (b, .inr (5, [.ref mm])), (mm, .inl (gyI G, 16, .inl f)), (sr, .inl (gyI G, 64, .inl g)), (se, .inl (gyI G, 16, .inl hh)), (mo, .inr (15, [.int (nI 0), .ref al2, .long (lN 0), .null, .ref pf, .int (nI 0)])), (al2, .inr (4, [.int (nI 0), .ref (gE G), .int (nI 0)])), (pf, .inl (gyI G, 16, .inl pff)), (ou, .inl (gyL G, 1, .inr (.inl (fun _ => 0)))), (od, .inl (gyD G, 1, .inr (.inr (.inr (.inl (fun _ => 0))))))]) (hS : va_S A s.heap H locs) (ls : Array Slot) (hl : lv_has ls 9 [(0, .ref scr), (1, .ref ho), (2, .ref mo), (3, .ref ou), (4, .ref od), (5, .int (nI 0))]) : W p l e room_1 s m #[Value.ref scr] below meth c H locs 17 191 (lw_Z below #[Value.ref scr] s) (F0 m 924 ls []) := by
  obtain ⟨hx, hb, hr, hml, hown, hts0, hX, hbl, hlocks, hgv⟩ := C0
  have hown : s.vm.findClass "PegboardryLaw" = some m.cls := hown
  have hts : ∀ w ∈ WW, w.before #[Value.ref scr] s = true := fun w hw => hts0 w (List.mem_filter.mp hw).1
  have hbA : ¬ A scr := fun z => Nat.not_le.mpr hbl (hA2 _ z)
  refine lv_aload_n hx hb dL_law_924 rfl (lv_at hl 1 rfl) ?_
  refine lv_aload_n hx hb dL_law_925 rfl (lv_at hl 0 rfl) ?_
  refine lv_iload hx hb dL_law_926 (lv_at hl 5 rfl) ?_
  refine lv_iconst (v := nI 1) hx hb dL_law_928 (by decide) ?_
  refine lv_iadd hx hb dL_law_929 ?_
  refine lv_toe (nI_add 0 1) ?_
  refine va_sld hx hb hX hbl hbA hS (vp_in_nI (n := 1) (N := 4) (by omega) (by omega)) dL_law_930 ?_
  refine lv_toe (show xs (nI (1)).toNatClampNeg = xs 1 by rw [nI_clamp (by omega)]) ?_
  refine lv_aload_n hx hb dL_law_931 rfl (lv_at hl 3 rfl) ?_
  refine fin_i hP hD hS hA [0, 1, 10] [2, 3, 4, 5, 6, 7, 8, 9, 11] (wr := [(sv, .inr (10, [.ref b, .ref sr, .ref se, .int (nI 0), .int (nI 0), .int (nI 110)])), (b, .inr (5, [.ref mm])), (mm, .inl (gyI G, 16, .inl f)), (sr, .inl (gyI G, 64, .inl g)), (se, .inl (gyI G, 16, .inl hh)), (mo, .inr (15, [.int (nI 0), .ref al2, .long (lN 0), .null, .ref pf, .int (nI 0)])), (al2, .inr (4, [.int (nI 0), .ref (gE G), .int (nI 0)])), (pf, .inl (gyI G, 16, .inl pff)), (od, .inl (gyD G, 1, .inr (.inr (.inr (.inl (fun _ => 0))))))]) rfl rfl (by decide) (by decide) (vx_runSW (As := [.ref ho, .int (xs 1), .ref ou]) (rest := []) ⟨hx, hb, hml, hown, hts⟩ (l_isMinimal l G ho al ts pb (nI 0) sv (nI 0) (xs 1) ou (fun _ => 0) hst H.size) (vx_cwSW 3 hts (gSt q779 q780 q44 q781) rfl rfl rfl (by decide +kernel) ⟨Nat.le_of_ble_eq_true rfl, Nat.le_of_ble_eq_true rfl⟩) (preS hK hE hP hD hS hA [0, 1, 10] rfl (by decide)) rfl rfl hl.1 rfl (lv_room (Nat.le_of_ble_eq_true rfl)) dL_law_932 ⟨Nat.le_of_ble_eq_true rfl, Nat.le_of_ble_eq_true rfl⟩) (fun r_2 u9 hw_1 H locs hP hD hS => ?_)
  subst hw_1
  have hP : va_P (gD G) vwCl [(sv, .inr (10, [.ref b, .ref sr, .ref se, .int (nI 0), .int (nI 0), .int (nI 110)])), (b, .inr (5, [.ref mm])), (mm, .inl (gyI G, 16, .inl f)), (sr, .inl (gyI G, 64, .inl g)), (se, .inl (gyI G, 16, .inl hh)), (mo, .inr (15, [.int (nI 0), .ref al2, .long (lN 0), .null, .ref pf, .int (nI 0)])), (al2, .inr (4, [.int (nI 0), .ref (gE G), .int (nI 0)])), (pf, .inl (gyI G, 16, .inl pff)), (od, .inl (gyD G, 1, .inr (.inr (.inr (.inl (fun _ => 0)))))), (ho, .inr (11, [.ref al, .ref sv, .ref ts, .ref pb, .null, .int (nI 0)])), (al, .inr (4, [.int (nI 0), .ref (gE G), .int (nI 0)])), (ou, .inl (gyL G, 1, .inr (.inl (fun _ => 0))))] H := hP
  have hD : va_D A [(sv, .inr (10, [.ref b, .ref sr, .ref se, .int (nI 0), .int (nI 0), .int (nI 110)])), (b, .inr (5, [.ref mm])), (mm, .inl (gyI G, 16, .inl f)), (sr, .inl (gyI G, 64, .inl g)), (se, .inl (gyI G, 16, .inl hh)), (mo, .inr (15, [.int (nI 0), .ref al2, .long (lN 0), .null, .ref pf, .int (nI 0)])), (al2, .inr (4, [.int (nI 0), .ref (gE G), .int (nI 0)])), (pf, .inl (gyI G, 16, .inl pff)), (od, .inl (gyD G, 1, .inr (.inr (.inr (.inl (fun _ => 0)))))), (ho, .inr (11, [.ref al, .ref sv, .ref ts, .ref pb, .null, .int (nI 0)])), (al, .inr (4, [.int (nI 0), .ref (gE G), .int (nI 0)])), (ou, .inl (gyL G, 1, .inr (.inl (fun _ => 0))))] := hD
  refine lv_istore (lv' := [(6, .int (nI 1)), (0, .ref scr), (1, .ref ho), (2, .ref mo), (3, .ref ou), (4, .ref od), (5, .int (nI 0))]) hx hb dL_law_935 hl (by decide) rfl (fun ls hl => ?_)
  refine lv_aload_n hx hb dL_law_937 rfl (lv_at hl 3 rfl) ?_
  refine lv_aload_n hx hb dL_law_938 rfl (lv_at hl 1 rfl) ?_
  refine lv_iload hx hb dL_law_939 (lv_at hl 6 rfl) ?_
  refine lv_iconst (v := nI 1) hx hb dL_law_941 (by decide) ?_
  refine lv_iadd hx hb dL_law_942 ?_
  refine lv_toe (nI_add 0 1) ?_
  refine va_sld hx hb hX hbl hbA hS (vp_in_nI (n := 1) (N := 4) (by omega) (by omega)) dL_law_943 ?_
  refine lv_toe (show xs (nI (1)).toNatClampNeg = xs 1 by rw [nI_clamp (by omega)]) ?_
  refine fin_i hP hD hS hA [5, 6] [0, 1, 2, 3, 4, 7, 8, 9, 10, 11] (wr := [(sv, .inr (10, [.ref b, .ref sr, .ref se, .int (nI 0), .int (nI 0), .int (nI 110)])), (b, .inr (5, [.ref mm])), (mm, .inl (gyI G, 16, .inl f)), (sr, .inl (gyI G, 64, .inl g)), (se, .inl (gyI G, 16, .inl hh)), (pf, .inl (gyI G, 16, .inl pff)), (od, .inl (gyD G, 1, .inr (.inr (.inr (.inl (fun _ => 0)))))), (ho, .inr (11, [.ref al, .ref sv, .ref ts, .ref pb, .null, .int (nI 0)])), (al, .inr (4, [.int (nI 0), .ref (gE G), .int (nI 0)])), (ou, .inl (gyL G, 1, .inr (.inl (fun _ => 0))))]) rfl rfl (by decide) (by decide) (va_runV (As := [.int (xs 1)]) (rest := []) ⟨hx, hb, hml, hown, hts⟩ (c_X10_isMinimal l G mo (nI 0) al2 0 pf (nI 0) (nI 0) (xs 1) H.size) (cwV 1 hts (gV q1290 q1291 q1292 q52 q1293) rfl rfl rfl (by decide +kernel) ⟨Nat.le_of_ble_eq_true rfl, Nat.le_of_ble_eq_true rfl⟩) (preV (q0 := 5) (ci := 15) hK hE hP hD hS hA [5, 6] rfl (by decide) rfl rfl) rfl rfl hl.1 rfl (lv_room (Nat.le_of_ble_eq_true rfl)) dL_law_944 ⟨Nat.le_of_ble_eq_true rfl, Nat.le_of_ble_eq_true rfl⟩) (fun r_4 u9 hw_3 H locs hP hD hS => ?_)
  have hP : va_P (gD G) vwCl [(sv, .inr (10, [.ref b, .ref sr, .ref se, .int (nI 0), .int (nI 0), .int (nI 110)])), (b, .inr (5, [.ref mm])), (mm, .inl (gyI G, 16, .inl f)), (sr, .inl (gyI G, 64, .inl g)), (se, .inl (gyI G, 16, .inl hh)), (pf, .inl (gyI G, 16, .inl pff)), (od, .inl (gyD G, 1, .inr (.inr (.inr (.inl (fun _ => 0)))))), (ho, .inr (11, [.ref al, .ref sv, .ref ts, .ref pb, .null, .int (nI 0)])), (al, .inr (4, [.int (nI 0), .ref (gE G), .int (nI 0)])), (ou, .inl (gyL G, 1, .inr (.inl (fun _ => 0)))), (mo, .inr (15, [.int (nI 1), .ref al2, .long (lN 0), .null, .ref pf, .int (nI 0)])), (al2, .inr (4, [.int (nI 0), .ref (gE G), .int (nI 0)]))] H := hP
  have hD : va_D A [(sv, .inr (10, [.ref b, .ref sr, .ref se, .int (nI 0), .int (nI 0), .int (nI 110)])), (b, .inr (5, [.ref mm])), (mm, .inl (gyI G, 16, .inl f)), (sr, .inl (gyI G, 64, .inl g)), (se, .inl (gyI G, 16, .inl hh)), (pf, .inl (gyI G, 16, .inl pff)), (od, .inl (gyD G, 1, .inr (.inr (.inr (.inl (fun _ => 0)))))), (ho, .inr (11, [.ref al, .ref sv, .ref ts, .ref pb, .null, .int (nI 0)])), (al, .inr (4, [.int (nI 0), .ref (gE G), .int (nI 0)])), (ou, .inl (gyL G, 1, .inr (.inl (fun _ => 0)))), (mo, .inr (15, [.int (nI 1), .ref al2, .long (lN 0), .null, .ref pf, .int (nI 0)])), (al2, .inr (4, [.int (nI 0), .ref (gE G), .int (nI 0)]))] := hD
  refine lv_istore (lv' := [(7, .int r_4), (6, .int (nI 1)), (0, .ref scr), (1, .ref ho), (2, .ref mo), (3, .ref ou), (4, .ref od), (5, .int (nI 0))]) hx hb dL_law_947 hl (by decide) rfl (fun ls hl => ?_)
  refine lv_aload_n hx hb dL_law_949 rfl (lv_at hl 4 rfl) ?_
  refine fin_i hP hD hS hA [10] [0, 1, 2, 3, 4, 5, 6, 7, 8, 9, 11] (wr := [(sv, .inr (10, [.ref b, .ref sr, .ref se, .int (nI 0), .int (nI 0), .int (nI 110)])), (b, .inr (5, [.ref mm])), (mm, .inl (gyI G, 16, .inl f)), (sr, .inl (gyI G, 64, .inl g)), (se, .inl (gyI G, 16, .inl hh)), (pf, .inl (gyI G, 16, .inl pff)), (od, .inl (gyD G, 1, .inr (.inr (.inr (.inl (fun _ => 0)))))), (ho, .inr (11, [.ref al, .ref sv, .ref ts, .ref pb, .null, .int (nI 0)])), (al, .inr (4, [.int (nI 0), .ref (gE G), .int (nI 0)])), (ou, .inl (gyL G, 1, .inr (.inl (fun _ => 0)))), (al2, .inr (4, [.int (nI 0), .ref (gE G), .int (nI 0)]))]) rfl rfl (by decide) (by decide) (va_runV (As := []) (rest := []) ⟨hx, hb, hml, hown, hts⟩ (c_X10_thrown l G mo 1 al2 0 pf (nI 0) H.size) (cwV 0 hts (gV q946 q947 q948 q52 q949) rfl rfl rfl (by decide +kernel) ⟨Nat.le_of_ble_eq_true rfl, Nat.le_of_ble_eq_true rfl⟩) (preV (q0 := 10) (ci := 15) hK hE hP hD hS hA [10] rfl (by decide) rfl rfl) rfl rfl hl.1 rfl (lv_room (Nat.le_of_ble_eq_true rfl)) dL_law_950 ⟨Nat.le_of_ble_eq_true rfl, Nat.le_of_ble_eq_true rfl⟩) (fun r_6 u9 hw_5 H locs hP hD hS => ?_)
  subst hw_5
  have hP : va_P (gD G) vwCl [(sv, .inr (10, [.ref b, .ref sr, .ref se, .int (nI 0), .int (nI 0), .int (nI 110)])), (b, .inr (5, [.ref mm])), (mm, .inl (gyI G, 16, .inl f)), (sr, .inl (gyI G, 64, .inl g)), (se, .inl (gyI G, 16, .inl hh)), (pf, .inl (gyI G, 16, .inl pff)), (od, .inl (gyD G, 1, .inr (.inr (.inr (.inl (fun _ => 0)))))), (ho, .inr (11, [.ref al, .ref sv, .ref ts, .ref pb, .null, .int (nI 0)])), (al, .inr (4, [.int (nI 0), .ref (gE G), .int (nI 0)])), (ou, .inl (gyL G, 1, .inr (.inl (fun _ => 0)))), (al2, .inr (4, [.int (nI 0), .ref (gE G), .int (nI 0)])), (mo, .inr (15, [.int (nI 1), .ref al2, .long (lN 0), .null, .ref pf, .int (nI 0)]))] H := hP
  have hD : va_D A [(sv, .inr (10, [.ref b, .ref sr, .ref se, .int (nI 0), .int (nI 0), .int (nI 110)])), (b, .inr (5, [.ref mm])), (mm, .inl (gyI G, 16, .inl f)), (sr, .inl (gyI G, 64, .inl g)), (se, .inl (gyI G, 16, .inl hh)), (pf, .inl (gyI G, 16, .inl pff)), (od, .inl (gyD G, 1, .inr (.inr (.inr (.inl (fun _ => 0)))))), (ho, .inr (11, [.ref al, .ref sv, .ref ts, .ref pb, .null, .int (nI 0)])), (al, .inr (4, [.int (nI 0), .ref (gE G), .int (nI 0)])), (ou, .inl (gyL G, 1, .inr (.inl (fun _ => 0)))), (al2, .inr (4, [.int (nI 0), .ref (gE G), .int (nI 0)])), (mo, .inr (15, [.int (nI 1), .ref al2, .long (lN 0), .null, .ref pf, .int (nI 0)]))] := hD
  refine lv_iload hx hb dL_law_953 (lv_at hl 1 rfl) ?_
  refine lv_icmp_eq (tgt := 960) hx hb dL_law_955 (by decide) (fun c_7 => ?_) (fun c_7 => ?_)
  · skip
    have c_7 : 1 = 1 := (nI_eq (a := 1) (b := 1) (by omega) (by omega)).mp c_7
    refine lv_iload hx hb dL_law_960 (lv_at hl 1 rfl) ?_
    refine lv_if_ne (tgt := 984) hx hb dL_law_962 (by decide) (fun c_8 => ?_) (fun c_8 => ?_)
    · skip
      have c_8 : ¬ 1 = 0 := fun z => c_8 ((nI_eq (a := 1) (b := 0) (by omega) (by omega)).mpr z)
      refine lv_goto (tgt := 1736) hx hb dL_law_984 (by decide) ?_
      refine lv_iinc (v := nI 4) (lv' := [(5, .int (nI 4)), (7, .int r_4), (6, .int (nI 1)), (0, .ref scr), (1, .ref ho), (2, .ref mo), (3, .ref ou), (4, .ref od)]) hx hb dL_law_1736 hl (k := 7) rfl (nI_add 0 4) (by decide) rfl (fun ls hl => ?_)
      refine lv_goto (tgt := 28) hx hb dL_law_1739 (by decide) ?_
      refine lv_iload hx hb dL_law_28 (lv_at hl 0 rfl) ?_
      refine lv_aload_n hx hb dL_law_30 rfl (lv_at hl 3 rfl) ?_
      refine va_slen hx hb hX hbl hbA hS dL_law_31 ?_
      refine lv_toe (show Int32.ofNat 4 = nI 4 from rfl) ?_
      refine lv_iconst (v := nI 4) hx hb dL_law_32 (by decide) ?_
      refine lv_isub hx hb dL_law_33 ?_
      refine lv_toe (pk_sub (a := 4) (b := 4) (by omega)) ?_
      refine lv_icmp_gt (tgt := 1742) hx hb dL_law_34 (by decide) (fun c_9 => ?_) (fun c_9 => ?_)
      · skip
        have c_9 : 0 < 4 := (nI_ltI (a := 0) (b := 4) (by omega) (by omega)).mp c_9
        refine lv_iconst (v := nI 1) hx hb dL_law_1742 (by decide) ?_
        refine va_forget (fun q hq => hA2 _ (hS.2.2 q hq)) ?_
        refine W.widen (k := 607190) (n := 7280494) (Nat.le_of_ble_eq_true rfl) (Nat.le_of_ble_eq_true rfl) ?_
        exact lw_ret (d0 := s.drawn) (Drawn.sameBut.refl s.drawn lw_cs) hx hb hr hlocks dL_law_1743
      · skip
        have c_9 : ¬ 0 < 4 := fun z => c_9 ((nI_ltI (a := 0) (b := 4) (by omega) (by omega)).mpr z)
        exact absurd c_9 (by decide)
    · skip
      have c_8 : 1 = 0 := (nI_eq (a := 1) (b := 0) (by omega) (by omega)).mp c_8
      exact absurd c_8 (by decide)
  · skip
    have c_7 : ¬ 1 = 1 := fun z => c_7 ((nI_eq (a := 1) (b := 1) (by omega) (by omega)).mpr z)
    exact absurd c_7 (by decide)
set_option maxHeartbeats 4000000 in
set_option maxRecDepth 100000 in
theorem law_areAlike {p : Program} {e : Env} {s : State} {m : MethodId} {below : List Frame} {meth : Method} {c : Code} (l : Launch) (hst : l.stackTraces = false) {scr : Nat} {xs : Nat → Int32} (C0 : lw_At p s m meth c scr 4 xs) (G : GG) (A : Nat → Prop) (hA : ∀ q : Nat, s.heap.size ≤ q → A q) (hA2 : ∀ q : Nat, A q → s.heap.size ≤ q) (hK : va_K (gD G) vwCl (gT G) s) (hE : EV G A s s.heap) (ho al ts pb sv b mm sr se mo al2 pf ou od : Nat) (f g hh pff : Nat → Int32) (H : Heap) (locs : List Loc) (hP : va_P (gD G) vwCl [(ho, .inr (11, [.ref al, .ref sv, .ref ts, .ref pb, .null, .int (nI 0)])), (al, .inr (4, [.int (nI 0), .ref (gE G), .int (nI 0)])), (sv, .inr (10, [.ref b, .ref sr, .ref se, .int (nI 0), .int (nI 0), .int (nI 110)])), (b, .inr (5, [.ref mm])), (mm, .inl (gyI G, 16, .inl f)), (sr, .inl (gyI G, 64, .inl g)), (se, .inl (gyI G, 16, .inl hh)), (mo, .inr (15, [.int (nI 0), .ref al2, .long (lN 0), .null, .ref pf, .int (nI 0)])), (al2, .inr (4, [.int (nI 0), .ref (gE G), .int (nI 0)])), (pf, .inl (gyI G, 16, .inl pff)), (ou, .inl (gyL G, 1, .inr (.inl (fun _ => 0)))), (od, .inl (gyD G, 1, .inr (.inr (.inr (.inl (fun _ => 0))))))] H) (hD : va_D A [(ho, .inr (11, [.ref al, .ref sv, .ref ts, .ref pb, .null, .int (nI 0)])), (al, .inr (4, [.int (nI 0), .ref (gE G), .int (nI 0)])), (sv, .inr (10, [.ref b, .ref sr, .ref se, .int (nI 0), .int (nI 0), .int (nI 110)])), (b, .inr (5, [.ref mm])), (mm, .inl (gyI G, 16, .inl f)), (sr, .inl (gyI G, 64, .inl g)), (se, .inl (gyI G, 16, .inl hh)), (mo, .inr (15, [.int (nI 0), .ref al2, .long (lN 0), .null, .ref pf, .int (nI 0)])), (al2, .inr (4, [.int (nI 0), .ref (gE G), .int (nI 0)])), (pf, .inl (gyI G, 16, .inl pff)), (ou, .inl (gyL G, 1, .inr (.inl (fun _ => 0)))), (od, .inl (gyD G, 1, .inr (.inr (.inr (.inl (fun _ => 0))))))]) (hS : va_S A s.heap H locs) (ls : Array Slot) (hl : lv_has ls 9 [(0, .ref scr), (1, .ref ho), (2, .ref mo), (3, .ref ou), (4, .ref od), (5, .int (nI 0))]) : W p l e room_1 s m #[Value.ref scr] below meth c H locs 17 191 (lw_Z below #[Value.ref scr] s) (F0 m 987 ls []) := by
  obtain ⟨hx, hb, hr, hml, hown, hts0, hX, hbl, hlocks, hgv⟩ := C0
  have hown : s.vm.findClass "PegboardryLaw" = some m.cls := hown
  have hts : ∀ w ∈ WW, w.before #[Value.ref scr] s = true := fun w hw => hts0 w (List.mem_filter.mp hw).1
  have hbA : ¬ A scr := fun z => Nat.not_le.mpr hbl (hA2 _ z)
  refine lv_aload_n hx hb dL_law_987 rfl (lv_at hl 1 rfl) ?_
  refine lv_aload_n hx hb dL_law_988 rfl (lv_at hl 0 rfl) ?_
  refine lv_iload hx hb dL_law_989 (lv_at hl 5 rfl) ?_
  refine lv_iconst (v := nI 1) hx hb dL_law_991 (by decide) ?_
  refine lv_iadd hx hb dL_law_992 ?_
  refine lv_toe (nI_add 0 1) ?_
  refine va_sld hx hb hX hbl hbA hS (vp_in_nI (n := 1) (N := 4) (by omega) (by omega)) dL_law_993 ?_
  refine lv_toe (show xs (nI (1)).toNatClampNeg = xs 1 by rw [nI_clamp (by omega)]) ?_
  refine lv_aload_n hx hb dL_law_994 rfl (lv_at hl 0 rfl) ?_
  refine lv_iload hx hb dL_law_995 (lv_at hl 5 rfl) ?_
  refine lv_iconst (v := nI 2) hx hb dL_law_997 (by decide) ?_
  refine lv_iadd hx hb dL_law_998 ?_
  refine lv_toe (nI_add 0 2) ?_
  refine va_sld hx hb hX hbl hbA hS (vp_in_nI (n := 2) (N := 4) (by omega) (by omega)) dL_law_999 ?_
  refine lv_toe (show xs (nI (2)).toNatClampNeg = xs 2 by rw [nI_clamp (by omega)]) ?_
  refine lv_aload_n hx hb dL_law_1000 rfl (lv_at hl 3 rfl) ?_
  refine fin_i hP hD hS hA [0, 1, 10] [2, 3, 4, 5, 6, 7, 8, 9, 11] (wr := [(sv, .inr (10, [.ref b, .ref sr, .ref se, .int (nI 0), .int (nI 0), .int (nI 110)])), (b, .inr (5, [.ref mm])), (mm, .inl (gyI G, 16, .inl f)), (sr, .inl (gyI G, 64, .inl g)), (se, .inl (gyI G, 16, .inl hh)), (mo, .inr (15, [.int (nI 0), .ref al2, .long (lN 0), .null, .ref pf, .int (nI 0)])), (al2, .inr (4, [.int (nI 0), .ref (gE G), .int (nI 0)])), (pf, .inl (gyI G, 16, .inl pff)), (od, .inl (gyD G, 1, .inr (.inr (.inr (.inl (fun _ => 0))))))]) rfl rfl (by decide) (by decide) (vx_runSW (As := [.ref ho, .int (xs 1), .int (xs 2), .ref ou]) (rest := []) ⟨hx, hb, hml, hown, hts⟩ (l_areAlike l G ho al ts pb (nI 0) sv (nI 0) (xs 1) (xs 2) ou (fun _ => 0) hst H.size) (vx_cwSW 4 hts (gSt q787 q788 q44 q789) rfl rfl rfl (by decide +kernel) ⟨Nat.le_of_ble_eq_true rfl, Nat.le_of_ble_eq_true rfl⟩) (preS hK hE hP hD hS hA [0, 1, 10] rfl (by decide)) rfl rfl hl.1 rfl (lv_room (Nat.le_of_ble_eq_true rfl)) dL_law_1001 ⟨Nat.le_of_ble_eq_true rfl, Nat.le_of_ble_eq_true rfl⟩) (fun r_2 u9 hw_1 H locs hP hD hS => ?_)
  subst hw_1
  have hP : va_P (gD G) vwCl [(sv, .inr (10, [.ref b, .ref sr, .ref se, .int (nI 0), .int (nI 0), .int (nI 110)])), (b, .inr (5, [.ref mm])), (mm, .inl (gyI G, 16, .inl f)), (sr, .inl (gyI G, 64, .inl g)), (se, .inl (gyI G, 16, .inl hh)), (mo, .inr (15, [.int (nI 0), .ref al2, .long (lN 0), .null, .ref pf, .int (nI 0)])), (al2, .inr (4, [.int (nI 0), .ref (gE G), .int (nI 0)])), (pf, .inl (gyI G, 16, .inl pff)), (od, .inl (gyD G, 1, .inr (.inr (.inr (.inl (fun _ => 0)))))), (ho, .inr (11, [.ref al, .ref sv, .ref ts, .ref pb, .null, .int (nI 0)])), (al, .inr (4, [.int (nI 0), .ref (gE G), .int (nI 0)])), (ou, .inl (gyL G, 1, .inr (.inl (fun _ => 0))))] H := hP
  have hD : va_D A [(sv, .inr (10, [.ref b, .ref sr, .ref se, .int (nI 0), .int (nI 0), .int (nI 110)])), (b, .inr (5, [.ref mm])), (mm, .inl (gyI G, 16, .inl f)), (sr, .inl (gyI G, 64, .inl g)), (se, .inl (gyI G, 16, .inl hh)), (mo, .inr (15, [.int (nI 0), .ref al2, .long (lN 0), .null, .ref pf, .int (nI 0)])), (al2, .inr (4, [.int (nI 0), .ref (gE G), .int (nI 0)])), (pf, .inl (gyI G, 16, .inl pff)), (od, .inl (gyD G, 1, .inr (.inr (.inr (.inl (fun _ => 0)))))), (ho, .inr (11, [.ref al, .ref sv, .ref ts, .ref pb, .null, .int (nI 0)])), (al, .inr (4, [.int (nI 0), .ref (gE G), .int (nI 0)])), (ou, .inl (gyL G, 1, .inr (.inl (fun _ => 0))))] := hD
  refine lv_istore (lv' := [(6, .int (nI 1)), (0, .ref scr), (1, .ref ho), (2, .ref mo), (3, .ref ou), (4, .ref od), (5, .int (nI 0))]) hx hb dL_law_1004 hl (by decide) rfl (fun ls hl => ?_)
  refine lv_aload_n hx hb dL_law_1006 rfl (lv_at hl 3 rfl) ?_
  refine lv_aload_n hx hb dL_law_1007 rfl (lv_at hl 1 rfl) ?_
  refine lv_iload hx hb dL_law_1008 (lv_at hl 6 rfl) ?_
  refine lv_iconst (v := nI 1) hx hb dL_law_1010 (by decide) ?_
  refine lv_iadd hx hb dL_law_1011 ?_
  refine lv_toe (nI_add 0 1) ?_
  refine va_sld hx hb hX hbl hbA hS (vp_in_nI (n := 1) (N := 4) (by omega) (by omega)) dL_law_1012 ?_
  refine lv_toe (show xs (nI (1)).toNatClampNeg = xs 1 by rw [nI_clamp (by omega)]) ?_
  refine lv_aload_n hx hb dL_law_1013 rfl (lv_at hl 1 rfl) ?_
  refine lv_iload hx hb dL_law_1014 (lv_at hl 6 rfl) ?_
  refine lv_iconst (v := nI 2) hx hb dL_law_1016 (by decide) ?_
  refine lv_iadd hx hb dL_law_1017 ?_
  refine lv_toe (nI_add 0 2) ?_
  refine va_sld hx hb hX hbl hbA hS (vp_in_nI (n := 2) (N := 4) (by omega) (by omega)) dL_law_1018 ?_
  refine lv_toe (show xs (nI (2)).toNatClampNeg = xs 2 by rw [nI_clamp (by omega)]) ?_
  refine fin_i hP hD hS hA [5, 6] [0, 1, 2, 3, 4, 7, 8, 9, 10, 11] (wr := [(sv, .inr (10, [.ref b, .ref sr, .ref se, .int (nI 0), .int (nI 0), .int (nI 110)])), (b, .inr (5, [.ref mm])), (mm, .inl (gyI G, 16, .inl f)), (sr, .inl (gyI G, 64, .inl g)), (se, .inl (gyI G, 16, .inl hh)), (pf, .inl (gyI G, 16, .inl pff)), (od, .inl (gyD G, 1, .inr (.inr (.inr (.inl (fun _ => 0)))))), (ho, .inr (11, [.ref al, .ref sv, .ref ts, .ref pb, .null, .int (nI 0)])), (al, .inr (4, [.int (nI 0), .ref (gE G), .int (nI 0)])), (ou, .inl (gyL G, 1, .inr (.inl (fun _ => 0))))]) rfl rfl (by decide) (by decide) (va_runV (As := [.int (xs 1), .int (xs 2)]) (rest := []) ⟨hx, hb, hml, hown, hts⟩ (c_X10_areAlike l G mo (nI 0) al2 0 pf (nI 0) (nI 0) (xs 1) (xs 2) H.size) (cwV 2 hts (gV q1294 q1295 q1296 q52 q1297) rfl rfl rfl (by decide +kernel) ⟨Nat.le_of_ble_eq_true rfl, Nat.le_of_ble_eq_true rfl⟩) (preV (q0 := 5) (ci := 15) hK hE hP hD hS hA [5, 6] rfl (by decide) rfl rfl) rfl rfl hl.1 rfl (lv_room (Nat.le_of_ble_eq_true rfl)) dL_law_1019 ⟨Nat.le_of_ble_eq_true rfl, Nat.le_of_ble_eq_true rfl⟩) (fun r_4 u9 hw_3 H locs hP hD hS => ?_)
  have hP : va_P (gD G) vwCl [(sv, .inr (10, [.ref b, .ref sr, .ref se, .int (nI 0), .int (nI 0), .int (nI 110)])), (b, .inr (5, [.ref mm])), (mm, .inl (gyI G, 16, .inl f)), (sr, .inl (gyI G, 64, .inl g)), (se, .inl (gyI G, 16, .inl hh)), (pf, .inl (gyI G, 16, .inl pff)), (od, .inl (gyD G, 1, .inr (.inr (.inr (.inl (fun _ => 0)))))), (ho, .inr (11, [.ref al, .ref sv, .ref ts, .ref pb, .null, .int (nI 0)])), (al, .inr (4, [.int (nI 0), .ref (gE G), .int (nI 0)])), (ou, .inl (gyL G, 1, .inr (.inl (fun _ => 0)))), (mo, .inr (15, [.int (nI 1), .ref al2, .long (lN 0), .null, .ref pf, .int (nI 0)])), (al2, .inr (4, [.int (nI 0), .ref (gE G), .int (nI 0)]))] H := hP
  have hD : va_D A [(sv, .inr (10, [.ref b, .ref sr, .ref se, .int (nI 0), .int (nI 0), .int (nI 110)])), (b, .inr (5, [.ref mm])), (mm, .inl (gyI G, 16, .inl f)), (sr, .inl (gyI G, 64, .inl g)), (se, .inl (gyI G, 16, .inl hh)), (pf, .inl (gyI G, 16, .inl pff)), (od, .inl (gyD G, 1, .inr (.inr (.inr (.inl (fun _ => 0)))))), (ho, .inr (11, [.ref al, .ref sv, .ref ts, .ref pb, .null, .int (nI 0)])), (al, .inr (4, [.int (nI 0), .ref (gE G), .int (nI 0)])), (ou, .inl (gyL G, 1, .inr (.inl (fun _ => 0)))), (mo, .inr (15, [.int (nI 1), .ref al2, .long (lN 0), .null, .ref pf, .int (nI 0)])), (al2, .inr (4, [.int (nI 0), .ref (gE G), .int (nI 0)]))] := hD
  refine lv_istore (lv' := [(7, .int r_4), (6, .int (nI 1)), (0, .ref scr), (1, .ref ho), (2, .ref mo), (3, .ref ou), (4, .ref od), (5, .int (nI 0))]) hx hb dL_law_1022 hl (by decide) rfl (fun ls hl => ?_)
  refine lv_aload_n hx hb dL_law_1024 rfl (lv_at hl 4 rfl) ?_
  refine fin_i hP hD hS hA [10] [0, 1, 2, 3, 4, 5, 6, 7, 8, 9, 11] (wr := [(sv, .inr (10, [.ref b, .ref sr, .ref se, .int (nI 0), .int (nI 0), .int (nI 110)])), (b, .inr (5, [.ref mm])), (mm, .inl (gyI G, 16, .inl f)), (sr, .inl (gyI G, 64, .inl g)), (se, .inl (gyI G, 16, .inl hh)), (pf, .inl (gyI G, 16, .inl pff)), (od, .inl (gyD G, 1, .inr (.inr (.inr (.inl (fun _ => 0)))))), (ho, .inr (11, [.ref al, .ref sv, .ref ts, .ref pb, .null, .int (nI 0)])), (al, .inr (4, [.int (nI 0), .ref (gE G), .int (nI 0)])), (ou, .inl (gyL G, 1, .inr (.inl (fun _ => 0)))), (al2, .inr (4, [.int (nI 0), .ref (gE G), .int (nI 0)]))]) rfl rfl (by decide) (by decide) (va_runV (As := []) (rest := []) ⟨hx, hb, hml, hown, hts⟩ (c_X10_thrown l G mo 1 al2 0 pf (nI 0) H.size) (cwV 0 hts (gV q946 q947 q948 q52 q949) rfl rfl rfl (by decide +kernel) ⟨Nat.le_of_ble_eq_true rfl, Nat.le_of_ble_eq_true rfl⟩) (preV (q0 := 10) (ci := 15) hK hE hP hD hS hA [10] rfl (by decide) rfl rfl) rfl rfl hl.1 rfl (lv_room (Nat.le_of_ble_eq_true rfl)) dL_law_1025 ⟨Nat.le_of_ble_eq_true rfl, Nat.le_of_ble_eq_true rfl⟩) (fun r_6 u9 hw_5 H locs hP hD hS => ?_)
  subst hw_5
  have hP : va_P (gD G) vwCl [(sv, .inr (10, [.ref b, .ref sr, .ref se, .int (nI 0), .int (nI 0), .int (nI 110)])), (b, .inr (5, [.ref mm])), (mm, .inl (gyI G, 16, .inl f)), (sr, .inl (gyI G, 64, .inl g)), (se, .inl (gyI G, 16, .inl hh)), (pf, .inl (gyI G, 16, .inl pff)), (od, .inl (gyD G, 1, .inr (.inr (.inr (.inl (fun _ => 0)))))), (ho, .inr (11, [.ref al, .ref sv, .ref ts, .ref pb, .null, .int (nI 0)])), (al, .inr (4, [.int (nI 0), .ref (gE G), .int (nI 0)])), (ou, .inl (gyL G, 1, .inr (.inl (fun _ => 0)))), (al2, .inr (4, [.int (nI 0), .ref (gE G), .int (nI 0)])), (mo, .inr (15, [.int (nI 1), .ref al2, .long (lN 0), .null, .ref pf, .int (nI 0)]))] H := hP
  have hD : va_D A [(sv, .inr (10, [.ref b, .ref sr, .ref se, .int (nI 0), .int (nI 0), .int (nI 110)])), (b, .inr (5, [.ref mm])), (mm, .inl (gyI G, 16, .inl f)), (sr, .inl (gyI G, 64, .inl g)), (se, .inl (gyI G, 16, .inl hh)), (pf, .inl (gyI G, 16, .inl pff)), (od, .inl (gyD G, 1, .inr (.inr (.inr (.inl (fun _ => 0)))))), (ho, .inr (11, [.ref al, .ref sv, .ref ts, .ref pb, .null, .int (nI 0)])), (al, .inr (4, [.int (nI 0), .ref (gE G), .int (nI 0)])), (ou, .inl (gyL G, 1, .inr (.inl (fun _ => 0)))), (al2, .inr (4, [.int (nI 0), .ref (gE G), .int (nI 0)])), (mo, .inr (15, [.int (nI 1), .ref al2, .long (lN 0), .null, .ref pf, .int (nI 0)]))] := hD
  refine lv_iload hx hb dL_law_1028 (lv_at hl 1 rfl) ?_
  refine lv_icmp_eq (tgt := 1035) hx hb dL_law_1030 (by decide) (fun c_7 => ?_) (fun c_7 => ?_)
  · skip
    have c_7 : 1 = 1 := (nI_eq (a := 1) (b := 1) (by omega) (by omega)).mp c_7
    refine lv_iload hx hb dL_law_1035 (lv_at hl 1 rfl) ?_
    refine lv_if_ne (tgt := 1059) hx hb dL_law_1037 (by decide) (fun c_8 => ?_) (fun c_8 => ?_)
    · skip
      have c_8 : ¬ 1 = 0 := fun z => c_8 ((nI_eq (a := 1) (b := 0) (by omega) (by omega)).mpr z)
      refine lv_goto (tgt := 1736) hx hb dL_law_1059 (by decide) ?_
      refine lv_iinc (v := nI 4) (lv' := [(5, .int (nI 4)), (7, .int r_4), (6, .int (nI 1)), (0, .ref scr), (1, .ref ho), (2, .ref mo), (3, .ref ou), (4, .ref od)]) hx hb dL_law_1736 hl (k := 7) rfl (nI_add 0 4) (by decide) rfl (fun ls hl => ?_)
      refine lv_goto (tgt := 28) hx hb dL_law_1739 (by decide) ?_
      refine lv_iload hx hb dL_law_28 (lv_at hl 0 rfl) ?_
      refine lv_aload_n hx hb dL_law_30 rfl (lv_at hl 3 rfl) ?_
      refine va_slen hx hb hX hbl hbA hS dL_law_31 ?_
      refine lv_toe (show Int32.ofNat 4 = nI 4 from rfl) ?_
      refine lv_iconst (v := nI 4) hx hb dL_law_32 (by decide) ?_
      refine lv_isub hx hb dL_law_33 ?_
      refine lv_toe (pk_sub (a := 4) (b := 4) (by omega)) ?_
      refine lv_icmp_gt (tgt := 1742) hx hb dL_law_34 (by decide) (fun c_9 => ?_) (fun c_9 => ?_)
      · skip
        have c_9 : 0 < 4 := (nI_ltI (a := 0) (b := 4) (by omega) (by omega)).mp c_9
        refine lv_iconst (v := nI 1) hx hb dL_law_1742 (by decide) ?_
        refine va_forget (fun q hq => hA2 _ (hS.2.2 q hq)) ?_
        refine W.widen (k := 607190) (n := 7280494) (Nat.le_of_ble_eq_true rfl) (Nat.le_of_ble_eq_true rfl) ?_
        exact lw_ret (d0 := s.drawn) (Drawn.sameBut.refl s.drawn lw_cs) hx hb hr hlocks dL_law_1743
      · skip
        have c_9 : ¬ 0 < 4 := fun z => c_9 ((nI_ltI (a := 0) (b := 4) (by omega) (by omega)).mpr z)
        exact absurd c_9 (by decide)
    · skip
      have c_8 : 1 = 0 := (nI_eq (a := 1) (b := 0) (by omega) (by omega)).mp c_8
      exact absurd c_8 (by decide)
  · skip
    have c_7 : ¬ 1 = 1 := fun z => c_7 ((nI_eq (a := 1) (b := 1) (by omega) (by omega)).mpr z)
    exact absurd c_7 (by decide)
set_option maxHeartbeats 4000000 in
set_option maxRecDepth 100000 in
theorem law_begin {p : Program} {e : Env} {s : State} {m : MethodId} {below : List Frame} {meth : Method} {c : Code} (l : Launch) (hst : l.stackTraces = false) {scr : Nat} {xs : Nat → Int32} (C0 : lw_At p s m meth c scr 4 xs) (G : GG) (A : Nat → Prop) (hA : ∀ q : Nat, s.heap.size ≤ q → A q) (hA2 : ∀ q : Nat, A q → s.heap.size ≤ q) (hK : va_K (gD G) vwCl (gT G) s) (hE : EV G A s s.heap) (ho al ts pb sv b mm sr se mo al2 pf ou od : Nat) (f g hh pff : Nat → Int32) (H : Heap) (locs : List Loc) (hP : va_P (gD G) vwCl [(ho, .inr (11, [.ref al, .ref sv, .ref ts, .ref pb, .null, .int (nI 0)])), (al, .inr (4, [.int (nI 0), .ref (gE G), .int (nI 0)])), (sv, .inr (10, [.ref b, .ref sr, .ref se, .int (nI 0), .int (nI 0), .int (nI 110)])), (b, .inr (5, [.ref mm])), (mm, .inl (gyI G, 16, .inl f)), (sr, .inl (gyI G, 64, .inl g)), (se, .inl (gyI G, 16, .inl hh)), (mo, .inr (15, [.int (nI 0), .ref al2, .long (lN 0), .null, .ref pf, .int (nI 0)])), (al2, .inr (4, [.int (nI 0), .ref (gE G), .int (nI 0)])), (pf, .inl (gyI G, 16, .inl pff)), (ou, .inl (gyL G, 1, .inr (.inl (fun _ => 0)))), (od, .inl (gyD G, 1, .inr (.inr (.inr (.inl (fun _ => 0))))))] H) (hD : va_D A [(ho, .inr (11, [.ref al, .ref sv, .ref ts, .ref pb, .null, .int (nI 0)])), (al, .inr (4, [.int (nI 0), .ref (gE G), .int (nI 0)])), (sv, .inr (10, [.ref b, .ref sr, .ref se, .int (nI 0), .int (nI 0), .int (nI 110)])), (b, .inr (5, [.ref mm])), (mm, .inl (gyI G, 16, .inl f)), (sr, .inl (gyI G, 64, .inl g)), (se, .inl (gyI G, 16, .inl hh)), (mo, .inr (15, [.int (nI 0), .ref al2, .long (lN 0), .null, .ref pf, .int (nI 0)])), (al2, .inr (4, [.int (nI 0), .ref (gE G), .int (nI 0)])), (pf, .inl (gyI G, 16, .inl pff)), (ou, .inl (gyL G, 1, .inr (.inl (fun _ => 0)))), (od, .inl (gyD G, 1, .inr (.inr (.inr (.inl (fun _ => 0))))))]) (hS : va_S A s.heap H locs) (ls : Array Slot) (hl : lv_has ls 9 [(0, .ref scr), (1, .ref ho), (2, .ref mo), (3, .ref ou), (4, .ref od), (5, .int (nI 0))]) : W p l e room_1 s m #[Value.ref scr] below meth c H locs 17 191 (lw_Z below #[Value.ref scr] s) (F0 m 1062 ls []) := by
  obtain ⟨hx, hb, hr, hml, hown, hts0, hX, hbl, hlocks, hgv⟩ := C0
  have hown : s.vm.findClass "PegboardryLaw" = some m.cls := hown
  have hts : ∀ w ∈ WW, w.before #[Value.ref scr] s = true := fun w hw => hts0 w (List.mem_filter.mp hw).1
  have hbA : ¬ A scr := fun z => Nat.not_le.mpr hbl (hA2 _ z)
  refine lv_aload_n hx hb dL_law_1062 rfl (lv_at hl 1 rfl) ?_
  refine lv_aload_n hx hb dL_law_1063 rfl (lv_at hl 0 rfl) ?_
  refine lv_iload hx hb dL_law_1064 (lv_at hl 5 rfl) ?_
  refine lv_iconst (v := nI 1) hx hb dL_law_1066 (by decide) ?_
  refine lv_iadd hx hb dL_law_1067 ?_
  refine lv_toe (nI_add 0 1) ?_
  refine va_sld hx hb hX hbl hbA hS (vp_in_nI (n := 1) (N := 4) (by omega) (by omega)) dL_law_1068 ?_
  refine lv_toe (show xs (nI (1)).toNatClampNeg = xs 1 by rw [nI_clamp (by omega)]) ?_
  refine lv_aload_n hx hb dL_law_1069 rfl (lv_at hl 3 rfl) ?_
  refine fin_i hP hD hS hA [0, 1, 10] [2, 3, 4, 5, 6, 7, 8, 9, 11] (wr := [(sv, .inr (10, [.ref b, .ref sr, .ref se, .int (nI 0), .int (nI 0), .int (nI 110)])), (b, .inr (5, [.ref mm])), (mm, .inl (gyI G, 16, .inl f)), (sr, .inl (gyI G, 64, .inl g)), (se, .inl (gyI G, 16, .inl hh)), (mo, .inr (15, [.int (nI 0), .ref al2, .long (lN 0), .null, .ref pf, .int (nI 0)])), (al2, .inr (4, [.int (nI 0), .ref (gE G), .int (nI 0)])), (pf, .inl (gyI G, 16, .inl pff)), (od, .inl (gyD G, 1, .inr (.inr (.inr (.inl (fun _ => 0))))))]) rfl rfl (by decide) (by decide) (vx_runSW (As := [.ref ho, .int (xs 1), .ref ou]) (rest := []) ⟨hx, hb, hml, hown, hts⟩ (l_begin l G ho al ts pb (nI 0) sv (nI 0) (xs 1) ou (fun _ => 0) hst H.size) (vx_cwSW 3 hts (gSt q801 q802 q44 q803) rfl rfl rfl (by decide +kernel) ⟨Nat.le_of_ble_eq_true rfl, Nat.le_of_ble_eq_true rfl⟩) (preS hK hE hP hD hS hA [0, 1, 10] rfl (by decide)) rfl rfl hl.1 rfl (lv_room (Nat.le_of_ble_eq_true rfl)) dL_law_1070 ⟨Nat.le_of_ble_eq_true rfl, Nat.le_of_ble_eq_true rfl⟩) (fun r_2 u9 hw_1 H locs hP hD hS => ?_)
  subst hw_1
  have hP : va_P (gD G) vwCl [(sv, .inr (10, [.ref b, .ref sr, .ref se, .int (nI 0), .int (nI 0), .int (nI 110)])), (b, .inr (5, [.ref mm])), (mm, .inl (gyI G, 16, .inl f)), (sr, .inl (gyI G, 64, .inl g)), (se, .inl (gyI G, 16, .inl hh)), (mo, .inr (15, [.int (nI 0), .ref al2, .long (lN 0), .null, .ref pf, .int (nI 0)])), (al2, .inr (4, [.int (nI 0), .ref (gE G), .int (nI 0)])), (pf, .inl (gyI G, 16, .inl pff)), (od, .inl (gyD G, 1, .inr (.inr (.inr (.inl (fun _ => 0)))))), (ho, .inr (11, [.ref al, .ref sv, .ref ts, .ref pb, .null, .int (nI 0)])), (al, .inr (4, [.int (nI 0), .ref (gE G), .int (nI 0)])), (ou, .inl (gyL G, 1, .inr (.inl (fun _ => 0))))] H := hP
  have hD : va_D A [(sv, .inr (10, [.ref b, .ref sr, .ref se, .int (nI 0), .int (nI 0), .int (nI 110)])), (b, .inr (5, [.ref mm])), (mm, .inl (gyI G, 16, .inl f)), (sr, .inl (gyI G, 64, .inl g)), (se, .inl (gyI G, 16, .inl hh)), (mo, .inr (15, [.int (nI 0), .ref al2, .long (lN 0), .null, .ref pf, .int (nI 0)])), (al2, .inr (4, [.int (nI 0), .ref (gE G), .int (nI 0)])), (pf, .inl (gyI G, 16, .inl pff)), (od, .inl (gyD G, 1, .inr (.inr (.inr (.inl (fun _ => 0)))))), (ho, .inr (11, [.ref al, .ref sv, .ref ts, .ref pb, .null, .int (nI 0)])), (al, .inr (4, [.int (nI 0), .ref (gE G), .int (nI 0)])), (ou, .inl (gyL G, 1, .inr (.inl (fun _ => 0))))] := hD
  refine lv_istore (lv' := [(6, .int (nI 1)), (0, .ref scr), (1, .ref ho), (2, .ref mo), (3, .ref ou), (4, .ref od), (5, .int (nI 0))]) hx hb dL_law_1073 hl (by decide) rfl (fun ls hl => ?_)
  refine lv_aload_n hx hb dL_law_1075 rfl (lv_at hl 3 rfl) ?_
  refine lv_aload_n hx hb dL_law_1076 rfl (lv_at hl 1 rfl) ?_
  refine lv_iload hx hb dL_law_1077 (lv_at hl 6 rfl) ?_
  refine lv_iconst (v := nI 1) hx hb dL_law_1079 (by decide) ?_
  refine lv_iadd hx hb dL_law_1080 ?_
  refine lv_toe (nI_add 0 1) ?_
  refine va_sld hx hb hX hbl hbA hS (vp_in_nI (n := 1) (N := 4) (by omega) (by omega)) dL_law_1081 ?_
  refine lv_toe (show xs (nI (1)).toNatClampNeg = xs 1 by rw [nI_clamp (by omega)]) ?_
  refine fin_i hP hD hS hA [5, 6] [0, 1, 2, 3, 4, 7, 8, 9, 10, 11] (wr := [(sv, .inr (10, [.ref b, .ref sr, .ref se, .int (nI 0), .int (nI 0), .int (nI 110)])), (b, .inr (5, [.ref mm])), (mm, .inl (gyI G, 16, .inl f)), (sr, .inl (gyI G, 64, .inl g)), (se, .inl (gyI G, 16, .inl hh)), (pf, .inl (gyI G, 16, .inl pff)), (od, .inl (gyD G, 1, .inr (.inr (.inr (.inl (fun _ => 0)))))), (ho, .inr (11, [.ref al, .ref sv, .ref ts, .ref pb, .null, .int (nI 0)])), (al, .inr (4, [.int (nI 0), .ref (gE G), .int (nI 0)])), (ou, .inl (gyL G, 1, .inr (.inl (fun _ => 0))))]) rfl rfl (by decide) (by decide) (va_runV (As := [.int (xs 1)]) (rest := []) ⟨hx, hb, hml, hown, hts⟩ (c_X10_begin l G mo (nI 0) al2 0 pf (nI 0) (nI 0) (xs 1) H.size) (cwV 1 hts (gV q1313 q1314 q1315 q52 q1316) rfl rfl rfl (by decide +kernel) ⟨Nat.le_of_ble_eq_true rfl, Nat.le_of_ble_eq_true rfl⟩) (preV (q0 := 5) (ci := 15) hK hE hP hD hS hA [5, 6] rfl (by decide) rfl rfl) rfl rfl hl.1 rfl (lv_room (Nat.le_of_ble_eq_true rfl)) dL_law_1082 ⟨Nat.le_of_ble_eq_true rfl, Nat.le_of_ble_eq_true rfl⟩) (fun r_4 u9 hw_3 H locs hP hD hS => ?_)
  have hP : va_P (gD G) vwCl [(sv, .inr (10, [.ref b, .ref sr, .ref se, .int (nI 0), .int (nI 0), .int (nI 110)])), (b, .inr (5, [.ref mm])), (mm, .inl (gyI G, 16, .inl f)), (sr, .inl (gyI G, 64, .inl g)), (se, .inl (gyI G, 16, .inl hh)), (pf, .inl (gyI G, 16, .inl pff)), (od, .inl (gyD G, 1, .inr (.inr (.inr (.inl (fun _ => 0)))))), (ho, .inr (11, [.ref al, .ref sv, .ref ts, .ref pb, .null, .int (nI 0)])), (al, .inr (4, [.int (nI 0), .ref (gE G), .int (nI 0)])), (ou, .inl (gyL G, 1, .inr (.inl (fun _ => 0)))), (mo, .inr (15, [.int (nI 1), .ref al2, .long (lN 0), .null, .ref pf, .int (nI 0)])), (al2, .inr (4, [.int (nI 0), .ref (gE G), .int (nI 0)]))] H := hP
  have hD : va_D A [(sv, .inr (10, [.ref b, .ref sr, .ref se, .int (nI 0), .int (nI 0), .int (nI 110)])), (b, .inr (5, [.ref mm])), (mm, .inl (gyI G, 16, .inl f)), (sr, .inl (gyI G, 64, .inl g)), (se, .inl (gyI G, 16, .inl hh)), (pf, .inl (gyI G, 16, .inl pff)), (od, .inl (gyD G, 1, .inr (.inr (.inr (.inl (fun _ => 0)))))), (ho, .inr (11, [.ref al, .ref sv, .ref ts, .ref pb, .null, .int (nI 0)])), (al, .inr (4, [.int (nI 0), .ref (gE G), .int (nI 0)])), (ou, .inl (gyL G, 1, .inr (.inl (fun _ => 0)))), (mo, .inr (15, [.int (nI 1), .ref al2, .long (lN 0), .null, .ref pf, .int (nI 0)])), (al2, .inr (4, [.int (nI 0), .ref (gE G), .int (nI 0)]))] := hD
  refine lv_istore (lv' := [(7, .int r_4), (6, .int (nI 1)), (0, .ref scr), (1, .ref ho), (2, .ref mo), (3, .ref ou), (4, .ref od), (5, .int (nI 0))]) hx hb dL_law_1085 hl (by decide) rfl (fun ls hl => ?_)
  refine lv_aload_n hx hb dL_law_1087 rfl (lv_at hl 4 rfl) ?_
  refine fin_i hP hD hS hA [10] [0, 1, 2, 3, 4, 5, 6, 7, 8, 9, 11] (wr := [(sv, .inr (10, [.ref b, .ref sr, .ref se, .int (nI 0), .int (nI 0), .int (nI 110)])), (b, .inr (5, [.ref mm])), (mm, .inl (gyI G, 16, .inl f)), (sr, .inl (gyI G, 64, .inl g)), (se, .inl (gyI G, 16, .inl hh)), (pf, .inl (gyI G, 16, .inl pff)), (od, .inl (gyD G, 1, .inr (.inr (.inr (.inl (fun _ => 0)))))), (ho, .inr (11, [.ref al, .ref sv, .ref ts, .ref pb, .null, .int (nI 0)])), (al, .inr (4, [.int (nI 0), .ref (gE G), .int (nI 0)])), (ou, .inl (gyL G, 1, .inr (.inl (fun _ => 0)))), (al2, .inr (4, [.int (nI 0), .ref (gE G), .int (nI 0)]))]) rfl rfl (by decide) (by decide) (va_runV (As := []) (rest := []) ⟨hx, hb, hml, hown, hts⟩ (c_X10_thrown l G mo 1 al2 0 pf (nI 0) H.size) (cwV 0 hts (gV q946 q947 q948 q52 q949) rfl rfl rfl (by decide +kernel) ⟨Nat.le_of_ble_eq_true rfl, Nat.le_of_ble_eq_true rfl⟩) (preV (q0 := 10) (ci := 15) hK hE hP hD hS hA [10] rfl (by decide) rfl rfl) rfl rfl hl.1 rfl (lv_room (Nat.le_of_ble_eq_true rfl)) dL_law_1088 ⟨Nat.le_of_ble_eq_true rfl, Nat.le_of_ble_eq_true rfl⟩) (fun r_6 u9 hw_5 H locs hP hD hS => ?_)
  subst hw_5
  have hP : va_P (gD G) vwCl [(sv, .inr (10, [.ref b, .ref sr, .ref se, .int (nI 0), .int (nI 0), .int (nI 110)])), (b, .inr (5, [.ref mm])), (mm, .inl (gyI G, 16, .inl f)), (sr, .inl (gyI G, 64, .inl g)), (se, .inl (gyI G, 16, .inl hh)), (pf, .inl (gyI G, 16, .inl pff)), (od, .inl (gyD G, 1, .inr (.inr (.inr (.inl (fun _ => 0)))))), (ho, .inr (11, [.ref al, .ref sv, .ref ts, .ref pb, .null, .int (nI 0)])), (al, .inr (4, [.int (nI 0), .ref (gE G), .int (nI 0)])), (ou, .inl (gyL G, 1, .inr (.inl (fun _ => 0)))), (al2, .inr (4, [.int (nI 0), .ref (gE G), .int (nI 0)])), (mo, .inr (15, [.int (nI 1), .ref al2, .long (lN 0), .null, .ref pf, .int (nI 0)]))] H := hP
  have hD : va_D A [(sv, .inr (10, [.ref b, .ref sr, .ref se, .int (nI 0), .int (nI 0), .int (nI 110)])), (b, .inr (5, [.ref mm])), (mm, .inl (gyI G, 16, .inl f)), (sr, .inl (gyI G, 64, .inl g)), (se, .inl (gyI G, 16, .inl hh)), (pf, .inl (gyI G, 16, .inl pff)), (od, .inl (gyD G, 1, .inr (.inr (.inr (.inl (fun _ => 0)))))), (ho, .inr (11, [.ref al, .ref sv, .ref ts, .ref pb, .null, .int (nI 0)])), (al, .inr (4, [.int (nI 0), .ref (gE G), .int (nI 0)])), (ou, .inl (gyL G, 1, .inr (.inl (fun _ => 0)))), (al2, .inr (4, [.int (nI 0), .ref (gE G), .int (nI 0)])), (mo, .inr (15, [.int (nI 1), .ref al2, .long (lN 0), .null, .ref pf, .int (nI 0)]))] := hD
  refine lv_iload hx hb dL_law_1091 (lv_at hl 1 rfl) ?_
  refine lv_icmp_eq (tgt := 1098) hx hb dL_law_1093 (by decide) (fun c_7 => ?_) (fun c_7 => ?_)
  · skip
    have c_7 : 1 = 1 := (nI_eq (a := 1) (b := 1) (by omega) (by omega)).mp c_7
    refine lv_iload hx hb dL_law_1098 (lv_at hl 1 rfl) ?_
    refine lv_if_ne (tgt := 1115) hx hb dL_law_1100 (by decide) (fun c_8 => ?_) (fun c_8 => ?_)
    · skip
      have c_8 : ¬ 1 = 0 := fun z => c_8 ((nI_eq (a := 1) (b := 0) (by omega) (by omega)).mpr z)
      refine lv_goto (tgt := 1736) hx hb dL_law_1115 (by decide) ?_
      refine lv_iinc (v := nI 4) (lv' := [(5, .int (nI 4)), (7, .int r_4), (6, .int (nI 1)), (0, .ref scr), (1, .ref ho), (2, .ref mo), (3, .ref ou), (4, .ref od)]) hx hb dL_law_1736 hl (k := 7) rfl (nI_add 0 4) (by decide) rfl (fun ls hl => ?_)
      refine lv_goto (tgt := 28) hx hb dL_law_1739 (by decide) ?_
      refine lv_iload hx hb dL_law_28 (lv_at hl 0 rfl) ?_
      refine lv_aload_n hx hb dL_law_30 rfl (lv_at hl 3 rfl) ?_
      refine va_slen hx hb hX hbl hbA hS dL_law_31 ?_
      refine lv_toe (show Int32.ofNat 4 = nI 4 from rfl) ?_
      refine lv_iconst (v := nI 4) hx hb dL_law_32 (by decide) ?_
      refine lv_isub hx hb dL_law_33 ?_
      refine lv_toe (pk_sub (a := 4) (b := 4) (by omega)) ?_
      refine lv_icmp_gt (tgt := 1742) hx hb dL_law_34 (by decide) (fun c_9 => ?_) (fun c_9 => ?_)
      · skip
        have c_9 : 0 < 4 := (nI_ltI (a := 0) (b := 4) (by omega) (by omega)).mp c_9
        refine lv_iconst (v := nI 1) hx hb dL_law_1742 (by decide) ?_
        refine va_forget (fun q hq => hA2 _ (hS.2.2 q hq)) ?_
        refine W.widen (k := 607190) (n := 7280494) (Nat.le_of_ble_eq_true rfl) (Nat.le_of_ble_eq_true rfl) ?_
        exact lw_ret (d0 := s.drawn) (Drawn.sameBut.refl s.drawn lw_cs) hx hb hr hlocks dL_law_1743
      · skip
        have c_9 : ¬ 0 < 4 := fun z => c_9 ((nI_ltI (a := 0) (b := 4) (by omega) (by omega)).mpr z)
        exact absurd c_9 (by decide)
    · skip
      have c_8 : 1 = 0 := (nI_eq (a := 1) (b := 0) (by omega) (by omega)).mp c_8
      exact absurd c_8 (by decide)
  · skip
    have c_7 : ¬ 1 = 1 := fun z => c_7 ((nI_eq (a := 1) (b := 1) (by omega) (by omega)).mpr z)
    exact absurd c_7 (by decide)
set_option maxHeartbeats 4000000 in
set_option maxRecDepth 100000 in
theorem law_reason {p : Program} {e : Env} {s : State} {m : MethodId} {below : List Frame} {meth : Method} {c : Code} (l : Launch) (hst : l.stackTraces = false) {scr : Nat} {xs : Nat → Int32} (C0 : lw_At p s m meth c scr 4 xs) (G : GG) (A : Nat → Prop) (hA : ∀ q : Nat, s.heap.size ≤ q → A q) (hA2 : ∀ q : Nat, A q → s.heap.size ≤ q) (hK : va_K (gD G) vwCl (gT G) s) (hE : EV G A s s.heap) (ho al ts pb sv b mm sr se mo al2 pf ou od : Nat) (f g hh pff : Nat → Int32) (H : Heap) (locs : List Loc) (hP : va_P (gD G) vwCl [(ho, .inr (11, [.ref al, .ref sv, .ref ts, .ref pb, .null, .int (nI 0)])), (al, .inr (4, [.int (nI 0), .ref (gE G), .int (nI 0)])), (sv, .inr (10, [.ref b, .ref sr, .ref se, .int (nI 0), .int (nI 0), .int (nI 110)])), (b, .inr (5, [.ref mm])), (mm, .inl (gyI G, 16, .inl f)), (sr, .inl (gyI G, 64, .inl g)), (se, .inl (gyI G, 16, .inl hh)), (mo, .inr (15, [.int (nI 0), .ref al2, .long (lN 0), .null, .ref pf, .int (nI 0)])), (al2, .inr (4, [.int (nI 0), .ref (gE G), .int (nI 0)])), (pf, .inl (gyI G, 16, .inl pff)), (ou, .inl (gyL G, 1, .inr (.inl (fun _ => 0)))), (od, .inl (gyD G, 1, .inr (.inr (.inr (.inl (fun _ => 0))))))] H) (hD : va_D A [(ho, .inr (11, [.ref al, .ref sv, .ref ts, .ref pb, .null, .int (nI 0)])), (al, .inr (4, [.int (nI 0), .ref (gE G), .int (nI 0)])), (sv, .inr (10, [.ref b, .ref sr, .ref se, .int (nI 0), .int (nI 0), .int (nI 110)])), (b, .inr (5, [.ref mm])), (mm, .inl (gyI G, 16, .inl f)), (sr, .inl (gyI G, 64, .inl g)), (se, .inl (gyI G, 16, .inl hh)), (mo, .inr (15, [.int (nI 0), .ref al2, .long (lN 0), .null, .ref pf, .int (nI 0)])), (al2, .inr (4, [.int (nI 0), .ref (gE G), .int (nI 0)])), (pf, .inl (gyI G, 16, .inl pff)), (ou, .inl (gyL G, 1, .inr (.inl (fun _ => 0)))), (od, .inl (gyD G, 1, .inr (.inr (.inr (.inl (fun _ => 0))))))]) (hS : va_S A s.heap H locs) (ls : Array Slot) (hl : lv_has ls 9 [(0, .ref scr), (1, .ref ho), (2, .ref mo), (3, .ref ou), (4, .ref od), (5, .int (nI 0))]) : W p l e room_1 s m #[Value.ref scr] below meth c H locs 17 191 (lw_Z below #[Value.ref scr] s) (F0 m 1198 ls []) := by
  obtain ⟨hx, hb, hr, hml, hown, hts0, hX, hbl, hlocks, hgv⟩ := C0
  have hown : s.vm.findClass "PegboardryLaw" = some m.cls := hown
  have hts : ∀ w ∈ WW, w.before #[Value.ref scr] s = true := fun w hw => hts0 w (List.mem_filter.mp hw).1
  have hbA : ¬ A scr := fun z => Nat.not_le.mpr hbl (hA2 _ z)
  refine lv_aload_n hx hb dL_law_1198 rfl (lv_at hl 1 rfl) ?_
  refine fin_i hP hD hS hA [0, 1] [2, 3, 4, 5, 6, 7, 8, 9, 10, 11] (wr := [(sv, .inr (10, [.ref b, .ref sr, .ref se, .int (nI 0), .int (nI 0), .int (nI 110)])), (b, .inr (5, [.ref mm])), (mm, .inl (gyI G, 16, .inl f)), (sr, .inl (gyI G, 64, .inl g)), (se, .inl (gyI G, 16, .inl hh)), (mo, .inr (15, [.int (nI 0), .ref al2, .long (lN 0), .null, .ref pf, .int (nI 0)])), (al2, .inr (4, [.int (nI 0), .ref (gE G), .int (nI 0)])), (pf, .inl (gyI G, 16, .inl pff)), (ou, .inl (gyL G, 1, .inr (.inl (fun _ => 0)))), (od, .inl (gyD G, 1, .inr (.inr (.inr (.inl (fun _ => 0))))))]) rfl rfl (by decide) (by decide) (va_runV (As := []) (rest := []) ⟨hx, hb, hml, hown, hts⟩ (c_X6_reason l G ho al ts pb (nI 0) sv (nI 0) H.size) (cwV 0 hts (gV q200 q201 q202 q45 q203) rfl rfl rfl (by decide +kernel) ⟨Nat.le_of_ble_eq_true rfl, Nat.le_of_ble_eq_true rfl⟩) (preV (q0 := 0) (ci := 11) hK hE hP hD hS hA [0, 1] rfl (by decide) rfl rfl) rfl rfl hl.1 rfl (lv_room (Nat.le_of_ble_eq_true rfl)) dL_law_1199 ⟨Nat.le_of_ble_eq_true rfl, Nat.le_of_ble_eq_true rfl⟩) (fun r_2 u9 hw_1 H locs hP hD hS => ?_)
  subst hw_1
  have hP : va_P (gD G) vwCl [(sv, .inr (10, [.ref b, .ref sr, .ref se, .int (nI 0), .int (nI 0), .int (nI 110)])), (b, .inr (5, [.ref mm])), (mm, .inl (gyI G, 16, .inl f)), (sr, .inl (gyI G, 64, .inl g)), (se, .inl (gyI G, 16, .inl hh)), (mo, .inr (15, [.int (nI 0), .ref al2, .long (lN 0), .null, .ref pf, .int (nI 0)])), (al2, .inr (4, [.int (nI 0), .ref (gE G), .int (nI 0)])), (pf, .inl (gyI G, 16, .inl pff)), (ou, .inl (gyL G, 1, .inr (.inl (fun _ => 0)))), (od, .inl (gyD G, 1, .inr (.inr (.inr (.inl (fun _ => 0)))))), (ho, .inr (11, [.ref al, .ref sv, .ref ts, .ref pb, .null, .int (nI 0)])), (al, .inr (4, [.int (nI 0), .ref (gE G), .int (nI 0)]))] H := hP
  have hD : va_D A [(sv, .inr (10, [.ref b, .ref sr, .ref se, .int (nI 0), .int (nI 0), .int (nI 110)])), (b, .inr (5, [.ref mm])), (mm, .inl (gyI G, 16, .inl f)), (sr, .inl (gyI G, 64, .inl g)), (se, .inl (gyI G, 16, .inl hh)), (mo, .inr (15, [.int (nI 0), .ref al2, .long (lN 0), .null, .ref pf, .int (nI 0)])), (al2, .inr (4, [.int (nI 0), .ref (gE G), .int (nI 0)])), (pf, .inl (gyI G, 16, .inl pff)), (ou, .inl (gyL G, 1, .inr (.inl (fun _ => 0)))), (od, .inl (gyD G, 1, .inr (.inr (.inr (.inl (fun _ => 0)))))), (ho, .inr (11, [.ref al, .ref sv, .ref ts, .ref pb, .null, .int (nI 0)])), (al, .inr (4, [.int (nI 0), .ref (gE G), .int (nI 0)]))] := hD
  refine lv_aload_n hx hb dL_law_1202 rfl (lv_at hl 2 rfl) ?_
  refine fin_i hP hD hS hA [5, 6] [0, 1, 2, 3, 4, 7, 8, 9, 10, 11] (wr := [(sv, .inr (10, [.ref b, .ref sr, .ref se, .int (nI 0), .int (nI 0), .int (nI 110)])), (b, .inr (5, [.ref mm])), (mm, .inl (gyI G, 16, .inl f)), (sr, .inl (gyI G, 64, .inl g)), (se, .inl (gyI G, 16, .inl hh)), (pf, .inl (gyI G, 16, .inl pff)), (ou, .inl (gyL G, 1, .inr (.inl (fun _ => 0)))), (od, .inl (gyD G, 1, .inr (.inr (.inr (.inl (fun _ => 0)))))), (ho, .inr (11, [.ref al, .ref sv, .ref ts, .ref pb, .null, .int (nI 0)])), (al, .inr (4, [.int (nI 0), .ref (gE G), .int (nI 0)]))]) rfl rfl (by decide) (by decide) (va_runV (As := []) (rest := [.int (nI 0)]) ⟨hx, hb, hml, hown, hts⟩ (c_X10_reason l G mo (nI 0) al2 0 pf (nI 0) (nI 0) H.size) (cwV 0 hts (gV q1324 q1325 q1326 q52 q1327) rfl rfl rfl (by decide +kernel) ⟨Nat.le_of_ble_eq_true rfl, Nat.le_of_ble_eq_true rfl⟩) (preV (q0 := 5) (ci := 15) hK hE hP hD hS hA [5, 6] rfl (by decide) rfl rfl) rfl rfl hl.1 rfl (lv_room (Nat.le_of_ble_eq_true rfl)) dL_law_1203 ⟨Nat.le_of_ble_eq_true rfl, Nat.le_of_ble_eq_true rfl⟩) (fun r_4 u9 hw_3 H locs hP hD hS => ?_)
  subst hw_3
  have hP : va_P (gD G) vwCl [(sv, .inr (10, [.ref b, .ref sr, .ref se, .int (nI 0), .int (nI 0), .int (nI 110)])), (b, .inr (5, [.ref mm])), (mm, .inl (gyI G, 16, .inl f)), (sr, .inl (gyI G, 64, .inl g)), (se, .inl (gyI G, 16, .inl hh)), (pf, .inl (gyI G, 16, .inl pff)), (ou, .inl (gyL G, 1, .inr (.inl (fun _ => 0)))), (od, .inl (gyD G, 1, .inr (.inr (.inr (.inl (fun _ => 0)))))), (ho, .inr (11, [.ref al, .ref sv, .ref ts, .ref pb, .null, .int (nI 0)])), (al, .inr (4, [.int (nI 0), .ref (gE G), .int (nI 0)])), (mo, .inr (15, [.int (nI 0), .ref al2, .long (lN 0), .null, .ref pf, .int (nI 0)])), (al2, .inr (4, [.int (nI 0), .ref (gE G), .int (nI 0)]))] H := hP
  have hD : va_D A [(sv, .inr (10, [.ref b, .ref sr, .ref se, .int (nI 0), .int (nI 0), .int (nI 110)])), (b, .inr (5, [.ref mm])), (mm, .inl (gyI G, 16, .inl f)), (sr, .inl (gyI G, 64, .inl g)), (se, .inl (gyI G, 16, .inl hh)), (pf, .inl (gyI G, 16, .inl pff)), (ou, .inl (gyL G, 1, .inr (.inl (fun _ => 0)))), (od, .inl (gyD G, 1, .inr (.inr (.inr (.inl (fun _ => 0)))))), (ho, .inr (11, [.ref al, .ref sv, .ref ts, .ref pb, .null, .int (nI 0)])), (al, .inr (4, [.int (nI 0), .ref (gE G), .int (nI 0)])), (mo, .inr (15, [.int (nI 0), .ref al2, .long (lN 0), .null, .ref pf, .int (nI 0)])), (al2, .inr (4, [.int (nI 0), .ref (gE G), .int (nI 0)]))] := hD
  refine lv_icmp_eq (tgt := 1736) hx hb dL_law_1206 (by decide) (fun c_5 => ?_) (fun c_5 => ?_)
  · skip
    have c_5 : 0 = 0 := (nI_eq (a := 0) (b := 0) (by omega) (by omega)).mp c_5
    refine lv_iinc (v := nI 4) (lv' := [(5, .int (nI 4)), (0, .ref scr), (1, .ref ho), (2, .ref mo), (3, .ref ou), (4, .ref od)]) hx hb dL_law_1736 hl (k := 5) rfl (nI_add 0 4) (by decide) rfl (fun ls hl => ?_)
    refine lv_goto (tgt := 28) hx hb dL_law_1739 (by decide) ?_
    refine lv_iload hx hb dL_law_28 (lv_at hl 0 rfl) ?_
    refine lv_aload_n hx hb dL_law_30 rfl (lv_at hl 1 rfl) ?_
    refine va_slen hx hb hX hbl hbA hS dL_law_31 ?_
    refine lv_toe (show Int32.ofNat 4 = nI 4 from rfl) ?_
    refine lv_iconst (v := nI 4) hx hb dL_law_32 (by decide) ?_
    refine lv_isub hx hb dL_law_33 ?_
    refine lv_toe (pk_sub (a := 4) (b := 4) (by omega)) ?_
    refine lv_icmp_gt (tgt := 1742) hx hb dL_law_34 (by decide) (fun c_6 => ?_) (fun c_6 => ?_)
    · skip
      have c_6 : 0 < 4 := (nI_ltI (a := 0) (b := 4) (by omega) (by omega)).mp c_6
      refine lv_iconst (v := nI 1) hx hb dL_law_1742 (by decide) ?_
      refine va_forget (fun q hq => hA2 _ (hS.2.2 q hq)) ?_
      refine W.widen (k := 607190) (n := 7280494) (Nat.le_of_ble_eq_true rfl) (Nat.le_of_ble_eq_true rfl) ?_
      exact lw_ret (d0 := s.drawn) (Drawn.sameBut.refl s.drawn lw_cs) hx hb hr hlocks dL_law_1743
    · skip
      have c_6 : ¬ 0 < 4 := fun z => c_6 ((nI_ltI (a := 0) (b := 4) (by omega) (by omega)).mpr z)
      exact absurd c_6 (by decide)
  · skip
    have c_5 : ¬ 0 = 0 := fun z => c_5 ((nI_eq (a := 0) (b := 0) (by omega) (by omega)).mpr z)
    exact absurd c_5 (by decide)
set_option maxHeartbeats 4000000 in
set_option maxRecDepth 100000 in
theorem law_isWhole {p : Program} {e : Env} {s : State} {m : MethodId} {below : List Frame} {meth : Method} {c : Code} (l : Launch) (hst : l.stackTraces = false) {scr : Nat} {xs : Nat → Int32} (C0 : lw_At p s m meth c scr 4 xs) (G : GG) (A : Nat → Prop) (hA : ∀ q : Nat, s.heap.size ≤ q → A q) (hA2 : ∀ q : Nat, A q → s.heap.size ≤ q) (hK : va_K (gD G) vwCl (gT G) s) (hE : EV G A s s.heap) (ho al ts pb sv b mm sr se mo al2 pf ou od : Nat) (f g hh pff : Nat → Int32) (H : Heap) (locs : List Loc) (hP : va_P (gD G) vwCl [(ho, .inr (11, [.ref al, .ref sv, .ref ts, .ref pb, .null, .int (nI 0)])), (al, .inr (4, [.int (nI 0), .ref (gE G), .int (nI 0)])), (sv, .inr (10, [.ref b, .ref sr, .ref se, .int (nI 0), .int (nI 0), .int (nI 110)])), (b, .inr (5, [.ref mm])), (mm, .inl (gyI G, 16, .inl f)), (sr, .inl (gyI G, 64, .inl g)), (se, .inl (gyI G, 16, .inl hh)), (mo, .inr (15, [.int (nI 0), .ref al2, .long (lN 0), .null, .ref pf, .int (nI 0)])), (al2, .inr (4, [.int (nI 0), .ref (gE G), .int (nI 0)])), (pf, .inl (gyI G, 16, .inl pff)), (ou, .inl (gyL G, 1, .inr (.inl (fun _ => 0)))), (od, .inl (gyD G, 1, .inr (.inr (.inr (.inl (fun _ => 0))))))] H) (hD : va_D A [(ho, .inr (11, [.ref al, .ref sv, .ref ts, .ref pb, .null, .int (nI 0)])), (al, .inr (4, [.int (nI 0), .ref (gE G), .int (nI 0)])), (sv, .inr (10, [.ref b, .ref sr, .ref se, .int (nI 0), .int (nI 0), .int (nI 110)])), (b, .inr (5, [.ref mm])), (mm, .inl (gyI G, 16, .inl f)), (sr, .inl (gyI G, 64, .inl g)), (se, .inl (gyI G, 16, .inl hh)), (mo, .inr (15, [.int (nI 0), .ref al2, .long (lN 0), .null, .ref pf, .int (nI 0)])), (al2, .inr (4, [.int (nI 0), .ref (gE G), .int (nI 0)])), (pf, .inl (gyI G, 16, .inl pff)), (ou, .inl (gyL G, 1, .inr (.inl (fun _ => 0)))), (od, .inl (gyD G, 1, .inr (.inr (.inr (.inl (fun _ => 0))))))]) (hS : va_S A s.heap H locs) (ls : Array Slot) (hl : lv_has ls 9 [(0, .ref scr), (1, .ref ho), (2, .ref mo), (3, .ref ou), (4, .ref od), (5, .int (nI 0))]) : W p l e room_1 s m #[Value.ref scr] below meth c H locs 17 191 (lw_Z below #[Value.ref scr] s) (F0 m 1267 ls []) := by
  obtain ⟨hx, hb, hr, hml, hown, hts0, hX, hbl, hlocks, hgv⟩ := C0
  have hown : s.vm.findClass "PegboardryLaw" = some m.cls := hown
  have hts : ∀ w ∈ WW, w.before #[Value.ref scr] s = true := fun w hw => hts0 w (List.mem_filter.mp hw).1
  have hbA : ¬ A scr := fun z => Nat.not_le.mpr hbl (hA2 _ z)
  refine lv_aload_n hx hb dL_law_1267 rfl (lv_at hl 1 rfl) ?_
  refine lv_aload_n hx hb dL_law_1268 rfl (lv_at hl 3 rfl) ?_
  refine fin_i hP hD hS hA [0, 1, 10] [2, 3, 4, 5, 6, 7, 8, 9, 11] (wr := [(sv, .inr (10, [.ref b, .ref sr, .ref se, .int (nI 0), .int (nI 0), .int (nI 110)])), (b, .inr (5, [.ref mm])), (mm, .inl (gyI G, 16, .inl f)), (sr, .inl (gyI G, 64, .inl g)), (se, .inl (gyI G, 16, .inl hh)), (mo, .inr (15, [.int (nI 0), .ref al2, .long (lN 0), .null, .ref pf, .int (nI 0)])), (al2, .inr (4, [.int (nI 0), .ref (gE G), .int (nI 0)])), (pf, .inl (gyI G, 16, .inl pff)), (od, .inl (gyD G, 1, .inr (.inr (.inr (.inl (fun _ => 0))))))]) rfl rfl (by decide) (by decide) (vx_runSW (As := [.ref ho, .ref ou]) (rest := []) ⟨hx, hb, hml, hown, hts⟩ (l_whole l G ho al ts pb (nI 0) sv (nI 0) ou (fun _ => 0) hst H.size) (vx_cwSW 2 hts (gSt q838 q839 q44 q840) rfl rfl rfl (by decide +kernel) ⟨Nat.le_of_ble_eq_true rfl, Nat.le_of_ble_eq_true rfl⟩) (preS hK hE hP hD hS hA [0, 1, 10] rfl (by decide)) rfl rfl hl.1 rfl (lv_room (Nat.le_of_ble_eq_true rfl)) dL_law_1269 ⟨Nat.le_of_ble_eq_true rfl, Nat.le_of_ble_eq_true rfl⟩) (fun r_2 u9 hw_1 H locs hP hD hS => ?_)
  subst hw_1
  have hP : va_P (gD G) vwCl [(sv, .inr (10, [.ref b, .ref sr, .ref se, .int (nI 0), .int (nI 0), .int (nI 110)])), (b, .inr (5, [.ref mm])), (mm, .inl (gyI G, 16, .inl f)), (sr, .inl (gyI G, 64, .inl g)), (se, .inl (gyI G, 16, .inl hh)), (mo, .inr (15, [.int (nI 0), .ref al2, .long (lN 0), .null, .ref pf, .int (nI 0)])), (al2, .inr (4, [.int (nI 0), .ref (gE G), .int (nI 0)])), (pf, .inl (gyI G, 16, .inl pff)), (od, .inl (gyD G, 1, .inr (.inr (.inr (.inl (fun _ => 0)))))), (ho, .inr (11, [.ref al, .ref sv, .ref ts, .ref pb, .null, .int (nI 0)])), (al, .inr (4, [.int (nI 0), .ref (gE G), .int (nI 0)])), (ou, .inl (gyL G, 1, .inr (.inl (fun _ => 0))))] H := hP
  have hD : va_D A [(sv, .inr (10, [.ref b, .ref sr, .ref se, .int (nI 0), .int (nI 0), .int (nI 110)])), (b, .inr (5, [.ref mm])), (mm, .inl (gyI G, 16, .inl f)), (sr, .inl (gyI G, 64, .inl g)), (se, .inl (gyI G, 16, .inl hh)), (mo, .inr (15, [.int (nI 0), .ref al2, .long (lN 0), .null, .ref pf, .int (nI 0)])), (al2, .inr (4, [.int (nI 0), .ref (gE G), .int (nI 0)])), (pf, .inl (gyI G, 16, .inl pff)), (od, .inl (gyD G, 1, .inr (.inr (.inr (.inl (fun _ => 0)))))), (ho, .inr (11, [.ref al, .ref sv, .ref ts, .ref pb, .null, .int (nI 0)])), (al, .inr (4, [.int (nI 0), .ref (gE G), .int (nI 0)])), (ou, .inl (gyL G, 1, .inr (.inl (fun _ => 0))))] := hD
  refine lv_istore (lv' := [(6, .int (nI 1)), (0, .ref scr), (1, .ref ho), (2, .ref mo), (3, .ref ou), (4, .ref od), (5, .int (nI 0))]) hx hb dL_law_1272 hl (by decide) rfl (fun ls hl => ?_)
  refine lv_aload_n hx hb dL_law_1274 rfl (lv_at hl 3 rfl) ?_
  refine fin_i hP hD hS hA [5, 6] [0, 1, 2, 3, 4, 7, 8, 9, 10, 11] (wr := [(sv, .inr (10, [.ref b, .ref sr, .ref se, .int (nI 0), .int (nI 0), .int (nI 110)])), (b, .inr (5, [.ref mm])), (mm, .inl (gyI G, 16, .inl f)), (sr, .inl (gyI G, 64, .inl g)), (se, .inl (gyI G, 16, .inl hh)), (pf, .inl (gyI G, 16, .inl pff)), (od, .inl (gyD G, 1, .inr (.inr (.inr (.inl (fun _ => 0)))))), (ho, .inr (11, [.ref al, .ref sv, .ref ts, .ref pb, .null, .int (nI 0)])), (al, .inr (4, [.int (nI 0), .ref (gE G), .int (nI 0)])), (ou, .inl (gyL G, 1, .inr (.inl (fun _ => 0))))]) rfl rfl (by decide) (by decide) (va_runV (As := []) (rest := []) ⟨hx, hb, hml, hown, hts⟩ (c_X10_isWhole l G mo (nI 0) al2 0 pf (nI 0) (nI 0) H.size) (cwV 0 hts (gV q1332 q1333 q1334 q52 q1335) rfl rfl rfl (by decide +kernel) ⟨Nat.le_of_ble_eq_true rfl, Nat.le_of_ble_eq_true rfl⟩) (preV (q0 := 5) (ci := 15) hK hE hP hD hS hA [5, 6] rfl (by decide) rfl rfl) rfl rfl hl.1 rfl (lv_room (Nat.le_of_ble_eq_true rfl)) dL_law_1275 ⟨Nat.le_of_ble_eq_true rfl, Nat.le_of_ble_eq_true rfl⟩) (fun r_4 u9 hw_3 H locs hP hD hS => ?_)
  have hP : va_P (gD G) vwCl [(sv, .inr (10, [.ref b, .ref sr, .ref se, .int (nI 0), .int (nI 0), .int (nI 110)])), (b, .inr (5, [.ref mm])), (mm, .inl (gyI G, 16, .inl f)), (sr, .inl (gyI G, 64, .inl g)), (se, .inl (gyI G, 16, .inl hh)), (pf, .inl (gyI G, 16, .inl pff)), (od, .inl (gyD G, 1, .inr (.inr (.inr (.inl (fun _ => 0)))))), (ho, .inr (11, [.ref al, .ref sv, .ref ts, .ref pb, .null, .int (nI 0)])), (al, .inr (4, [.int (nI 0), .ref (gE G), .int (nI 0)])), (ou, .inl (gyL G, 1, .inr (.inl (fun _ => 0)))), (mo, .inr (15, [.int (nI 1), .ref al2, .long (lN 0), .null, .ref pf, .int (nI 0)])), (al2, .inr (4, [.int (nI 0), .ref (gE G), .int (nI 0)]))] H := hP
  have hD : va_D A [(sv, .inr (10, [.ref b, .ref sr, .ref se, .int (nI 0), .int (nI 0), .int (nI 110)])), (b, .inr (5, [.ref mm])), (mm, .inl (gyI G, 16, .inl f)), (sr, .inl (gyI G, 64, .inl g)), (se, .inl (gyI G, 16, .inl hh)), (pf, .inl (gyI G, 16, .inl pff)), (od, .inl (gyD G, 1, .inr (.inr (.inr (.inl (fun _ => 0)))))), (ho, .inr (11, [.ref al, .ref sv, .ref ts, .ref pb, .null, .int (nI 0)])), (al, .inr (4, [.int (nI 0), .ref (gE G), .int (nI 0)])), (ou, .inl (gyL G, 1, .inr (.inl (fun _ => 0)))), (mo, .inr (15, [.int (nI 1), .ref al2, .long (lN 0), .null, .ref pf, .int (nI 0)])), (al2, .inr (4, [.int (nI 0), .ref (gE G), .int (nI 0)]))] := hD
  refine lv_istore (lv' := [(7, .int r_4), (6, .int (nI 1)), (0, .ref scr), (1, .ref ho), (2, .ref mo), (3, .ref ou), (4, .ref od), (5, .int (nI 0))]) hx hb dL_law_1278 hl (by decide) rfl (fun ls hl => ?_)
  refine lv_aload_n hx hb dL_law_1280 rfl (lv_at hl 4 rfl) ?_
  refine fin_i hP hD hS hA [10] [0, 1, 2, 3, 4, 5, 6, 7, 8, 9, 11] (wr := [(sv, .inr (10, [.ref b, .ref sr, .ref se, .int (nI 0), .int (nI 0), .int (nI 110)])), (b, .inr (5, [.ref mm])), (mm, .inl (gyI G, 16, .inl f)), (sr, .inl (gyI G, 64, .inl g)), (se, .inl (gyI G, 16, .inl hh)), (pf, .inl (gyI G, 16, .inl pff)), (od, .inl (gyD G, 1, .inr (.inr (.inr (.inl (fun _ => 0)))))), (ho, .inr (11, [.ref al, .ref sv, .ref ts, .ref pb, .null, .int (nI 0)])), (al, .inr (4, [.int (nI 0), .ref (gE G), .int (nI 0)])), (ou, .inl (gyL G, 1, .inr (.inl (fun _ => 0)))), (al2, .inr (4, [.int (nI 0), .ref (gE G), .int (nI 0)]))]) rfl rfl (by decide) (by decide) (va_runV (As := []) (rest := []) ⟨hx, hb, hml, hown, hts⟩ (c_X10_thrown l G mo 1 al2 0 pf (nI 0) H.size) (cwV 0 hts (gV q946 q947 q948 q52 q949) rfl rfl rfl (by decide +kernel) ⟨Nat.le_of_ble_eq_true rfl, Nat.le_of_ble_eq_true rfl⟩) (preV (q0 := 10) (ci := 15) hK hE hP hD hS hA [10] rfl (by decide) rfl rfl) rfl rfl hl.1 rfl (lv_room (Nat.le_of_ble_eq_true rfl)) dL_law_1281 ⟨Nat.le_of_ble_eq_true rfl, Nat.le_of_ble_eq_true rfl⟩) (fun r_6 u9 hw_5 H locs hP hD hS => ?_)
  subst hw_5
  have hP : va_P (gD G) vwCl [(sv, .inr (10, [.ref b, .ref sr, .ref se, .int (nI 0), .int (nI 0), .int (nI 110)])), (b, .inr (5, [.ref mm])), (mm, .inl (gyI G, 16, .inl f)), (sr, .inl (gyI G, 64, .inl g)), (se, .inl (gyI G, 16, .inl hh)), (pf, .inl (gyI G, 16, .inl pff)), (od, .inl (gyD G, 1, .inr (.inr (.inr (.inl (fun _ => 0)))))), (ho, .inr (11, [.ref al, .ref sv, .ref ts, .ref pb, .null, .int (nI 0)])), (al, .inr (4, [.int (nI 0), .ref (gE G), .int (nI 0)])), (ou, .inl (gyL G, 1, .inr (.inl (fun _ => 0)))), (al2, .inr (4, [.int (nI 0), .ref (gE G), .int (nI 0)])), (mo, .inr (15, [.int (nI 1), .ref al2, .long (lN 0), .null, .ref pf, .int (nI 0)]))] H := hP
  have hD : va_D A [(sv, .inr (10, [.ref b, .ref sr, .ref se, .int (nI 0), .int (nI 0), .int (nI 110)])), (b, .inr (5, [.ref mm])), (mm, .inl (gyI G, 16, .inl f)), (sr, .inl (gyI G, 64, .inl g)), (se, .inl (gyI G, 16, .inl hh)), (pf, .inl (gyI G, 16, .inl pff)), (od, .inl (gyD G, 1, .inr (.inr (.inr (.inl (fun _ => 0)))))), (ho, .inr (11, [.ref al, .ref sv, .ref ts, .ref pb, .null, .int (nI 0)])), (al, .inr (4, [.int (nI 0), .ref (gE G), .int (nI 0)])), (ou, .inl (gyL G, 1, .inr (.inl (fun _ => 0)))), (al2, .inr (4, [.int (nI 0), .ref (gE G), .int (nI 0)])), (mo, .inr (15, [.int (nI 1), .ref al2, .long (lN 0), .null, .ref pf, .int (nI 0)]))] := hD
  refine lv_iload hx hb dL_law_1284 (lv_at hl 1 rfl) ?_
  refine lv_icmp_eq (tgt := 1291) hx hb dL_law_1286 (by decide) (fun c_7 => ?_) (fun c_7 => ?_)
  · skip
    have c_7 : 1 = 1 := (nI_eq (a := 1) (b := 1) (by omega) (by omega)).mp c_7
    refine lv_iload hx hb dL_law_1291 (lv_at hl 1 rfl) ?_
    refine lv_if_ne (tgt := 1315) hx hb dL_law_1293 (by decide) (fun c_8 => ?_) (fun c_8 => ?_)
    · skip
      have c_8 : ¬ 1 = 0 := fun z => c_8 ((nI_eq (a := 1) (b := 0) (by omega) (by omega)).mpr z)
      refine lv_goto (tgt := 1736) hx hb dL_law_1315 (by decide) ?_
      refine lv_iinc (v := nI 4) (lv' := [(5, .int (nI 4)), (7, .int r_4), (6, .int (nI 1)), (0, .ref scr), (1, .ref ho), (2, .ref mo), (3, .ref ou), (4, .ref od)]) hx hb dL_law_1736 hl (k := 7) rfl (nI_add 0 4) (by decide) rfl (fun ls hl => ?_)
      refine lv_goto (tgt := 28) hx hb dL_law_1739 (by decide) ?_
      refine lv_iload hx hb dL_law_28 (lv_at hl 0 rfl) ?_
      refine lv_aload_n hx hb dL_law_30 rfl (lv_at hl 3 rfl) ?_
      refine va_slen hx hb hX hbl hbA hS dL_law_31 ?_
      refine lv_toe (show Int32.ofNat 4 = nI 4 from rfl) ?_
      refine lv_iconst (v := nI 4) hx hb dL_law_32 (by decide) ?_
      refine lv_isub hx hb dL_law_33 ?_
      refine lv_toe (pk_sub (a := 4) (b := 4) (by omega)) ?_
      refine lv_icmp_gt (tgt := 1742) hx hb dL_law_34 (by decide) (fun c_9 => ?_) (fun c_9 => ?_)
      · skip
        have c_9 : 0 < 4 := (nI_ltI (a := 0) (b := 4) (by omega) (by omega)).mp c_9
        refine lv_iconst (v := nI 1) hx hb dL_law_1742 (by decide) ?_
        refine va_forget (fun q hq => hA2 _ (hS.2.2 q hq)) ?_
        refine W.widen (k := 607190) (n := 7280494) (Nat.le_of_ble_eq_true rfl) (Nat.le_of_ble_eq_true rfl) ?_
        exact lw_ret (d0 := s.drawn) (Drawn.sameBut.refl s.drawn lw_cs) hx hb hr hlocks dL_law_1743
      · skip
        have c_9 : ¬ 0 < 4 := fun z => c_9 ((nI_ltI (a := 0) (b := 4) (by omega) (by omega)).mpr z)
        exact absurd c_9 (by decide)
    · skip
      have c_8 : 1 = 0 := (nI_eq (a := 1) (b := 0) (by omega) (by omega)).mp c_8
      exact absurd c_8 (by decide)
  · skip
    have c_7 : ¬ 1 = 1 := fun z => c_7 ((nI_eq (a := 1) (b := 1) (by omega) (by omega)).mpr z)
    exact absurd c_7 (by decide)
set_option maxHeartbeats 4000000 in
set_option maxRecDepth 100000 in
theorem law_mark {p : Program} {e : Env} {s : State} {m : MethodId} {below : List Frame} {meth : Method} {c : Code} (l : Launch) (hst : l.stackTraces = false) {scr : Nat} {xs : Nat → Int32} (C0 : lw_At p s m meth c scr 4 xs) (G : GG) (A : Nat → Prop) (hA : ∀ q : Nat, s.heap.size ≤ q → A q) (hA2 : ∀ q : Nat, A q → s.heap.size ≤ q) (hK : va_K (gD G) vwCl (gT G) s) (hE : EV G A s s.heap) (ho al ts pb sv b mm sr se mo al2 pf ou od : Nat) (f g hh pff : Nat → Int32) (H : Heap) (locs : List Loc) (hP : va_P (gD G) vwCl [(ho, .inr (11, [.ref al, .ref sv, .ref ts, .ref pb, .null, .int (nI 0)])), (al, .inr (4, [.int (nI 0), .ref (gE G), .int (nI 0)])), (sv, .inr (10, [.ref b, .ref sr, .ref se, .int (nI 0), .int (nI 0), .int (nI 110)])), (b, .inr (5, [.ref mm])), (mm, .inl (gyI G, 16, .inl f)), (sr, .inl (gyI G, 64, .inl g)), (se, .inl (gyI G, 16, .inl hh)), (mo, .inr (15, [.int (nI 0), .ref al2, .long (lN 0), .null, .ref pf, .int (nI 0)])), (al2, .inr (4, [.int (nI 0), .ref (gE G), .int (nI 0)])), (pf, .inl (gyI G, 16, .inl pff)), (ou, .inl (gyL G, 1, .inr (.inl (fun _ => 0)))), (od, .inl (gyD G, 1, .inr (.inr (.inr (.inl (fun _ => 0))))))] H) (hD : va_D A [(ho, .inr (11, [.ref al, .ref sv, .ref ts, .ref pb, .null, .int (nI 0)])), (al, .inr (4, [.int (nI 0), .ref (gE G), .int (nI 0)])), (sv, .inr (10, [.ref b, .ref sr, .ref se, .int (nI 0), .int (nI 0), .int (nI 110)])), (b, .inr (5, [.ref mm])), (mm, .inl (gyI G, 16, .inl f)), (sr, .inl (gyI G, 64, .inl g)), (se, .inl (gyI G, 16, .inl hh)), (mo, .inr (15, [.int (nI 0), .ref al2, .long (lN 0), .null, .ref pf, .int (nI 0)])), (al2, .inr (4, [.int (nI 0), .ref (gE G), .int (nI 0)])), (pf, .inl (gyI G, 16, .inl pff)), (ou, .inl (gyL G, 1, .inr (.inl (fun _ => 0)))), (od, .inl (gyD G, 1, .inr (.inr (.inr (.inl (fun _ => 0))))))]) (hS : va_S A s.heap H locs) (ls : Array Slot) (hl : lv_has ls 9 [(0, .ref scr), (1, .ref ho), (2, .ref mo), (3, .ref ou), (4, .ref od), (5, .int (nI 0))]) : W p l e room_1 s m #[Value.ref scr] below meth c H locs 17 191 (lw_Z below #[Value.ref scr] s) (F0 m 1318 ls []) := by
  obtain ⟨hx, hb, hr, hml, hown, hts0, hX, hbl, hlocks, hgv⟩ := C0
  have hown : s.vm.findClass "PegboardryLaw" = some m.cls := hown
  have hts : ∀ w ∈ WW, w.before #[Value.ref scr] s = true := fun w hw => hts0 w (List.mem_filter.mp hw).1
  have hbA : ¬ A scr := fun z => Nat.not_le.mpr hbl (hA2 _ z)
  refine lv_aload_n hx hb dL_law_1318 rfl (lv_at hl 1 rfl) ?_
  refine lv_aload_n hx hb dL_law_1319 rfl (lv_at hl 0 rfl) ?_
  refine lv_iload hx hb dL_law_1320 (lv_at hl 5 rfl) ?_
  refine lv_iconst (v := nI 1) hx hb dL_law_1322 (by decide) ?_
  refine lv_iadd hx hb dL_law_1323 ?_
  refine lv_toe (nI_add 0 1) ?_
  refine va_sld hx hb hX hbl hbA hS (vp_in_nI (n := 1) (N := 4) (by omega) (by omega)) dL_law_1324 ?_
  refine lv_toe (show xs (nI (1)).toNatClampNeg = xs 1 by rw [nI_clamp (by omega)]) ?_
  refine lv_aload_n hx hb dL_law_1325 rfl (lv_at hl 0 rfl) ?_
  refine lv_iload hx hb dL_law_1326 (lv_at hl 5 rfl) ?_
  refine lv_iconst (v := nI 2) hx hb dL_law_1328 (by decide) ?_
  refine lv_iadd hx hb dL_law_1329 ?_
  refine lv_toe (nI_add 0 2) ?_
  refine va_sld hx hb hX hbl hbA hS (vp_in_nI (n := 2) (N := 4) (by omega) (by omega)) dL_law_1330 ?_
  refine lv_toe (show xs (nI (2)).toNatClampNeg = xs 2 by rw [nI_clamp (by omega)]) ?_
  refine lv_aload_n hx hb dL_law_1331 rfl (lv_at hl 0 rfl) ?_
  refine lv_iload hx hb dL_law_1332 (lv_at hl 5 rfl) ?_
  refine lv_iconst (v := nI 3) hx hb dL_law_1334 (by decide) ?_
  refine lv_iadd hx hb dL_law_1335 ?_
  refine lv_toe (nI_add 0 3) ?_
  refine va_sld hx hb hX hbl hbA hS (vp_in_nI (n := 3) (N := 4) (by omega) (by omega)) dL_law_1336 ?_
  refine lv_toe (show xs (nI (3)).toNatClampNeg = xs 3 by rw [nI_clamp (by omega)]) ?_
  refine lv_aload_n hx hb dL_law_1337 rfl (lv_at hl 3 rfl) ?_
  refine fin_i hP hD hS hA [0, 1, 10] [2, 3, 4, 5, 6, 7, 8, 9, 11] (wr := [(sv, .inr (10, [.ref b, .ref sr, .ref se, .int (nI 0), .int (nI 0), .int (nI 110)])), (b, .inr (5, [.ref mm])), (mm, .inl (gyI G, 16, .inl f)), (sr, .inl (gyI G, 64, .inl g)), (se, .inl (gyI G, 16, .inl hh)), (mo, .inr (15, [.int (nI 0), .ref al2, .long (lN 0), .null, .ref pf, .int (nI 0)])), (al2, .inr (4, [.int (nI 0), .ref (gE G), .int (nI 0)])), (pf, .inl (gyI G, 16, .inl pff)), (od, .inl (gyD G, 1, .inr (.inr (.inr (.inl (fun _ => 0))))))]) rfl rfl (by decide) (by decide) (vx_runSW (As := [.ref ho, .int (xs 1), .int (xs 2), .int (xs 3), .ref ou]) (rest := []) ⟨hx, hb, hml, hown, hts⟩ (l_mark l G ho al ts pb (nI 0) sv (nI 0) (xs 1) (xs 2) (xs 3) ou (fun _ => 0) hst H.size) (vx_cwSW 5 hts (gSt q846 q847 q44 q848) rfl rfl rfl (by decide +kernel) ⟨Nat.le_of_ble_eq_true rfl, Nat.le_of_ble_eq_true rfl⟩) (preS hK hE hP hD hS hA [0, 1, 10] rfl (by decide)) rfl rfl hl.1 rfl (lv_room (Nat.le_of_ble_eq_true rfl)) dL_law_1338 ⟨Nat.le_of_ble_eq_true rfl, Nat.le_of_ble_eq_true rfl⟩) (fun r_2 u9 hw_1 H locs hP hD hS => ?_)
  subst hw_1
  have hP : va_P (gD G) vwCl [(sv, .inr (10, [.ref b, .ref sr, .ref se, .int (nI 0), .int (nI 0), .int (nI 110)])), (b, .inr (5, [.ref mm])), (mm, .inl (gyI G, 16, .inl f)), (sr, .inl (gyI G, 64, .inl g)), (se, .inl (gyI G, 16, .inl hh)), (mo, .inr (15, [.int (nI 0), .ref al2, .long (lN 0), .null, .ref pf, .int (nI 0)])), (al2, .inr (4, [.int (nI 0), .ref (gE G), .int (nI 0)])), (pf, .inl (gyI G, 16, .inl pff)), (od, .inl (gyD G, 1, .inr (.inr (.inr (.inl (fun _ => 0)))))), (ho, .inr (11, [.ref al, .ref sv, .ref ts, .ref pb, .null, .int (nI 0)])), (al, .inr (4, [.int (nI 0), .ref (gE G), .int (nI 0)])), (ou, .inl (gyL G, 1, .inr (.inl (fun _ => 0))))] H := hP
  have hD : va_D A [(sv, .inr (10, [.ref b, .ref sr, .ref se, .int (nI 0), .int (nI 0), .int (nI 110)])), (b, .inr (5, [.ref mm])), (mm, .inl (gyI G, 16, .inl f)), (sr, .inl (gyI G, 64, .inl g)), (se, .inl (gyI G, 16, .inl hh)), (mo, .inr (15, [.int (nI 0), .ref al2, .long (lN 0), .null, .ref pf, .int (nI 0)])), (al2, .inr (4, [.int (nI 0), .ref (gE G), .int (nI 0)])), (pf, .inl (gyI G, 16, .inl pff)), (od, .inl (gyD G, 1, .inr (.inr (.inr (.inl (fun _ => 0)))))), (ho, .inr (11, [.ref al, .ref sv, .ref ts, .ref pb, .null, .int (nI 0)])), (al, .inr (4, [.int (nI 0), .ref (gE G), .int (nI 0)])), (ou, .inl (gyL G, 1, .inr (.inl (fun _ => 0))))] := hD
  refine lv_istore (lv' := [(6, .int (nI 1)), (0, .ref scr), (1, .ref ho), (2, .ref mo), (3, .ref ou), (4, .ref od), (5, .int (nI 0))]) hx hb dL_law_1341 hl (by decide) rfl (fun ls hl => ?_)
  refine lv_aload_n hx hb dL_law_1343 rfl (lv_at hl 3 rfl) ?_
  refine lv_aload_n hx hb dL_law_1344 rfl (lv_at hl 1 rfl) ?_
  refine lv_iload hx hb dL_law_1345 (lv_at hl 6 rfl) ?_
  refine lv_iconst (v := nI 1) hx hb dL_law_1347 (by decide) ?_
  refine lv_iadd hx hb dL_law_1348 ?_
  refine lv_toe (nI_add 0 1) ?_
  refine va_sld hx hb hX hbl hbA hS (vp_in_nI (n := 1) (N := 4) (by omega) (by omega)) dL_law_1349 ?_
  refine lv_toe (show xs (nI (1)).toNatClampNeg = xs 1 by rw [nI_clamp (by omega)]) ?_
  refine lv_aload_n hx hb dL_law_1350 rfl (lv_at hl 1 rfl) ?_
  refine lv_iload hx hb dL_law_1351 (lv_at hl 6 rfl) ?_
  refine lv_iconst (v := nI 2) hx hb dL_law_1353 (by decide) ?_
  refine lv_iadd hx hb dL_law_1354 ?_
  refine lv_toe (nI_add 0 2) ?_
  refine va_sld hx hb hX hbl hbA hS (vp_in_nI (n := 2) (N := 4) (by omega) (by omega)) dL_law_1355 ?_
  refine lv_toe (show xs (nI (2)).toNatClampNeg = xs 2 by rw [nI_clamp (by omega)]) ?_
  refine lv_aload_n hx hb dL_law_1356 rfl (lv_at hl 1 rfl) ?_
  refine lv_iload hx hb dL_law_1357 (lv_at hl 6 rfl) ?_
  refine lv_iconst (v := nI 3) hx hb dL_law_1359 (by decide) ?_
  refine lv_iadd hx hb dL_law_1360 ?_
  refine lv_toe (nI_add 0 3) ?_
  refine va_sld hx hb hX hbl hbA hS (vp_in_nI (n := 3) (N := 4) (by omega) (by omega)) dL_law_1361 ?_
  refine lv_toe (show xs (nI (3)).toNatClampNeg = xs 3 by rw [nI_clamp (by omega)]) ?_
  refine fin_i hP hD hS hA [5, 6] [0, 1, 2, 3, 4, 7, 8, 9, 10, 11] (wr := [(sv, .inr (10, [.ref b, .ref sr, .ref se, .int (nI 0), .int (nI 0), .int (nI 110)])), (b, .inr (5, [.ref mm])), (mm, .inl (gyI G, 16, .inl f)), (sr, .inl (gyI G, 64, .inl g)), (se, .inl (gyI G, 16, .inl hh)), (pf, .inl (gyI G, 16, .inl pff)), (od, .inl (gyD G, 1, .inr (.inr (.inr (.inl (fun _ => 0)))))), (ho, .inr (11, [.ref al, .ref sv, .ref ts, .ref pb, .null, .int (nI 0)])), (al, .inr (4, [.int (nI 0), .ref (gE G), .int (nI 0)])), (ou, .inl (gyL G, 1, .inr (.inl (fun _ => 0))))]) rfl rfl (by decide) (by decide) (va_runV (As := [.int (xs 1), .int (xs 2), .int (xs 3)]) (rest := []) ⟨hx, hb, hml, hown, hts⟩ (c_X10_mark l G mo (nI 0) al2 0 pf (nI 0) (nI 0) (xs 1) (xs 2) (xs 3) H.size) (cwV 3 hts (gV q1336 q1337 q1338 q52 q1339) rfl rfl rfl (by decide +kernel) ⟨Nat.le_of_ble_eq_true rfl, Nat.le_of_ble_eq_true rfl⟩) (preV (q0 := 5) (ci := 15) hK hE hP hD hS hA [5, 6] rfl (by decide) rfl rfl) rfl rfl hl.1 rfl (lv_room (Nat.le_of_ble_eq_true rfl)) dL_law_1362 ⟨Nat.le_of_ble_eq_true rfl, Nat.le_of_ble_eq_true rfl⟩) (fun r_4 u9 hw_3 H locs hP hD hS => ?_)
  have hP : va_P (gD G) vwCl [(sv, .inr (10, [.ref b, .ref sr, .ref se, .int (nI 0), .int (nI 0), .int (nI 110)])), (b, .inr (5, [.ref mm])), (mm, .inl (gyI G, 16, .inl f)), (sr, .inl (gyI G, 64, .inl g)), (se, .inl (gyI G, 16, .inl hh)), (pf, .inl (gyI G, 16, .inl pff)), (od, .inl (gyD G, 1, .inr (.inr (.inr (.inl (fun _ => 0)))))), (ho, .inr (11, [.ref al, .ref sv, .ref ts, .ref pb, .null, .int (nI 0)])), (al, .inr (4, [.int (nI 0), .ref (gE G), .int (nI 0)])), (ou, .inl (gyL G, 1, .inr (.inl (fun _ => 0)))), (mo, .inr (15, [.int (nI 1), .ref al2, .long (lN 0), .null, .ref pf, .int (nI 0)])), (al2, .inr (4, [.int (nI 0), .ref (gE G), .int (nI 0)]))] H := hP
  have hD : va_D A [(sv, .inr (10, [.ref b, .ref sr, .ref se, .int (nI 0), .int (nI 0), .int (nI 110)])), (b, .inr (5, [.ref mm])), (mm, .inl (gyI G, 16, .inl f)), (sr, .inl (gyI G, 64, .inl g)), (se, .inl (gyI G, 16, .inl hh)), (pf, .inl (gyI G, 16, .inl pff)), (od, .inl (gyD G, 1, .inr (.inr (.inr (.inl (fun _ => 0)))))), (ho, .inr (11, [.ref al, .ref sv, .ref ts, .ref pb, .null, .int (nI 0)])), (al, .inr (4, [.int (nI 0), .ref (gE G), .int (nI 0)])), (ou, .inl (gyL G, 1, .inr (.inl (fun _ => 0)))), (mo, .inr (15, [.int (nI 1), .ref al2, .long (lN 0), .null, .ref pf, .int (nI 0)])), (al2, .inr (4, [.int (nI 0), .ref (gE G), .int (nI 0)]))] := hD
  refine lv_istore (lv' := [(7, .int r_4), (6, .int (nI 1)), (0, .ref scr), (1, .ref ho), (2, .ref mo), (3, .ref ou), (4, .ref od), (5, .int (nI 0))]) hx hb dL_law_1365 hl (by decide) rfl (fun ls hl => ?_)
  refine lv_aload_n hx hb dL_law_1367 rfl (lv_at hl 4 rfl) ?_
  refine fin_i hP hD hS hA [10] [0, 1, 2, 3, 4, 5, 6, 7, 8, 9, 11] (wr := [(sv, .inr (10, [.ref b, .ref sr, .ref se, .int (nI 0), .int (nI 0), .int (nI 110)])), (b, .inr (5, [.ref mm])), (mm, .inl (gyI G, 16, .inl f)), (sr, .inl (gyI G, 64, .inl g)), (se, .inl (gyI G, 16, .inl hh)), (pf, .inl (gyI G, 16, .inl pff)), (od, .inl (gyD G, 1, .inr (.inr (.inr (.inl (fun _ => 0)))))), (ho, .inr (11, [.ref al, .ref sv, .ref ts, .ref pb, .null, .int (nI 0)])), (al, .inr (4, [.int (nI 0), .ref (gE G), .int (nI 0)])), (ou, .inl (gyL G, 1, .inr (.inl (fun _ => 0)))), (al2, .inr (4, [.int (nI 0), .ref (gE G), .int (nI 0)]))]) rfl rfl (by decide) (by decide) (va_runV (As := []) (rest := []) ⟨hx, hb, hml, hown, hts⟩ (c_X10_thrown l G mo 1 al2 0 pf (nI 0) H.size) (cwV 0 hts (gV q946 q947 q948 q52 q949) rfl rfl rfl (by decide +kernel) ⟨Nat.le_of_ble_eq_true rfl, Nat.le_of_ble_eq_true rfl⟩) (preV (q0 := 10) (ci := 15) hK hE hP hD hS hA [10] rfl (by decide) rfl rfl) rfl rfl hl.1 rfl (lv_room (Nat.le_of_ble_eq_true rfl)) dL_law_1368 ⟨Nat.le_of_ble_eq_true rfl, Nat.le_of_ble_eq_true rfl⟩) (fun r_6 u9 hw_5 H locs hP hD hS => ?_)
  subst hw_5
  have hP : va_P (gD G) vwCl [(sv, .inr (10, [.ref b, .ref sr, .ref se, .int (nI 0), .int (nI 0), .int (nI 110)])), (b, .inr (5, [.ref mm])), (mm, .inl (gyI G, 16, .inl f)), (sr, .inl (gyI G, 64, .inl g)), (se, .inl (gyI G, 16, .inl hh)), (pf, .inl (gyI G, 16, .inl pff)), (od, .inl (gyD G, 1, .inr (.inr (.inr (.inl (fun _ => 0)))))), (ho, .inr (11, [.ref al, .ref sv, .ref ts, .ref pb, .null, .int (nI 0)])), (al, .inr (4, [.int (nI 0), .ref (gE G), .int (nI 0)])), (ou, .inl (gyL G, 1, .inr (.inl (fun _ => 0)))), (al2, .inr (4, [.int (nI 0), .ref (gE G), .int (nI 0)])), (mo, .inr (15, [.int (nI 1), .ref al2, .long (lN 0), .null, .ref pf, .int (nI 0)]))] H := hP
  have hD : va_D A [(sv, .inr (10, [.ref b, .ref sr, .ref se, .int (nI 0), .int (nI 0), .int (nI 110)])), (b, .inr (5, [.ref mm])), (mm, .inl (gyI G, 16, .inl f)), (sr, .inl (gyI G, 64, .inl g)), (se, .inl (gyI G, 16, .inl hh)), (pf, .inl (gyI G, 16, .inl pff)), (od, .inl (gyD G, 1, .inr (.inr (.inr (.inl (fun _ => 0)))))), (ho, .inr (11, [.ref al, .ref sv, .ref ts, .ref pb, .null, .int (nI 0)])), (al, .inr (4, [.int (nI 0), .ref (gE G), .int (nI 0)])), (ou, .inl (gyL G, 1, .inr (.inl (fun _ => 0)))), (al2, .inr (4, [.int (nI 0), .ref (gE G), .int (nI 0)])), (mo, .inr (15, [.int (nI 1), .ref al2, .long (lN 0), .null, .ref pf, .int (nI 0)]))] := hD
  refine lv_iload hx hb dL_law_1371 (lv_at hl 1 rfl) ?_
  refine lv_icmp_eq (tgt := 1378) hx hb dL_law_1373 (by decide) (fun c_7 => ?_) (fun c_7 => ?_)
  · skip
    have c_7 : 1 = 1 := (nI_eq (a := 1) (b := 1) (by omega) (by omega)).mp c_7
    refine lv_iload hx hb dL_law_1378 (lv_at hl 1 rfl) ?_
    refine lv_if_ne (tgt := 1395) hx hb dL_law_1380 (by decide) (fun c_8 => ?_) (fun c_8 => ?_)
    · skip
      have c_8 : ¬ 1 = 0 := fun z => c_8 ((nI_eq (a := 1) (b := 0) (by omega) (by omega)).mpr z)
      refine lv_goto (tgt := 1736) hx hb dL_law_1395 (by decide) ?_
      refine lv_iinc (v := nI 4) (lv' := [(5, .int (nI 4)), (7, .int r_4), (6, .int (nI 1)), (0, .ref scr), (1, .ref ho), (2, .ref mo), (3, .ref ou), (4, .ref od)]) hx hb dL_law_1736 hl (k := 7) rfl (nI_add 0 4) (by decide) rfl (fun ls hl => ?_)
      refine lv_goto (tgt := 28) hx hb dL_law_1739 (by decide) ?_
      refine lv_iload hx hb dL_law_28 (lv_at hl 0 rfl) ?_
      refine lv_aload_n hx hb dL_law_30 rfl (lv_at hl 3 rfl) ?_
      refine va_slen hx hb hX hbl hbA hS dL_law_31 ?_
      refine lv_toe (show Int32.ofNat 4 = nI 4 from rfl) ?_
      refine lv_iconst (v := nI 4) hx hb dL_law_32 (by decide) ?_
      refine lv_isub hx hb dL_law_33 ?_
      refine lv_toe (pk_sub (a := 4) (b := 4) (by omega)) ?_
      refine lv_icmp_gt (tgt := 1742) hx hb dL_law_34 (by decide) (fun c_9 => ?_) (fun c_9 => ?_)
      · skip
        have c_9 : 0 < 4 := (nI_ltI (a := 0) (b := 4) (by omega) (by omega)).mp c_9
        refine lv_iconst (v := nI 1) hx hb dL_law_1742 (by decide) ?_
        refine va_forget (fun q hq => hA2 _ (hS.2.2 q hq)) ?_
        refine W.widen (k := 607190) (n := 7280494) (Nat.le_of_ble_eq_true rfl) (Nat.le_of_ble_eq_true rfl) ?_
        exact lw_ret (d0 := s.drawn) (Drawn.sameBut.refl s.drawn lw_cs) hx hb hr hlocks dL_law_1743
      · skip
        have c_9 : ¬ 0 < 4 := fun z => c_9 ((nI_ltI (a := 0) (b := 4) (by omega) (by omega)).mpr z)
        exact absurd c_9 (by decide)
    · skip
      have c_8 : 1 = 0 := (nI_eq (a := 1) (b := 0) (by omega) (by omega)).mp c_8
      exact absurd c_8 (by decide)
  · skip
    have c_7 : ¬ 1 = 1 := fun z => c_7 ((nI_eq (a := 1) (b := 1) (by omega) (by omega)).mpr z)
    exact absurd c_7 (by decide)
set_option maxHeartbeats 4000000 in
set_option maxRecDepth 100000 in
theorem law_marked {p : Program} {e : Env} {s : State} {m : MethodId} {below : List Frame} {meth : Method} {c : Code} (l : Launch) (hst : l.stackTraces = false) {scr : Nat} {xs : Nat → Int32} (C0 : lw_At p s m meth c scr 4 xs) (G : GG) (A : Nat → Prop) (hA : ∀ q : Nat, s.heap.size ≤ q → A q) (hA2 : ∀ q : Nat, A q → s.heap.size ≤ q) (hK : va_K (gD G) vwCl (gT G) s) (hE : EV G A s s.heap) (ho al ts pb sv b mm sr se mo al2 pf ou od : Nat) (f g hh pff : Nat → Int32) (H : Heap) (locs : List Loc) (hP : va_P (gD G) vwCl [(ho, .inr (11, [.ref al, .ref sv, .ref ts, .ref pb, .null, .int (nI 0)])), (al, .inr (4, [.int (nI 0), .ref (gE G), .int (nI 0)])), (sv, .inr (10, [.ref b, .ref sr, .ref se, .int (nI 0), .int (nI 0), .int (nI 110)])), (b, .inr (5, [.ref mm])), (mm, .inl (gyI G, 16, .inl f)), (sr, .inl (gyI G, 64, .inl g)), (se, .inl (gyI G, 16, .inl hh)), (mo, .inr (15, [.int (nI 0), .ref al2, .long (lN 0), .null, .ref pf, .int (nI 0)])), (al2, .inr (4, [.int (nI 0), .ref (gE G), .int (nI 0)])), (pf, .inl (gyI G, 16, .inl pff)), (ou, .inl (gyL G, 1, .inr (.inl (fun _ => 0)))), (od, .inl (gyD G, 1, .inr (.inr (.inr (.inl (fun _ => 0))))))] H) (hD : va_D A [(ho, .inr (11, [.ref al, .ref sv, .ref ts, .ref pb, .null, .int (nI 0)])), (al, .inr (4, [.int (nI 0), .ref (gE G), .int (nI 0)])), (sv, .inr (10, [.ref b, .ref sr, .ref se, .int (nI 0), .int (nI 0), .int (nI 110)])), (b, .inr (5, [.ref mm])), (mm, .inl (gyI G, 16, .inl f)), (sr, .inl (gyI G, 64, .inl g)), (se, .inl (gyI G, 16, .inl hh)), (mo, .inr (15, [.int (nI 0), .ref al2, .long (lN 0), .null, .ref pf, .int (nI 0)])), (al2, .inr (4, [.int (nI 0), .ref (gE G), .int (nI 0)])), (pf, .inl (gyI G, 16, .inl pff)), (ou, .inl (gyL G, 1, .inr (.inl (fun _ => 0)))), (od, .inl (gyD G, 1, .inr (.inr (.inr (.inl (fun _ => 0))))))]) (hS : va_S A s.heap H locs) (ls : Array Slot) (hl : lv_has ls 9 [(0, .ref scr), (1, .ref ho), (2, .ref mo), (3, .ref ou), (4, .ref od), (5, .int (nI 0))]) : W p l e room_1 s m #[Value.ref scr] below meth c H locs 17 191 (lw_Z below #[Value.ref scr] s) (F0 m 1398 ls []) := by
  obtain ⟨hx, hb, hr, hml, hown, hts0, hX, hbl, hlocks, hgv⟩ := C0
  have hown : s.vm.findClass "PegboardryLaw" = some m.cls := hown
  have hts : ∀ w ∈ WW, w.before #[Value.ref scr] s = true := fun w hw => hts0 w (List.mem_filter.mp hw).1
  have hbA : ¬ A scr := fun z => Nat.not_le.mpr hbl (hA2 _ z)
  refine lv_aload_n hx hb dL_law_1398 rfl (lv_at hl 1 rfl) ?_
  refine lv_aload_n hx hb dL_law_1399 rfl (lv_at hl 0 rfl) ?_
  refine lv_iload hx hb dL_law_1400 (lv_at hl 5 rfl) ?_
  refine lv_iconst (v := nI 1) hx hb dL_law_1402 (by decide) ?_
  refine lv_iadd hx hb dL_law_1403 ?_
  refine lv_toe (nI_add 0 1) ?_
  refine va_sld hx hb hX hbl hbA hS (vp_in_nI (n := 1) (N := 4) (by omega) (by omega)) dL_law_1404 ?_
  refine lv_toe (show xs (nI (1)).toNatClampNeg = xs 1 by rw [nI_clamp (by omega)]) ?_
  refine lv_aload_n hx hb dL_law_1405 rfl (lv_at hl 0 rfl) ?_
  refine lv_iload hx hb dL_law_1406 (lv_at hl 5 rfl) ?_
  refine lv_iconst (v := nI 2) hx hb dL_law_1408 (by decide) ?_
  refine lv_iadd hx hb dL_law_1409 ?_
  refine lv_toe (nI_add 0 2) ?_
  refine va_sld hx hb hX hbl hbA hS (vp_in_nI (n := 2) (N := 4) (by omega) (by omega)) dL_law_1410 ?_
  refine lv_toe (show xs (nI (2)).toNatClampNeg = xs 2 by rw [nI_clamp (by omega)]) ?_
  refine lv_aload_n hx hb dL_law_1411 rfl (lv_at hl 3 rfl) ?_
  refine fin_i hP hD hS hA [0, 1, 10] [2, 3, 4, 5, 6, 7, 8, 9, 11] (wr := [(sv, .inr (10, [.ref b, .ref sr, .ref se, .int (nI 0), .int (nI 0), .int (nI 110)])), (b, .inr (5, [.ref mm])), (mm, .inl (gyI G, 16, .inl f)), (sr, .inl (gyI G, 64, .inl g)), (se, .inl (gyI G, 16, .inl hh)), (mo, .inr (15, [.int (nI 0), .ref al2, .long (lN 0), .null, .ref pf, .int (nI 0)])), (al2, .inr (4, [.int (nI 0), .ref (gE G), .int (nI 0)])), (pf, .inl (gyI G, 16, .inl pff)), (od, .inl (gyD G, 1, .inr (.inr (.inr (.inl (fun _ => 0))))))]) rfl rfl (by decide) (by decide) (vx_runSW (As := [.ref ho, .int (xs 1), .int (xs 2), .ref ou]) (rest := []) ⟨hx, hb, hml, hown, hts⟩ (l_marked l G ho al ts pb (nI 0) sv (nI 0) (xs 1) (xs 2) ou (fun _ => 0) hst H.size) (vx_cwSW 4 hts (gSt q853 q854 q44 q855) rfl rfl rfl (by decide +kernel) ⟨Nat.le_of_ble_eq_true rfl, Nat.le_of_ble_eq_true rfl⟩) (preS hK hE hP hD hS hA [0, 1, 10] rfl (by decide)) rfl rfl hl.1 rfl (lv_room (Nat.le_of_ble_eq_true rfl)) dL_law_1412 ⟨Nat.le_of_ble_eq_true rfl, Nat.le_of_ble_eq_true rfl⟩) (fun r_2 u9 hw_1 H locs hP hD hS => ?_)
  subst hw_1
  have hP : va_P (gD G) vwCl [(sv, .inr (10, [.ref b, .ref sr, .ref se, .int (nI 0), .int (nI 0), .int (nI 110)])), (b, .inr (5, [.ref mm])), (mm, .inl (gyI G, 16, .inl f)), (sr, .inl (gyI G, 64, .inl g)), (se, .inl (gyI G, 16, .inl hh)), (mo, .inr (15, [.int (nI 0), .ref al2, .long (lN 0), .null, .ref pf, .int (nI 0)])), (al2, .inr (4, [.int (nI 0), .ref (gE G), .int (nI 0)])), (pf, .inl (gyI G, 16, .inl pff)), (od, .inl (gyD G, 1, .inr (.inr (.inr (.inl (fun _ => 0)))))), (ho, .inr (11, [.ref al, .ref sv, .ref ts, .ref pb, .null, .int (nI 0)])), (al, .inr (4, [.int (nI 0), .ref (gE G), .int (nI 0)])), (ou, .inl (gyL G, 1, .inr (.inl (fun _ => 0))))] H := hP
  have hD : va_D A [(sv, .inr (10, [.ref b, .ref sr, .ref se, .int (nI 0), .int (nI 0), .int (nI 110)])), (b, .inr (5, [.ref mm])), (mm, .inl (gyI G, 16, .inl f)), (sr, .inl (gyI G, 64, .inl g)), (se, .inl (gyI G, 16, .inl hh)), (mo, .inr (15, [.int (nI 0), .ref al2, .long (lN 0), .null, .ref pf, .int (nI 0)])), (al2, .inr (4, [.int (nI 0), .ref (gE G), .int (nI 0)])), (pf, .inl (gyI G, 16, .inl pff)), (od, .inl (gyD G, 1, .inr (.inr (.inr (.inl (fun _ => 0)))))), (ho, .inr (11, [.ref al, .ref sv, .ref ts, .ref pb, .null, .int (nI 0)])), (al, .inr (4, [.int (nI 0), .ref (gE G), .int (nI 0)])), (ou, .inl (gyL G, 1, .inr (.inl (fun _ => 0))))] := hD
  refine lv_istore (lv' := [(6, .int (nI 1)), (0, .ref scr), (1, .ref ho), (2, .ref mo), (3, .ref ou), (4, .ref od), (5, .int (nI 0))]) hx hb dL_law_1415 hl (by decide) rfl (fun ls hl => ?_)
  refine lv_aload_n hx hb dL_law_1417 rfl (lv_at hl 3 rfl) ?_
  refine lv_aload_n hx hb dL_law_1418 rfl (lv_at hl 1 rfl) ?_
  refine lv_iload hx hb dL_law_1419 (lv_at hl 6 rfl) ?_
  refine lv_iconst (v := nI 1) hx hb dL_law_1421 (by decide) ?_
  refine lv_iadd hx hb dL_law_1422 ?_
  refine lv_toe (nI_add 0 1) ?_
  refine va_sld hx hb hX hbl hbA hS (vp_in_nI (n := 1) (N := 4) (by omega) (by omega)) dL_law_1423 ?_
  refine lv_toe (show xs (nI (1)).toNatClampNeg = xs 1 by rw [nI_clamp (by omega)]) ?_
  refine lv_aload_n hx hb dL_law_1424 rfl (lv_at hl 1 rfl) ?_
  refine lv_iload hx hb dL_law_1425 (lv_at hl 6 rfl) ?_
  refine lv_iconst (v := nI 2) hx hb dL_law_1427 (by decide) ?_
  refine lv_iadd hx hb dL_law_1428 ?_
  refine lv_toe (nI_add 0 2) ?_
  refine va_sld hx hb hX hbl hbA hS (vp_in_nI (n := 2) (N := 4) (by omega) (by omega)) dL_law_1429 ?_
  refine lv_toe (show xs (nI (2)).toNatClampNeg = xs 2 by rw [nI_clamp (by omega)]) ?_
  refine fin_i hP hD hS hA [5, 6] [0, 1, 2, 3, 4, 7, 8, 9, 10, 11] (wr := [(sv, .inr (10, [.ref b, .ref sr, .ref se, .int (nI 0), .int (nI 0), .int (nI 110)])), (b, .inr (5, [.ref mm])), (mm, .inl (gyI G, 16, .inl f)), (sr, .inl (gyI G, 64, .inl g)), (se, .inl (gyI G, 16, .inl hh)), (pf, .inl (gyI G, 16, .inl pff)), (od, .inl (gyD G, 1, .inr (.inr (.inr (.inl (fun _ => 0)))))), (ho, .inr (11, [.ref al, .ref sv, .ref ts, .ref pb, .null, .int (nI 0)])), (al, .inr (4, [.int (nI 0), .ref (gE G), .int (nI 0)])), (ou, .inl (gyL G, 1, .inr (.inl (fun _ => 0))))]) rfl rfl (by decide) (by decide) (va_runV (As := [.int (xs 1), .int (xs 2)]) (rest := []) ⟨hx, hb, hml, hown, hts⟩ (c_X10_marked l G mo (nI 0) al2 0 pf (nI 0) (nI 0) (xs 1) (xs 2) H.size) (cwV 2 hts (gV q1340 q1341 q1342 q52 q1343) rfl rfl rfl (by decide +kernel) ⟨Nat.le_of_ble_eq_true rfl, Nat.le_of_ble_eq_true rfl⟩) (preV (q0 := 5) (ci := 15) hK hE hP hD hS hA [5, 6] rfl (by decide) rfl rfl) rfl rfl hl.1 rfl (lv_room (Nat.le_of_ble_eq_true rfl)) dL_law_1430 ⟨Nat.le_of_ble_eq_true rfl, Nat.le_of_ble_eq_true rfl⟩) (fun r_4 u9 hw_3 H locs hP hD hS => ?_)
  have hP : va_P (gD G) vwCl [(sv, .inr (10, [.ref b, .ref sr, .ref se, .int (nI 0), .int (nI 0), .int (nI 110)])), (b, .inr (5, [.ref mm])), (mm, .inl (gyI G, 16, .inl f)), (sr, .inl (gyI G, 64, .inl g)), (se, .inl (gyI G, 16, .inl hh)), (pf, .inl (gyI G, 16, .inl pff)), (od, .inl (gyD G, 1, .inr (.inr (.inr (.inl (fun _ => 0)))))), (ho, .inr (11, [.ref al, .ref sv, .ref ts, .ref pb, .null, .int (nI 0)])), (al, .inr (4, [.int (nI 0), .ref (gE G), .int (nI 0)])), (ou, .inl (gyL G, 1, .inr (.inl (fun _ => 0)))), (mo, .inr (15, [.int (nI 1), .ref al2, .long (lN 0), .null, .ref pf, .int (nI 0)])), (al2, .inr (4, [.int (nI 0), .ref (gE G), .int (nI 0)]))] H := hP
  have hD : va_D A [(sv, .inr (10, [.ref b, .ref sr, .ref se, .int (nI 0), .int (nI 0), .int (nI 110)])), (b, .inr (5, [.ref mm])), (mm, .inl (gyI G, 16, .inl f)), (sr, .inl (gyI G, 64, .inl g)), (se, .inl (gyI G, 16, .inl hh)), (pf, .inl (gyI G, 16, .inl pff)), (od, .inl (gyD G, 1, .inr (.inr (.inr (.inl (fun _ => 0)))))), (ho, .inr (11, [.ref al, .ref sv, .ref ts, .ref pb, .null, .int (nI 0)])), (al, .inr (4, [.int (nI 0), .ref (gE G), .int (nI 0)])), (ou, .inl (gyL G, 1, .inr (.inl (fun _ => 0)))), (mo, .inr (15, [.int (nI 1), .ref al2, .long (lN 0), .null, .ref pf, .int (nI 0)])), (al2, .inr (4, [.int (nI 0), .ref (gE G), .int (nI 0)]))] := hD
  refine lv_istore (lv' := [(7, .int r_4), (6, .int (nI 1)), (0, .ref scr), (1, .ref ho), (2, .ref mo), (3, .ref ou), (4, .ref od), (5, .int (nI 0))]) hx hb dL_law_1433 hl (by decide) rfl (fun ls hl => ?_)
  refine lv_aload_n hx hb dL_law_1435 rfl (lv_at hl 4 rfl) ?_
  refine fin_i hP hD hS hA [10] [0, 1, 2, 3, 4, 5, 6, 7, 8, 9, 11] (wr := [(sv, .inr (10, [.ref b, .ref sr, .ref se, .int (nI 0), .int (nI 0), .int (nI 110)])), (b, .inr (5, [.ref mm])), (mm, .inl (gyI G, 16, .inl f)), (sr, .inl (gyI G, 64, .inl g)), (se, .inl (gyI G, 16, .inl hh)), (pf, .inl (gyI G, 16, .inl pff)), (od, .inl (gyD G, 1, .inr (.inr (.inr (.inl (fun _ => 0)))))), (ho, .inr (11, [.ref al, .ref sv, .ref ts, .ref pb, .null, .int (nI 0)])), (al, .inr (4, [.int (nI 0), .ref (gE G), .int (nI 0)])), (ou, .inl (gyL G, 1, .inr (.inl (fun _ => 0)))), (al2, .inr (4, [.int (nI 0), .ref (gE G), .int (nI 0)]))]) rfl rfl (by decide) (by decide) (va_runV (As := []) (rest := []) ⟨hx, hb, hml, hown, hts⟩ (c_X10_thrown l G mo 1 al2 0 pf (nI 0) H.size) (cwV 0 hts (gV q946 q947 q948 q52 q949) rfl rfl rfl (by decide +kernel) ⟨Nat.le_of_ble_eq_true rfl, Nat.le_of_ble_eq_true rfl⟩) (preV (q0 := 10) (ci := 15) hK hE hP hD hS hA [10] rfl (by decide) rfl rfl) rfl rfl hl.1 rfl (lv_room (Nat.le_of_ble_eq_true rfl)) dL_law_1436 ⟨Nat.le_of_ble_eq_true rfl, Nat.le_of_ble_eq_true rfl⟩) (fun r_6 u9 hw_5 H locs hP hD hS => ?_)
  subst hw_5
  have hP : va_P (gD G) vwCl [(sv, .inr (10, [.ref b, .ref sr, .ref se, .int (nI 0), .int (nI 0), .int (nI 110)])), (b, .inr (5, [.ref mm])), (mm, .inl (gyI G, 16, .inl f)), (sr, .inl (gyI G, 64, .inl g)), (se, .inl (gyI G, 16, .inl hh)), (pf, .inl (gyI G, 16, .inl pff)), (od, .inl (gyD G, 1, .inr (.inr (.inr (.inl (fun _ => 0)))))), (ho, .inr (11, [.ref al, .ref sv, .ref ts, .ref pb, .null, .int (nI 0)])), (al, .inr (4, [.int (nI 0), .ref (gE G), .int (nI 0)])), (ou, .inl (gyL G, 1, .inr (.inl (fun _ => 0)))), (al2, .inr (4, [.int (nI 0), .ref (gE G), .int (nI 0)])), (mo, .inr (15, [.int (nI 1), .ref al2, .long (lN 0), .null, .ref pf, .int (nI 0)]))] H := hP
  have hD : va_D A [(sv, .inr (10, [.ref b, .ref sr, .ref se, .int (nI 0), .int (nI 0), .int (nI 110)])), (b, .inr (5, [.ref mm])), (mm, .inl (gyI G, 16, .inl f)), (sr, .inl (gyI G, 64, .inl g)), (se, .inl (gyI G, 16, .inl hh)), (pf, .inl (gyI G, 16, .inl pff)), (od, .inl (gyD G, 1, .inr (.inr (.inr (.inl (fun _ => 0)))))), (ho, .inr (11, [.ref al, .ref sv, .ref ts, .ref pb, .null, .int (nI 0)])), (al, .inr (4, [.int (nI 0), .ref (gE G), .int (nI 0)])), (ou, .inl (gyL G, 1, .inr (.inl (fun _ => 0)))), (al2, .inr (4, [.int (nI 0), .ref (gE G), .int (nI 0)])), (mo, .inr (15, [.int (nI 1), .ref al2, .long (lN 0), .null, .ref pf, .int (nI 0)]))] := hD
  refine lv_iload hx hb dL_law_1439 (lv_at hl 1 rfl) ?_
  refine lv_icmp_eq (tgt := 1446) hx hb dL_law_1441 (by decide) (fun c_7 => ?_) (fun c_7 => ?_)
  · skip
    have c_7 : 1 = 1 := (nI_eq (a := 1) (b := 1) (by omega) (by omega)).mp c_7
    refine lv_iload hx hb dL_law_1446 (lv_at hl 1 rfl) ?_
    refine lv_if_ne (tgt := 1463) hx hb dL_law_1448 (by decide) (fun c_8 => ?_) (fun c_8 => ?_)
    · skip
      have c_8 : ¬ 1 = 0 := fun z => c_8 ((nI_eq (a := 1) (b := 0) (by omega) (by omega)).mpr z)
      refine lv_goto (tgt := 1736) hx hb dL_law_1463 (by decide) ?_
      refine lv_iinc (v := nI 4) (lv' := [(5, .int (nI 4)), (7, .int r_4), (6, .int (nI 1)), (0, .ref scr), (1, .ref ho), (2, .ref mo), (3, .ref ou), (4, .ref od)]) hx hb dL_law_1736 hl (k := 7) rfl (nI_add 0 4) (by decide) rfl (fun ls hl => ?_)
      refine lv_goto (tgt := 28) hx hb dL_law_1739 (by decide) ?_
      refine lv_iload hx hb dL_law_28 (lv_at hl 0 rfl) ?_
      refine lv_aload_n hx hb dL_law_30 rfl (lv_at hl 3 rfl) ?_
      refine va_slen hx hb hX hbl hbA hS dL_law_31 ?_
      refine lv_toe (show Int32.ofNat 4 = nI 4 from rfl) ?_
      refine lv_iconst (v := nI 4) hx hb dL_law_32 (by decide) ?_
      refine lv_isub hx hb dL_law_33 ?_
      refine lv_toe (pk_sub (a := 4) (b := 4) (by omega)) ?_
      refine lv_icmp_gt (tgt := 1742) hx hb dL_law_34 (by decide) (fun c_9 => ?_) (fun c_9 => ?_)
      · skip
        have c_9 : 0 < 4 := (nI_ltI (a := 0) (b := 4) (by omega) (by omega)).mp c_9
        refine lv_iconst (v := nI 1) hx hb dL_law_1742 (by decide) ?_
        refine va_forget (fun q hq => hA2 _ (hS.2.2 q hq)) ?_
        refine W.widen (k := 607190) (n := 7280494) (Nat.le_of_ble_eq_true rfl) (Nat.le_of_ble_eq_true rfl) ?_
        exact lw_ret (d0 := s.drawn) (Drawn.sameBut.refl s.drawn lw_cs) hx hb hr hlocks dL_law_1743
      · skip
        have c_9 : ¬ 0 < 4 := fun z => c_9 ((nI_ltI (a := 0) (b := 4) (by omega) (by omega)).mpr z)
        exact absurd c_9 (by decide)
    · skip
      have c_8 : 1 = 0 := (nI_eq (a := 1) (b := 0) (by omega) (by omega)).mp c_8
      exact absurd c_8 (by decide)
  · skip
    have c_7 : ¬ 1 = 1 := fun z => c_7 ((nI_eq (a := 1) (b := 1) (by omega) (by omega)).mpr z)
    exact absurd c_7 (by decide)
set_option maxHeartbeats 4000000 in
set_option maxRecDepth 100000 in
theorem law_wrong {p : Program} {e : Env} {s : State} {m : MethodId} {below : List Frame} {meth : Method} {c : Code} (l : Launch) (hst : l.stackTraces = false) {scr : Nat} {xs : Nat → Int32} (C0 : lw_At p s m meth c scr 4 xs) (G : GG) (A : Nat → Prop) (hA : ∀ q : Nat, s.heap.size ≤ q → A q) (hA2 : ∀ q : Nat, A q → s.heap.size ≤ q) (hK : va_K (gD G) vwCl (gT G) s) (hE : EV G A s s.heap) (ho al ts pb sv b mm sr se mo al2 pf ou od : Nat) (f g hh pff : Nat → Int32) (H : Heap) (locs : List Loc) (hP : va_P (gD G) vwCl [(ho, .inr (11, [.ref al, .ref sv, .ref ts, .ref pb, .null, .int (nI 0)])), (al, .inr (4, [.int (nI 0), .ref (gE G), .int (nI 0)])), (sv, .inr (10, [.ref b, .ref sr, .ref se, .int (nI 0), .int (nI 0), .int (nI 110)])), (b, .inr (5, [.ref mm])), (mm, .inl (gyI G, 16, .inl f)), (sr, .inl (gyI G, 64, .inl g)), (se, .inl (gyI G, 16, .inl hh)), (mo, .inr (15, [.int (nI 0), .ref al2, .long (lN 0), .null, .ref pf, .int (nI 0)])), (al2, .inr (4, [.int (nI 0), .ref (gE G), .int (nI 0)])), (pf, .inl (gyI G, 16, .inl pff)), (ou, .inl (gyL G, 1, .inr (.inl (fun _ => 0)))), (od, .inl (gyD G, 1, .inr (.inr (.inr (.inl (fun _ => 0))))))] H) (hD : va_D A [(ho, .inr (11, [.ref al, .ref sv, .ref ts, .ref pb, .null, .int (nI 0)])), (al, .inr (4, [.int (nI 0), .ref (gE G), .int (nI 0)])), (sv, .inr (10, [.ref b, .ref sr, .ref se, .int (nI 0), .int (nI 0), .int (nI 110)])), (b, .inr (5, [.ref mm])), (mm, .inl (gyI G, 16, .inl f)), (sr, .inl (gyI G, 64, .inl g)), (se, .inl (gyI G, 16, .inl hh)), (mo, .inr (15, [.int (nI 0), .ref al2, .long (lN 0), .null, .ref pf, .int (nI 0)])), (al2, .inr (4, [.int (nI 0), .ref (gE G), .int (nI 0)])), (pf, .inl (gyI G, 16, .inl pff)), (ou, .inl (gyL G, 1, .inr (.inl (fun _ => 0)))), (od, .inl (gyD G, 1, .inr (.inr (.inr (.inl (fun _ => 0))))))]) (hS : va_S A s.heap H locs) (ls : Array Slot) (hl : lv_has ls 9 [(0, .ref scr), (1, .ref ho), (2, .ref mo), (3, .ref ou), (4, .ref od), (5, .int (nI 0))]) : W p l e room_1 s m #[Value.ref scr] below meth c H locs 17 191 (lw_Z below #[Value.ref scr] s) (F0 m 1466 ls []) := by
  obtain ⟨hx, hb, hr, hml, hown, hts0, hX, hbl, hlocks, hgv⟩ := C0
  have hown : s.vm.findClass "PegboardryLaw" = some m.cls := hown
  have hts : ∀ w ∈ WW, w.before #[Value.ref scr] s = true := fun w hw => hts0 w (List.mem_filter.mp hw).1
  have hbA : ¬ A scr := fun z => Nat.not_le.mpr hbl (hA2 _ z)
  refine lv_aload_n hx hb dL_law_1466 rfl (lv_at hl 1 rfl) ?_
  refine lv_aload_n hx hb dL_law_1467 rfl (lv_at hl 0 rfl) ?_
  refine lv_iload hx hb dL_law_1468 (lv_at hl 5 rfl) ?_
  refine lv_iconst (v := nI 1) hx hb dL_law_1470 (by decide) ?_
  refine lv_iadd hx hb dL_law_1471 ?_
  refine lv_toe (nI_add 0 1) ?_
  refine va_sld hx hb hX hbl hbA hS (vp_in_nI (n := 1) (N := 4) (by omega) (by omega)) dL_law_1472 ?_
  refine lv_toe (show xs (nI (1)).toNatClampNeg = xs 1 by rw [nI_clamp (by omega)]) ?_
  refine lv_aload_n hx hb dL_law_1473 rfl (lv_at hl 3 rfl) ?_
  refine fin_i hP hD hS hA [0, 1, 10] [2, 3, 4, 5, 6, 7, 8, 9, 11] (wr := [(sv, .inr (10, [.ref b, .ref sr, .ref se, .int (nI 0), .int (nI 0), .int (nI 110)])), (b, .inr (5, [.ref mm])), (mm, .inl (gyI G, 16, .inl f)), (sr, .inl (gyI G, 64, .inl g)), (se, .inl (gyI G, 16, .inl hh)), (mo, .inr (15, [.int (nI 0), .ref al2, .long (lN 0), .null, .ref pf, .int (nI 0)])), (al2, .inr (4, [.int (nI 0), .ref (gE G), .int (nI 0)])), (pf, .inl (gyI G, 16, .inl pff)), (od, .inl (gyD G, 1, .inr (.inr (.inr (.inl (fun _ => 0))))))]) rfl rfl (by decide) (by decide) (vx_runSW (As := [.ref ho, .int (xs 1), .ref ou]) (rest := []) ⟨hx, hb, hml, hown, hts⟩ (l_wrong l G ho al ts pb (nI 0) sv (nI 0) (xs 1) ou (fun _ => 0) hst H.size) (vx_cwSW 3 hts (gSt q860 q861 q44 q862) rfl rfl rfl (by decide +kernel) ⟨Nat.le_of_ble_eq_true rfl, Nat.le_of_ble_eq_true rfl⟩) (preS hK hE hP hD hS hA [0, 1, 10] rfl (by decide)) rfl rfl hl.1 rfl (lv_room (Nat.le_of_ble_eq_true rfl)) dL_law_1474 ⟨Nat.le_of_ble_eq_true rfl, Nat.le_of_ble_eq_true rfl⟩) (fun r_2 u9 hw_1 H locs hP hD hS => ?_)
  subst hw_1
  have hP : va_P (gD G) vwCl [(sv, .inr (10, [.ref b, .ref sr, .ref se, .int (nI 0), .int (nI 0), .int (nI 110)])), (b, .inr (5, [.ref mm])), (mm, .inl (gyI G, 16, .inl f)), (sr, .inl (gyI G, 64, .inl g)), (se, .inl (gyI G, 16, .inl hh)), (mo, .inr (15, [.int (nI 0), .ref al2, .long (lN 0), .null, .ref pf, .int (nI 0)])), (al2, .inr (4, [.int (nI 0), .ref (gE G), .int (nI 0)])), (pf, .inl (gyI G, 16, .inl pff)), (od, .inl (gyD G, 1, .inr (.inr (.inr (.inl (fun _ => 0)))))), (ho, .inr (11, [.ref al, .ref sv, .ref ts, .ref pb, .null, .int (nI 0)])), (al, .inr (4, [.int (nI 0), .ref (gE G), .int (nI 0)])), (ou, .inl (gyL G, 1, .inr (.inl (fun _ => 0))))] H := hP
  have hD : va_D A [(sv, .inr (10, [.ref b, .ref sr, .ref se, .int (nI 0), .int (nI 0), .int (nI 110)])), (b, .inr (5, [.ref mm])), (mm, .inl (gyI G, 16, .inl f)), (sr, .inl (gyI G, 64, .inl g)), (se, .inl (gyI G, 16, .inl hh)), (mo, .inr (15, [.int (nI 0), .ref al2, .long (lN 0), .null, .ref pf, .int (nI 0)])), (al2, .inr (4, [.int (nI 0), .ref (gE G), .int (nI 0)])), (pf, .inl (gyI G, 16, .inl pff)), (od, .inl (gyD G, 1, .inr (.inr (.inr (.inl (fun _ => 0)))))), (ho, .inr (11, [.ref al, .ref sv, .ref ts, .ref pb, .null, .int (nI 0)])), (al, .inr (4, [.int (nI 0), .ref (gE G), .int (nI 0)])), (ou, .inl (gyL G, 1, .inr (.inl (fun _ => 0))))] := hD
  refine lv_istore (lv' := [(6, .int (nI 1)), (0, .ref scr), (1, .ref ho), (2, .ref mo), (3, .ref ou), (4, .ref od), (5, .int (nI 0))]) hx hb dL_law_1477 hl (by decide) rfl (fun ls hl => ?_)
  refine lv_aload_n hx hb dL_law_1479 rfl (lv_at hl 3 rfl) ?_
  refine lv_aload_n hx hb dL_law_1480 rfl (lv_at hl 1 rfl) ?_
  refine lv_iload hx hb dL_law_1481 (lv_at hl 6 rfl) ?_
  refine lv_iconst (v := nI 1) hx hb dL_law_1483 (by decide) ?_
  refine lv_iadd hx hb dL_law_1484 ?_
  refine lv_toe (nI_add 0 1) ?_
  refine va_sld hx hb hX hbl hbA hS (vp_in_nI (n := 1) (N := 4) (by omega) (by omega)) dL_law_1485 ?_
  refine lv_toe (show xs (nI (1)).toNatClampNeg = xs 1 by rw [nI_clamp (by omega)]) ?_
  refine fin_i hP hD hS hA [5, 6] [0, 1, 2, 3, 4, 7, 8, 9, 10, 11] (wr := [(sv, .inr (10, [.ref b, .ref sr, .ref se, .int (nI 0), .int (nI 0), .int (nI 110)])), (b, .inr (5, [.ref mm])), (mm, .inl (gyI G, 16, .inl f)), (sr, .inl (gyI G, 64, .inl g)), (se, .inl (gyI G, 16, .inl hh)), (pf, .inl (gyI G, 16, .inl pff)), (od, .inl (gyD G, 1, .inr (.inr (.inr (.inl (fun _ => 0)))))), (ho, .inr (11, [.ref al, .ref sv, .ref ts, .ref pb, .null, .int (nI 0)])), (al, .inr (4, [.int (nI 0), .ref (gE G), .int (nI 0)])), (ou, .inl (gyL G, 1, .inr (.inl (fun _ => 0))))]) rfl rfl (by decide) (by decide) (va_runV (As := [.int (xs 1)]) (rest := []) ⟨hx, hb, hml, hown, hts⟩ (c_X10_wrong_ l G mo (nI 0) al2 0 pf (nI 0) (nI 0) (xs 1) H.size) (cwV 1 hts (gV q1344 q1345 q1346 q52 q1347) rfl rfl rfl (by decide +kernel) ⟨Nat.le_of_ble_eq_true rfl, Nat.le_of_ble_eq_true rfl⟩) (preV (q0 := 5) (ci := 15) hK hE hP hD hS hA [5, 6] rfl (by decide) rfl rfl) rfl rfl hl.1 rfl (lv_room (Nat.le_of_ble_eq_true rfl)) dL_law_1486 ⟨Nat.le_of_ble_eq_true rfl, Nat.le_of_ble_eq_true rfl⟩) (fun r_4 u9 hw_3 H locs hP hD hS => ?_)
  have hP : va_P (gD G) vwCl [(sv, .inr (10, [.ref b, .ref sr, .ref se, .int (nI 0), .int (nI 0), .int (nI 110)])), (b, .inr (5, [.ref mm])), (mm, .inl (gyI G, 16, .inl f)), (sr, .inl (gyI G, 64, .inl g)), (se, .inl (gyI G, 16, .inl hh)), (pf, .inl (gyI G, 16, .inl pff)), (od, .inl (gyD G, 1, .inr (.inr (.inr (.inl (fun _ => 0)))))), (ho, .inr (11, [.ref al, .ref sv, .ref ts, .ref pb, .null, .int (nI 0)])), (al, .inr (4, [.int (nI 0), .ref (gE G), .int (nI 0)])), (ou, .inl (gyL G, 1, .inr (.inl (fun _ => 0)))), (mo, .inr (15, [.int (nI 1), .ref al2, .long (lN 0), .null, .ref pf, .int (nI 0)])), (al2, .inr (4, [.int (nI 0), .ref (gE G), .int (nI 0)]))] H := hP
  have hD : va_D A [(sv, .inr (10, [.ref b, .ref sr, .ref se, .int (nI 0), .int (nI 0), .int (nI 110)])), (b, .inr (5, [.ref mm])), (mm, .inl (gyI G, 16, .inl f)), (sr, .inl (gyI G, 64, .inl g)), (se, .inl (gyI G, 16, .inl hh)), (pf, .inl (gyI G, 16, .inl pff)), (od, .inl (gyD G, 1, .inr (.inr (.inr (.inl (fun _ => 0)))))), (ho, .inr (11, [.ref al, .ref sv, .ref ts, .ref pb, .null, .int (nI 0)])), (al, .inr (4, [.int (nI 0), .ref (gE G), .int (nI 0)])), (ou, .inl (gyL G, 1, .inr (.inl (fun _ => 0)))), (mo, .inr (15, [.int (nI 1), .ref al2, .long (lN 0), .null, .ref pf, .int (nI 0)])), (al2, .inr (4, [.int (nI 0), .ref (gE G), .int (nI 0)]))] := hD
  refine lv_istore (lv' := [(7, .int r_4), (6, .int (nI 1)), (0, .ref scr), (1, .ref ho), (2, .ref mo), (3, .ref ou), (4, .ref od), (5, .int (nI 0))]) hx hb dL_law_1489 hl (by decide) rfl (fun ls hl => ?_)
  refine lv_aload_n hx hb dL_law_1491 rfl (lv_at hl 4 rfl) ?_
  refine fin_i hP hD hS hA [10] [0, 1, 2, 3, 4, 5, 6, 7, 8, 9, 11] (wr := [(sv, .inr (10, [.ref b, .ref sr, .ref se, .int (nI 0), .int (nI 0), .int (nI 110)])), (b, .inr (5, [.ref mm])), (mm, .inl (gyI G, 16, .inl f)), (sr, .inl (gyI G, 64, .inl g)), (se, .inl (gyI G, 16, .inl hh)), (pf, .inl (gyI G, 16, .inl pff)), (od, .inl (gyD G, 1, .inr (.inr (.inr (.inl (fun _ => 0)))))), (ho, .inr (11, [.ref al, .ref sv, .ref ts, .ref pb, .null, .int (nI 0)])), (al, .inr (4, [.int (nI 0), .ref (gE G), .int (nI 0)])), (ou, .inl (gyL G, 1, .inr (.inl (fun _ => 0)))), (al2, .inr (4, [.int (nI 0), .ref (gE G), .int (nI 0)]))]) rfl rfl (by decide) (by decide) (va_runV (As := []) (rest := []) ⟨hx, hb, hml, hown, hts⟩ (c_X10_thrown l G mo 1 al2 0 pf (nI 0) H.size) (cwV 0 hts (gV q946 q947 q948 q52 q949) rfl rfl rfl (by decide +kernel) ⟨Nat.le_of_ble_eq_true rfl, Nat.le_of_ble_eq_true rfl⟩) (preV (q0 := 10) (ci := 15) hK hE hP hD hS hA [10] rfl (by decide) rfl rfl) rfl rfl hl.1 rfl (lv_room (Nat.le_of_ble_eq_true rfl)) dL_law_1492 ⟨Nat.le_of_ble_eq_true rfl, Nat.le_of_ble_eq_true rfl⟩) (fun r_6 u9 hw_5 H locs hP hD hS => ?_)
  subst hw_5
  have hP : va_P (gD G) vwCl [(sv, .inr (10, [.ref b, .ref sr, .ref se, .int (nI 0), .int (nI 0), .int (nI 110)])), (b, .inr (5, [.ref mm])), (mm, .inl (gyI G, 16, .inl f)), (sr, .inl (gyI G, 64, .inl g)), (se, .inl (gyI G, 16, .inl hh)), (pf, .inl (gyI G, 16, .inl pff)), (od, .inl (gyD G, 1, .inr (.inr (.inr (.inl (fun _ => 0)))))), (ho, .inr (11, [.ref al, .ref sv, .ref ts, .ref pb, .null, .int (nI 0)])), (al, .inr (4, [.int (nI 0), .ref (gE G), .int (nI 0)])), (ou, .inl (gyL G, 1, .inr (.inl (fun _ => 0)))), (al2, .inr (4, [.int (nI 0), .ref (gE G), .int (nI 0)])), (mo, .inr (15, [.int (nI 1), .ref al2, .long (lN 0), .null, .ref pf, .int (nI 0)]))] H := hP
  have hD : va_D A [(sv, .inr (10, [.ref b, .ref sr, .ref se, .int (nI 0), .int (nI 0), .int (nI 110)])), (b, .inr (5, [.ref mm])), (mm, .inl (gyI G, 16, .inl f)), (sr, .inl (gyI G, 64, .inl g)), (se, .inl (gyI G, 16, .inl hh)), (pf, .inl (gyI G, 16, .inl pff)), (od, .inl (gyD G, 1, .inr (.inr (.inr (.inl (fun _ => 0)))))), (ho, .inr (11, [.ref al, .ref sv, .ref ts, .ref pb, .null, .int (nI 0)])), (al, .inr (4, [.int (nI 0), .ref (gE G), .int (nI 0)])), (ou, .inl (gyL G, 1, .inr (.inl (fun _ => 0)))), (al2, .inr (4, [.int (nI 0), .ref (gE G), .int (nI 0)])), (mo, .inr (15, [.int (nI 1), .ref al2, .long (lN 0), .null, .ref pf, .int (nI 0)]))] := hD
  refine lv_iload hx hb dL_law_1495 (lv_at hl 1 rfl) ?_
  refine lv_icmp_eq (tgt := 1502) hx hb dL_law_1497 (by decide) (fun c_7 => ?_) (fun c_7 => ?_)
  · skip
    have c_7 : 1 = 1 := (nI_eq (a := 1) (b := 1) (by omega) (by omega)).mp c_7
    refine lv_iload hx hb dL_law_1502 (lv_at hl 1 rfl) ?_
    refine lv_if_ne (tgt := 1519) hx hb dL_law_1504 (by decide) (fun c_8 => ?_) (fun c_8 => ?_)
    · skip
      have c_8 : ¬ 1 = 0 := fun z => c_8 ((nI_eq (a := 1) (b := 0) (by omega) (by omega)).mpr z)
      refine lv_goto (tgt := 1736) hx hb dL_law_1519 (by decide) ?_
      refine lv_iinc (v := nI 4) (lv' := [(5, .int (nI 4)), (7, .int r_4), (6, .int (nI 1)), (0, .ref scr), (1, .ref ho), (2, .ref mo), (3, .ref ou), (4, .ref od)]) hx hb dL_law_1736 hl (k := 7) rfl (nI_add 0 4) (by decide) rfl (fun ls hl => ?_)
      refine lv_goto (tgt := 28) hx hb dL_law_1739 (by decide) ?_
      refine lv_iload hx hb dL_law_28 (lv_at hl 0 rfl) ?_
      refine lv_aload_n hx hb dL_law_30 rfl (lv_at hl 3 rfl) ?_
      refine va_slen hx hb hX hbl hbA hS dL_law_31 ?_
      refine lv_toe (show Int32.ofNat 4 = nI 4 from rfl) ?_
      refine lv_iconst (v := nI 4) hx hb dL_law_32 (by decide) ?_
      refine lv_isub hx hb dL_law_33 ?_
      refine lv_toe (pk_sub (a := 4) (b := 4) (by omega)) ?_
      refine lv_icmp_gt (tgt := 1742) hx hb dL_law_34 (by decide) (fun c_9 => ?_) (fun c_9 => ?_)
      · skip
        have c_9 : 0 < 4 := (nI_ltI (a := 0) (b := 4) (by omega) (by omega)).mp c_9
        refine lv_iconst (v := nI 1) hx hb dL_law_1742 (by decide) ?_
        refine va_forget (fun q hq => hA2 _ (hS.2.2 q hq)) ?_
        refine W.widen (k := 607190) (n := 7280494) (Nat.le_of_ble_eq_true rfl) (Nat.le_of_ble_eq_true rfl) ?_
        exact lw_ret (d0 := s.drawn) (Drawn.sameBut.refl s.drawn lw_cs) hx hb hr hlocks dL_law_1743
      · skip
        have c_9 : ¬ 0 < 4 := fun z => c_9 ((nI_ltI (a := 0) (b := 4) (by omega) (by omega)).mpr z)
        exact absurd c_9 (by decide)
    · skip
      have c_8 : 1 = 0 := (nI_eq (a := 1) (b := 0) (by omega) (by omega)).mp c_8
      exact absurd c_8 (by decide)
  · skip
    have c_7 : ¬ 1 = 1 := fun z => c_7 ((nI_eq (a := 1) (b := 1) (by omega) (by omega)).mpr z)
    exact absurd c_7 (by decide)
set_option maxHeartbeats 4000000 in
set_option maxRecDepth 100000 in
theorem law_hint {p : Program} {e : Env} {s : State} {m : MethodId} {below : List Frame} {meth : Method} {c : Code} (l : Launch) (hst : l.stackTraces = false) {scr : Nat} {xs : Nat → Int32} (C0 : lw_At p s m meth c scr 4 xs) (G : GG) (A : Nat → Prop) (hA : ∀ q : Nat, s.heap.size ≤ q → A q) (hA2 : ∀ q : Nat, A q → s.heap.size ≤ q) (hK : va_K (gD G) vwCl (gT G) s) (hE : EV G A s s.heap) (ho al ts pb sv b mm sr se mo al2 pf ou od : Nat) (f g hh pff : Nat → Int32) (H : Heap) (locs : List Loc) (hP : va_P (gD G) vwCl [(ho, .inr (11, [.ref al, .ref sv, .ref ts, .ref pb, .null, .int (nI 0)])), (al, .inr (4, [.int (nI 0), .ref (gE G), .int (nI 0)])), (sv, .inr (10, [.ref b, .ref sr, .ref se, .int (nI 0), .int (nI 0), .int (nI 110)])), (b, .inr (5, [.ref mm])), (mm, .inl (gyI G, 16, .inl f)), (sr, .inl (gyI G, 64, .inl g)), (se, .inl (gyI G, 16, .inl hh)), (mo, .inr (15, [.int (nI 0), .ref al2, .long (lN 0), .null, .ref pf, .int (nI 0)])), (al2, .inr (4, [.int (nI 0), .ref (gE G), .int (nI 0)])), (pf, .inl (gyI G, 16, .inl pff)), (ou, .inl (gyL G, 1, .inr (.inl (fun _ => 0)))), (od, .inl (gyD G, 1, .inr (.inr (.inr (.inl (fun _ => 0))))))] H) (hD : va_D A [(ho, .inr (11, [.ref al, .ref sv, .ref ts, .ref pb, .null, .int (nI 0)])), (al, .inr (4, [.int (nI 0), .ref (gE G), .int (nI 0)])), (sv, .inr (10, [.ref b, .ref sr, .ref se, .int (nI 0), .int (nI 0), .int (nI 110)])), (b, .inr (5, [.ref mm])), (mm, .inl (gyI G, 16, .inl f)), (sr, .inl (gyI G, 64, .inl g)), (se, .inl (gyI G, 16, .inl hh)), (mo, .inr (15, [.int (nI 0), .ref al2, .long (lN 0), .null, .ref pf, .int (nI 0)])), (al2, .inr (4, [.int (nI 0), .ref (gE G), .int (nI 0)])), (pf, .inl (gyI G, 16, .inl pff)), (ou, .inl (gyL G, 1, .inr (.inl (fun _ => 0)))), (od, .inl (gyD G, 1, .inr (.inr (.inr (.inl (fun _ => 0))))))]) (hS : va_S A s.heap H locs) (ls : Array Slot) (hl : lv_has ls 9 [(0, .ref scr), (1, .ref ho), (2, .ref mo), (3, .ref ou), (4, .ref od), (5, .int (nI 0))]) : W p l e room_1 s m #[Value.ref scr] below meth c H locs 17 191 (lw_Z below #[Value.ref scr] s) (F0 m 1522 ls []) := by
  obtain ⟨hx, hb, hr, hml, hown, hts0, hX, hbl, hlocks, hgv⟩ := C0
  have hown : s.vm.findClass "PegboardryLaw" = some m.cls := hown
  have hts : ∀ w ∈ WW, w.before #[Value.ref scr] s = true := fun w hw => hts0 w (List.mem_filter.mp hw).1
  have hbA : ¬ A scr := fun z => Nat.not_le.mpr hbl (hA2 _ z)
  refine lv_aload_n hx hb dL_law_1522 rfl (lv_at hl 1 rfl) ?_
  refine lv_aload_n hx hb dL_law_1523 rfl (lv_at hl 0 rfl) ?_
  refine lv_iload hx hb dL_law_1524 (lv_at hl 5 rfl) ?_
  refine lv_iconst (v := nI 1) hx hb dL_law_1526 (by decide) ?_
  refine lv_iadd hx hb dL_law_1527 ?_
  refine lv_toe (nI_add 0 1) ?_
  refine va_sld hx hb hX hbl hbA hS (vp_in_nI (n := 1) (N := 4) (by omega) (by omega)) dL_law_1528 ?_
  refine lv_toe (show xs (nI (1)).toNatClampNeg = xs 1 by rw [nI_clamp (by omega)]) ?_
  refine lv_aload_n hx hb dL_law_1529 rfl (lv_at hl 3 rfl) ?_
  refine fin_i hP hD hS hA [0, 1, 10] [2, 3, 4, 5, 6, 7, 8, 9, 11] (wr := [(sv, .inr (10, [.ref b, .ref sr, .ref se, .int (nI 0), .int (nI 0), .int (nI 110)])), (b, .inr (5, [.ref mm])), (mm, .inl (gyI G, 16, .inl f)), (sr, .inl (gyI G, 64, .inl g)), (se, .inl (gyI G, 16, .inl hh)), (mo, .inr (15, [.int (nI 0), .ref al2, .long (lN 0), .null, .ref pf, .int (nI 0)])), (al2, .inr (4, [.int (nI 0), .ref (gE G), .int (nI 0)])), (pf, .inl (gyI G, 16, .inl pff)), (od, .inl (gyD G, 1, .inr (.inr (.inr (.inl (fun _ => 0))))))]) rfl rfl (by decide) (by decide) (vx_runSW (As := [.ref ho, .int (xs 1), .ref ou]) (rest := []) ⟨hx, hb, hml, hown, hts⟩ (l_hint l G ho al ts pb (nI 0) sv (nI 0) (xs 1) ou (fun _ => 0) hst H.size) (vx_cwSW 3 hts (gSt q871 q872 q44 q873) rfl rfl rfl (by decide +kernel) ⟨Nat.le_of_ble_eq_true rfl, Nat.le_of_ble_eq_true rfl⟩) (preS hK hE hP hD hS hA [0, 1, 10] rfl (by decide)) rfl rfl hl.1 rfl (lv_room (Nat.le_of_ble_eq_true rfl)) dL_law_1530 ⟨Nat.le_of_ble_eq_true rfl, Nat.le_of_ble_eq_true rfl⟩) (fun r_2 u9 hw_1 H locs hP hD hS => ?_)
  subst hw_1
  have hP : va_P (gD G) vwCl [(sv, .inr (10, [.ref b, .ref sr, .ref se, .int (nI 0), .int (nI 0), .int (nI 110)])), (b, .inr (5, [.ref mm])), (mm, .inl (gyI G, 16, .inl f)), (sr, .inl (gyI G, 64, .inl g)), (se, .inl (gyI G, 16, .inl hh)), (mo, .inr (15, [.int (nI 0), .ref al2, .long (lN 0), .null, .ref pf, .int (nI 0)])), (al2, .inr (4, [.int (nI 0), .ref (gE G), .int (nI 0)])), (pf, .inl (gyI G, 16, .inl pff)), (od, .inl (gyD G, 1, .inr (.inr (.inr (.inl (fun _ => 0)))))), (ho, .inr (11, [.ref al, .ref sv, .ref ts, .ref pb, .null, .int (nI 0)])), (al, .inr (4, [.int (nI 0), .ref (gE G), .int (nI 0)])), (ou, .inl (gyL G, 1, .inr (.inl (fun _ => 0))))] H := hP
  have hD : va_D A [(sv, .inr (10, [.ref b, .ref sr, .ref se, .int (nI 0), .int (nI 0), .int (nI 110)])), (b, .inr (5, [.ref mm])), (mm, .inl (gyI G, 16, .inl f)), (sr, .inl (gyI G, 64, .inl g)), (se, .inl (gyI G, 16, .inl hh)), (mo, .inr (15, [.int (nI 0), .ref al2, .long (lN 0), .null, .ref pf, .int (nI 0)])), (al2, .inr (4, [.int (nI 0), .ref (gE G), .int (nI 0)])), (pf, .inl (gyI G, 16, .inl pff)), (od, .inl (gyD G, 1, .inr (.inr (.inr (.inl (fun _ => 0)))))), (ho, .inr (11, [.ref al, .ref sv, .ref ts, .ref pb, .null, .int (nI 0)])), (al, .inr (4, [.int (nI 0), .ref (gE G), .int (nI 0)])), (ou, .inl (gyL G, 1, .inr (.inl (fun _ => 0))))] := hD
  refine lv_istore (lv' := [(6, .int (nI 1)), (0, .ref scr), (1, .ref ho), (2, .ref mo), (3, .ref ou), (4, .ref od), (5, .int (nI 0))]) hx hb dL_law_1533 hl (by decide) rfl (fun ls hl => ?_)
  refine lv_aload_n hx hb dL_law_1535 rfl (lv_at hl 3 rfl) ?_
  refine lv_aload_n hx hb dL_law_1536 rfl (lv_at hl 1 rfl) ?_
  refine lv_iload hx hb dL_law_1537 (lv_at hl 6 rfl) ?_
  refine lv_iconst (v := nI 1) hx hb dL_law_1539 (by decide) ?_
  refine lv_iadd hx hb dL_law_1540 ?_
  refine lv_toe (nI_add 0 1) ?_
  refine va_sld hx hb hX hbl hbA hS (vp_in_nI (n := 1) (N := 4) (by omega) (by omega)) dL_law_1541 ?_
  refine lv_toe (show xs (nI (1)).toNatClampNeg = xs 1 by rw [nI_clamp (by omega)]) ?_
  refine fin_i hP hD hS hA [5, 6] [0, 1, 2, 3, 4, 7, 8, 9, 10, 11] (wr := [(sv, .inr (10, [.ref b, .ref sr, .ref se, .int (nI 0), .int (nI 0), .int (nI 110)])), (b, .inr (5, [.ref mm])), (mm, .inl (gyI G, 16, .inl f)), (sr, .inl (gyI G, 64, .inl g)), (se, .inl (gyI G, 16, .inl hh)), (pf, .inl (gyI G, 16, .inl pff)), (od, .inl (gyD G, 1, .inr (.inr (.inr (.inl (fun _ => 0)))))), (ho, .inr (11, [.ref al, .ref sv, .ref ts, .ref pb, .null, .int (nI 0)])), (al, .inr (4, [.int (nI 0), .ref (gE G), .int (nI 0)])), (ou, .inl (gyL G, 1, .inr (.inl (fun _ => 0))))]) rfl rfl (by decide) (by decide) (va_runV (As := [.int (xs 1)]) (rest := []) ⟨hx, hb, hml, hown, hts⟩ (c_X10_hint l G mo (nI 0) al2 0 pf (nI 0) (nI 0) (xs 1) H.size) (cwV 1 hts (gV q1351 q1352 q1353 q52 q1354) rfl rfl rfl (by decide +kernel) ⟨Nat.le_of_ble_eq_true rfl, Nat.le_of_ble_eq_true rfl⟩) (preV (q0 := 5) (ci := 15) hK hE hP hD hS hA [5, 6] rfl (by decide) rfl rfl) rfl rfl hl.1 rfl (lv_room (Nat.le_of_ble_eq_true rfl)) dL_law_1542 ⟨Nat.le_of_ble_eq_true rfl, Nat.le_of_ble_eq_true rfl⟩) (fun r_4 u9 hw_3 H locs hP hD hS => ?_)
  have hP : va_P (gD G) vwCl [(sv, .inr (10, [.ref b, .ref sr, .ref se, .int (nI 0), .int (nI 0), .int (nI 110)])), (b, .inr (5, [.ref mm])), (mm, .inl (gyI G, 16, .inl f)), (sr, .inl (gyI G, 64, .inl g)), (se, .inl (gyI G, 16, .inl hh)), (pf, .inl (gyI G, 16, .inl pff)), (od, .inl (gyD G, 1, .inr (.inr (.inr (.inl (fun _ => 0)))))), (ho, .inr (11, [.ref al, .ref sv, .ref ts, .ref pb, .null, .int (nI 0)])), (al, .inr (4, [.int (nI 0), .ref (gE G), .int (nI 0)])), (ou, .inl (gyL G, 1, .inr (.inl (fun _ => 0)))), (mo, .inr (15, [.int (nI 1), .ref al2, .long (lN 0), .null, .ref pf, .int (nI 0)])), (al2, .inr (4, [.int (nI 0), .ref (gE G), .int (nI 0)]))] H := hP
  have hD : va_D A [(sv, .inr (10, [.ref b, .ref sr, .ref se, .int (nI 0), .int (nI 0), .int (nI 110)])), (b, .inr (5, [.ref mm])), (mm, .inl (gyI G, 16, .inl f)), (sr, .inl (gyI G, 64, .inl g)), (se, .inl (gyI G, 16, .inl hh)), (pf, .inl (gyI G, 16, .inl pff)), (od, .inl (gyD G, 1, .inr (.inr (.inr (.inl (fun _ => 0)))))), (ho, .inr (11, [.ref al, .ref sv, .ref ts, .ref pb, .null, .int (nI 0)])), (al, .inr (4, [.int (nI 0), .ref (gE G), .int (nI 0)])), (ou, .inl (gyL G, 1, .inr (.inl (fun _ => 0)))), (mo, .inr (15, [.int (nI 1), .ref al2, .long (lN 0), .null, .ref pf, .int (nI 0)])), (al2, .inr (4, [.int (nI 0), .ref (gE G), .int (nI 0)]))] := hD
  refine lv_istore (lv' := [(7, .int r_4), (6, .int (nI 1)), (0, .ref scr), (1, .ref ho), (2, .ref mo), (3, .ref ou), (4, .ref od), (5, .int (nI 0))]) hx hb dL_law_1545 hl (by decide) rfl (fun ls hl => ?_)
  refine lv_aload_n hx hb dL_law_1547 rfl (lv_at hl 4 rfl) ?_
  refine fin_i hP hD hS hA [10] [0, 1, 2, 3, 4, 5, 6, 7, 8, 9, 11] (wr := [(sv, .inr (10, [.ref b, .ref sr, .ref se, .int (nI 0), .int (nI 0), .int (nI 110)])), (b, .inr (5, [.ref mm])), (mm, .inl (gyI G, 16, .inl f)), (sr, .inl (gyI G, 64, .inl g)), (se, .inl (gyI G, 16, .inl hh)), (pf, .inl (gyI G, 16, .inl pff)), (od, .inl (gyD G, 1, .inr (.inr (.inr (.inl (fun _ => 0)))))), (ho, .inr (11, [.ref al, .ref sv, .ref ts, .ref pb, .null, .int (nI 0)])), (al, .inr (4, [.int (nI 0), .ref (gE G), .int (nI 0)])), (ou, .inl (gyL G, 1, .inr (.inl (fun _ => 0)))), (al2, .inr (4, [.int (nI 0), .ref (gE G), .int (nI 0)]))]) rfl rfl (by decide) (by decide) (va_runV (As := []) (rest := []) ⟨hx, hb, hml, hown, hts⟩ (c_X10_thrown l G mo 1 al2 0 pf (nI 0) H.size) (cwV 0 hts (gV q946 q947 q948 q52 q949) rfl rfl rfl (by decide +kernel) ⟨Nat.le_of_ble_eq_true rfl, Nat.le_of_ble_eq_true rfl⟩) (preV (q0 := 10) (ci := 15) hK hE hP hD hS hA [10] rfl (by decide) rfl rfl) rfl rfl hl.1 rfl (lv_room (Nat.le_of_ble_eq_true rfl)) dL_law_1548 ⟨Nat.le_of_ble_eq_true rfl, Nat.le_of_ble_eq_true rfl⟩) (fun r_6 u9 hw_5 H locs hP hD hS => ?_)
  subst hw_5
  have hP : va_P (gD G) vwCl [(sv, .inr (10, [.ref b, .ref sr, .ref se, .int (nI 0), .int (nI 0), .int (nI 110)])), (b, .inr (5, [.ref mm])), (mm, .inl (gyI G, 16, .inl f)), (sr, .inl (gyI G, 64, .inl g)), (se, .inl (gyI G, 16, .inl hh)), (pf, .inl (gyI G, 16, .inl pff)), (od, .inl (gyD G, 1, .inr (.inr (.inr (.inl (fun _ => 0)))))), (ho, .inr (11, [.ref al, .ref sv, .ref ts, .ref pb, .null, .int (nI 0)])), (al, .inr (4, [.int (nI 0), .ref (gE G), .int (nI 0)])), (ou, .inl (gyL G, 1, .inr (.inl (fun _ => 0)))), (al2, .inr (4, [.int (nI 0), .ref (gE G), .int (nI 0)])), (mo, .inr (15, [.int (nI 1), .ref al2, .long (lN 0), .null, .ref pf, .int (nI 0)]))] H := hP
  have hD : va_D A [(sv, .inr (10, [.ref b, .ref sr, .ref se, .int (nI 0), .int (nI 0), .int (nI 110)])), (b, .inr (5, [.ref mm])), (mm, .inl (gyI G, 16, .inl f)), (sr, .inl (gyI G, 64, .inl g)), (se, .inl (gyI G, 16, .inl hh)), (pf, .inl (gyI G, 16, .inl pff)), (od, .inl (gyD G, 1, .inr (.inr (.inr (.inl (fun _ => 0)))))), (ho, .inr (11, [.ref al, .ref sv, .ref ts, .ref pb, .null, .int (nI 0)])), (al, .inr (4, [.int (nI 0), .ref (gE G), .int (nI 0)])), (ou, .inl (gyL G, 1, .inr (.inl (fun _ => 0)))), (al2, .inr (4, [.int (nI 0), .ref (gE G), .int (nI 0)])), (mo, .inr (15, [.int (nI 1), .ref al2, .long (lN 0), .null, .ref pf, .int (nI 0)]))] := hD
  refine lv_iload hx hb dL_law_1551 (lv_at hl 1 rfl) ?_
  refine lv_icmp_eq (tgt := 1558) hx hb dL_law_1553 (by decide) (fun c_7 => ?_) (fun c_7 => ?_)
  · skip
    have c_7 : 1 = 1 := (nI_eq (a := 1) (b := 1) (by omega) (by omega)).mp c_7
    refine lv_iload hx hb dL_law_1558 (lv_at hl 1 rfl) ?_
    refine lv_if_ne (tgt := 1575) hx hb dL_law_1560 (by decide) (fun c_8 => ?_) (fun c_8 => ?_)
    · skip
      have c_8 : ¬ 1 = 0 := fun z => c_8 ((nI_eq (a := 1) (b := 0) (by omega) (by omega)).mpr z)
      refine lv_goto (tgt := 1736) hx hb dL_law_1575 (by decide) ?_
      refine lv_iinc (v := nI 4) (lv' := [(5, .int (nI 4)), (7, .int r_4), (6, .int (nI 1)), (0, .ref scr), (1, .ref ho), (2, .ref mo), (3, .ref ou), (4, .ref od)]) hx hb dL_law_1736 hl (k := 7) rfl (nI_add 0 4) (by decide) rfl (fun ls hl => ?_)
      refine lv_goto (tgt := 28) hx hb dL_law_1739 (by decide) ?_
      refine lv_iload hx hb dL_law_28 (lv_at hl 0 rfl) ?_
      refine lv_aload_n hx hb dL_law_30 rfl (lv_at hl 3 rfl) ?_
      refine va_slen hx hb hX hbl hbA hS dL_law_31 ?_
      refine lv_toe (show Int32.ofNat 4 = nI 4 from rfl) ?_
      refine lv_iconst (v := nI 4) hx hb dL_law_32 (by decide) ?_
      refine lv_isub hx hb dL_law_33 ?_
      refine lv_toe (pk_sub (a := 4) (b := 4) (by omega)) ?_
      refine lv_icmp_gt (tgt := 1742) hx hb dL_law_34 (by decide) (fun c_9 => ?_) (fun c_9 => ?_)
      · skip
        have c_9 : 0 < 4 := (nI_ltI (a := 0) (b := 4) (by omega) (by omega)).mp c_9
        refine lv_iconst (v := nI 1) hx hb dL_law_1742 (by decide) ?_
        refine va_forget (fun q hq => hA2 _ (hS.2.2 q hq)) ?_
        refine W.widen (k := 607190) (n := 7280494) (Nat.le_of_ble_eq_true rfl) (Nat.le_of_ble_eq_true rfl) ?_
        exact lw_ret (d0 := s.drawn) (Drawn.sameBut.refl s.drawn lw_cs) hx hb hr hlocks dL_law_1743
      · skip
        have c_9 : ¬ 0 < 4 := fun z => c_9 ((nI_ltI (a := 0) (b := 4) (by omega) (by omega)).mpr z)
        exact absurd c_9 (by decide)
    · skip
      have c_8 : 1 = 0 := (nI_eq (a := 1) (b := 0) (by omega) (by omega)).mp c_8
      exact absurd c_8 (by decide)
  · skip
    have c_7 : ¬ 1 = 1 := fun z => c_7 ((nI_eq (a := 1) (b := 1) (by omega) (by omega)).mpr z)
    exact absurd c_7 (by decide)
set_option maxHeartbeats 4000000 in
set_option maxRecDepth 100000 in
theorem law_checksum {p : Program} {e : Env} {s : State} {m : MethodId} {below : List Frame} {meth : Method} {c : Code} (l : Launch) (hst : l.stackTraces = false) {scr : Nat} {xs : Nat → Int32} (C0 : lw_At p s m meth c scr 4 xs) (G : GG) (A : Nat → Prop) (hA : ∀ q : Nat, s.heap.size ≤ q → A q) (hA2 : ∀ q : Nat, A q → s.heap.size ≤ q) (hK : va_K (gD G) vwCl (gT G) s) (hE : EV G A s s.heap) (ho al ts pb sv b mm sr se mo al2 pf ou od : Nat) (f g hh pff : Nat → Int32) (H : Heap) (locs : List Loc) (hP : va_P (gD G) vwCl [(ho, .inr (11, [.ref al, .ref sv, .ref ts, .ref pb, .null, .int (nI 0)])), (al, .inr (4, [.int (nI 0), .ref (gE G), .int (nI 0)])), (sv, .inr (10, [.ref b, .ref sr, .ref se, .int (nI 0), .int (nI 0), .int (nI 110)])), (b, .inr (5, [.ref mm])), (mm, .inl (gyI G, 16, .inl f)), (sr, .inl (gyI G, 64, .inl g)), (se, .inl (gyI G, 16, .inl hh)), (mo, .inr (15, [.int (nI 0), .ref al2, .long (lN 0), .null, .ref pf, .int (nI 0)])), (al2, .inr (4, [.int (nI 0), .ref (gE G), .int (nI 0)])), (pf, .inl (gyI G, 16, .inl pff)), (ou, .inl (gyL G, 1, .inr (.inl (fun _ => 0)))), (od, .inl (gyD G, 1, .inr (.inr (.inr (.inl (fun _ => 0))))))] H) (hD : va_D A [(ho, .inr (11, [.ref al, .ref sv, .ref ts, .ref pb, .null, .int (nI 0)])), (al, .inr (4, [.int (nI 0), .ref (gE G), .int (nI 0)])), (sv, .inr (10, [.ref b, .ref sr, .ref se, .int (nI 0), .int (nI 0), .int (nI 110)])), (b, .inr (5, [.ref mm])), (mm, .inl (gyI G, 16, .inl f)), (sr, .inl (gyI G, 64, .inl g)), (se, .inl (gyI G, 16, .inl hh)), (mo, .inr (15, [.int (nI 0), .ref al2, .long (lN 0), .null, .ref pf, .int (nI 0)])), (al2, .inr (4, [.int (nI 0), .ref (gE G), .int (nI 0)])), (pf, .inl (gyI G, 16, .inl pff)), (ou, .inl (gyL G, 1, .inr (.inl (fun _ => 0)))), (od, .inl (gyD G, 1, .inr (.inr (.inr (.inl (fun _ => 0))))))]) (hS : va_S A s.heap H locs) (ls : Array Slot) (hl : lv_has ls 9 [(0, .ref scr), (1, .ref ho), (2, .ref mo), (3, .ref ou), (4, .ref od), (5, .int (nI 0))]) : W p l e room_1 s m #[Value.ref scr] below meth c H locs 17 191 (lw_Z below #[Value.ref scr] s) (F0 m 1578 ls []) := by
  obtain ⟨hx, hb, hr, hml, hown, hts0, hX, hbl, hlocks, hgv⟩ := C0
  have hown : s.vm.findClass "PegboardryLaw" = some m.cls := hown
  have hts : ∀ w ∈ WW, w.before #[Value.ref scr] s = true := fun w hw => hts0 w (List.mem_filter.mp hw).1
  have hbA : ¬ A scr := fun z => Nat.not_le.mpr hbl (hA2 _ z)
  refine lv_aload_n hx hb dL_law_1578 rfl (lv_at hl 1 rfl) ?_
  refine fin_l hP hD hS hA [0, 1] [2, 3, 4, 5, 6, 7, 8, 9, 10, 11] (wr := [(sv, .inr (10, [.ref b, .ref sr, .ref se, .int (nI 0), .int (nI 0), .int (nI 110)])), (b, .inr (5, [.ref mm])), (mm, .inl (gyI G, 16, .inl f)), (sr, .inl (gyI G, 64, .inl g)), (se, .inl (gyI G, 16, .inl hh)), (mo, .inr (15, [.int (nI 0), .ref al2, .long (lN 0), .null, .ref pf, .int (nI 0)])), (al2, .inr (4, [.int (nI 0), .ref (gE G), .int (nI 0)])), (pf, .inl (gyI G, 16, .inl pff)), (ou, .inl (gyL G, 1, .inr (.inl (fun _ => 0)))), (od, .inl (gyD G, 1, .inr (.inr (.inr (.inl (fun _ => 0))))))]) rfl rfl (by decide) (by decide) (va_runV (As := []) (rest := []) ⟨hx, hb, hml, hown, hts⟩ (c_X6_checksum l G ho al ts pb (nI 0) sv (nI 0) H.size) (cwV 0 hts (gV q204 q205 q206 q45 q207) rfl rfl rfl (by decide +kernel) ⟨Nat.le_of_ble_eq_true rfl, Nat.le_of_ble_eq_true rfl⟩) (preV (q0 := 0) (ci := 11) hK hE hP hD hS hA [0, 1] rfl (by decide) rfl rfl) rfl rfl hl.1 rfl (lv_room (Nat.le_of_ble_eq_true rfl)) dL_law_1579 ⟨Nat.le_of_ble_eq_true rfl, Nat.le_of_ble_eq_true rfl⟩) (fun r_2 u9 hw_1 H locs hP hD hS => ?_)
  subst hw_1
  have hP : va_P (gD G) vwCl [(sv, .inr (10, [.ref b, .ref sr, .ref se, .int (nI 0), .int (nI 0), .int (nI 110)])), (b, .inr (5, [.ref mm])), (mm, .inl (gyI G, 16, .inl f)), (sr, .inl (gyI G, 64, .inl g)), (se, .inl (gyI G, 16, .inl hh)), (mo, .inr (15, [.int (nI 0), .ref al2, .long (lN 0), .null, .ref pf, .int (nI 0)])), (al2, .inr (4, [.int (nI 0), .ref (gE G), .int (nI 0)])), (pf, .inl (gyI G, 16, .inl pff)), (ou, .inl (gyL G, 1, .inr (.inl (fun _ => 0)))), (od, .inl (gyD G, 1, .inr (.inr (.inr (.inl (fun _ => 0)))))), (ho, .inr (11, [.ref al, .ref sv, .ref ts, .ref pb, .null, .int (nI 0)])), (al, .inr (4, [.int (nI 0), .ref (gE G), .int (nI 0)]))] H := hP
  have hD : va_D A [(sv, .inr (10, [.ref b, .ref sr, .ref se, .int (nI 0), .int (nI 0), .int (nI 110)])), (b, .inr (5, [.ref mm])), (mm, .inl (gyI G, 16, .inl f)), (sr, .inl (gyI G, 64, .inl g)), (se, .inl (gyI G, 16, .inl hh)), (mo, .inr (15, [.int (nI 0), .ref al2, .long (lN 0), .null, .ref pf, .int (nI 0)])), (al2, .inr (4, [.int (nI 0), .ref (gE G), .int (nI 0)])), (pf, .inl (gyI G, 16, .inl pff)), (ou, .inl (gyL G, 1, .inr (.inl (fun _ => 0)))), (od, .inl (gyD G, 1, .inr (.inr (.inr (.inl (fun _ => 0)))))), (ho, .inr (11, [.ref al, .ref sv, .ref ts, .ref pb, .null, .int (nI 0)])), (al, .inr (4, [.int (nI 0), .ref (gE G), .int (nI 0)]))] := hD
  refine lv_aload_n hx hb dL_law_1582 rfl (lv_at hl 2 rfl) ?_
  refine fin_l hP hD hS hA [5, 6] [0, 1, 2, 3, 4, 7, 8, 9, 10, 11] (wr := [(sv, .inr (10, [.ref b, .ref sr, .ref se, .int (nI 0), .int (nI 0), .int (nI 110)])), (b, .inr (5, [.ref mm])), (mm, .inl (gyI G, 16, .inl f)), (sr, .inl (gyI G, 64, .inl g)), (se, .inl (gyI G, 16, .inl hh)), (pf, .inl (gyI G, 16, .inl pff)), (ou, .inl (gyL G, 1, .inr (.inl (fun _ => 0)))), (od, .inl (gyD G, 1, .inr (.inr (.inr (.inl (fun _ => 0)))))), (ho, .inr (11, [.ref al, .ref sv, .ref ts, .ref pb, .null, .int (nI 0)])), (al, .inr (4, [.int (nI 0), .ref (gE G), .int (nI 0)]))]) rfl rfl (by decide) (by decide) (va_runV (As := []) (rest := [.long (lN 0)]) ⟨hx, hb, hml, hown, hts⟩ (c_X10_checksum l G mo (nI 0) al2 0 pf (nI 0) (nI 0) H.size) (cwV 0 hts (gV q1356 q1357 q1358 q52 q1359) rfl rfl rfl (by decide +kernel) ⟨Nat.le_of_ble_eq_true rfl, Nat.le_of_ble_eq_true rfl⟩) (preV (q0 := 5) (ci := 15) hK hE hP hD hS hA [5, 6] rfl (by decide) rfl rfl) rfl rfl hl.1 rfl (lv_room (Nat.le_of_ble_eq_true rfl)) dL_law_1583 ⟨Nat.le_of_ble_eq_true rfl, Nat.le_of_ble_eq_true rfl⟩) (fun r_4 u9 hw_3 H locs hP hD hS => ?_)
  subst hw_3
  have hP : va_P (gD G) vwCl [(sv, .inr (10, [.ref b, .ref sr, .ref se, .int (nI 0), .int (nI 0), .int (nI 110)])), (b, .inr (5, [.ref mm])), (mm, .inl (gyI G, 16, .inl f)), (sr, .inl (gyI G, 64, .inl g)), (se, .inl (gyI G, 16, .inl hh)), (pf, .inl (gyI G, 16, .inl pff)), (ou, .inl (gyL G, 1, .inr (.inl (fun _ => 0)))), (od, .inl (gyD G, 1, .inr (.inr (.inr (.inl (fun _ => 0)))))), (ho, .inr (11, [.ref al, .ref sv, .ref ts, .ref pb, .null, .int (nI 0)])), (al, .inr (4, [.int (nI 0), .ref (gE G), .int (nI 0)])), (mo, .inr (15, [.int (nI 0), .ref al2, .long (lN 0), .null, .ref pf, .int (nI 0)])), (al2, .inr (4, [.int (nI 0), .ref (gE G), .int (nI 0)]))] H := hP
  have hD : va_D A [(sv, .inr (10, [.ref b, .ref sr, .ref se, .int (nI 0), .int (nI 0), .int (nI 110)])), (b, .inr (5, [.ref mm])), (mm, .inl (gyI G, 16, .inl f)), (sr, .inl (gyI G, 64, .inl g)), (se, .inl (gyI G, 16, .inl hh)), (pf, .inl (gyI G, 16, .inl pff)), (ou, .inl (gyL G, 1, .inr (.inl (fun _ => 0)))), (od, .inl (gyD G, 1, .inr (.inr (.inr (.inl (fun _ => 0)))))), (ho, .inr (11, [.ref al, .ref sv, .ref ts, .ref pb, .null, .int (nI 0)])), (al, .inr (4, [.int (nI 0), .ref (gE G), .int (nI 0)])), (mo, .inr (15, [.int (nI 0), .ref al2, .long (lN 0), .null, .ref pf, .int (nI 0)])), (al2, .inr (4, [.int (nI 0), .ref (gE G), .int (nI 0)]))] := hD
  refine W.lcmp hx hb dL_law_1586 ?_
  refine lv_toe (show lg_cmp (lN 0) (lN 0) = nI 0 by decide) ?_
  refine lv_if_eq (tgt := 1736) hx hb dL_law_1587 (by decide) (fun c_5 => ?_) (fun c_5 => ?_)
  · skip
    have c_5 : 0 = 0 := (nI_eq (a := 0) (b := 0) (by omega) (by omega)).mp c_5
    refine lv_iinc (v := nI 4) (lv' := [(5, .int (nI 4)), (0, .ref scr), (1, .ref ho), (2, .ref mo), (3, .ref ou), (4, .ref od)]) hx hb dL_law_1736 hl (k := 5) rfl (nI_add 0 4) (by decide) rfl (fun ls hl => ?_)
    refine lv_goto (tgt := 28) hx hb dL_law_1739 (by decide) ?_
    refine lv_iload hx hb dL_law_28 (lv_at hl 0 rfl) ?_
    refine lv_aload_n hx hb dL_law_30 rfl (lv_at hl 1 rfl) ?_
    refine va_slen hx hb hX hbl hbA hS dL_law_31 ?_
    refine lv_toe (show Int32.ofNat 4 = nI 4 from rfl) ?_
    refine lv_iconst (v := nI 4) hx hb dL_law_32 (by decide) ?_
    refine lv_isub hx hb dL_law_33 ?_
    refine lv_toe (pk_sub (a := 4) (b := 4) (by omega)) ?_
    refine lv_icmp_gt (tgt := 1742) hx hb dL_law_34 (by decide) (fun c_6 => ?_) (fun c_6 => ?_)
    · skip
      have c_6 : 0 < 4 := (nI_ltI (a := 0) (b := 4) (by omega) (by omega)).mp c_6
      refine lv_iconst (v := nI 1) hx hb dL_law_1742 (by decide) ?_
      refine va_forget (fun q hq => hA2 _ (hS.2.2 q hq)) ?_
      refine W.widen (k := 607190) (n := 7280494) (Nat.le_of_ble_eq_true rfl) (Nat.le_of_ble_eq_true rfl) ?_
      exact lw_ret (d0 := s.drawn) (Drawn.sameBut.refl s.drawn lw_cs) hx hb hr hlocks dL_law_1743
    · skip
      have c_6 : ¬ 0 < 4 := fun z => c_6 ((nI_ltI (a := 0) (b := 4) (by omega) (by omega)).mpr z)
      exact absurd c_6 (by decide)
  · skip
    have c_5 : ¬ 0 = 0 := fun z => c_5 ((nI_eq (a := 0) (b := 0) (by omega) (by omega)).mpr z)
    exact absurd c_5 (by decide)
set_option maxHeartbeats 4000000 in
set_option maxRecDepth 100000 in
theorem law_solvedShare {p : Program} {e : Env} {s : State} {m : MethodId} {below : List Frame} {meth : Method} {c : Code} (l : Launch) (hst : l.stackTraces = false) {scr : Nat} {xs : Nat → Int32} (C0 : lw_At p s m meth c scr 4 xs) (G : GG) (A : Nat → Prop) (hA : ∀ q : Nat, s.heap.size ≤ q → A q) (hA2 : ∀ q : Nat, A q → s.heap.size ≤ q) (hK : va_K (gD G) vwCl (gT G) s) (hE : EV G A s s.heap) (ho al ts pb sv b mm sr se mo al2 pf ou od : Nat) (f g hh pff : Nat → Int32) (H : Heap) (locs : List Loc) (hP : va_P (gD G) vwCl [(ho, .inr (11, [.ref al, .ref sv, .ref ts, .ref pb, .null, .int (nI 0)])), (al, .inr (4, [.int (nI 0), .ref (gE G), .int (nI 0)])), (sv, .inr (10, [.ref b, .ref sr, .ref se, .int (nI 0), .int (nI 0), .int (nI 110)])), (b, .inr (5, [.ref mm])), (mm, .inl (gyI G, 16, .inl f)), (sr, .inl (gyI G, 64, .inl g)), (se, .inl (gyI G, 16, .inl hh)), (mo, .inr (15, [.int (nI 0), .ref al2, .long (lN 0), .null, .ref pf, .int (nI 0)])), (al2, .inr (4, [.int (nI 0), .ref (gE G), .int (nI 0)])), (pf, .inl (gyI G, 16, .inl pff)), (ou, .inl (gyL G, 1, .inr (.inl (fun _ => 0)))), (od, .inl (gyD G, 1, .inr (.inr (.inr (.inl (fun _ => 0))))))] H) (hD : va_D A [(ho, .inr (11, [.ref al, .ref sv, .ref ts, .ref pb, .null, .int (nI 0)])), (al, .inr (4, [.int (nI 0), .ref (gE G), .int (nI 0)])), (sv, .inr (10, [.ref b, .ref sr, .ref se, .int (nI 0), .int (nI 0), .int (nI 110)])), (b, .inr (5, [.ref mm])), (mm, .inl (gyI G, 16, .inl f)), (sr, .inl (gyI G, 64, .inl g)), (se, .inl (gyI G, 16, .inl hh)), (mo, .inr (15, [.int (nI 0), .ref al2, .long (lN 0), .null, .ref pf, .int (nI 0)])), (al2, .inr (4, [.int (nI 0), .ref (gE G), .int (nI 0)])), (pf, .inl (gyI G, 16, .inl pff)), (ou, .inl (gyL G, 1, .inr (.inl (fun _ => 0)))), (od, .inl (gyD G, 1, .inr (.inr (.inr (.inl (fun _ => 0))))))]) (hS : va_S A s.heap H locs) (ls : Array Slot) (hl : lv_has ls 9 [(0, .ref scr), (1, .ref ho), (2, .ref mo), (3, .ref ou), (4, .ref od), (5, .int (nI 0))]) : W p l e room_1 s m #[Value.ref scr] below meth c H locs 17 191 (lw_Z below #[Value.ref scr] s) (F0 m 1592 ls []) := by
  obtain ⟨hx, hb, hr, hml, hown, hts0, hX, hbl, hlocks, hgv⟩ := C0
  have hown : s.vm.findClass "PegboardryLaw" = some m.cls := hown
  have hts : ∀ w ∈ WW, w.before #[Value.ref scr] s = true := fun w hw => hts0 w (List.mem_filter.mp hw).1
  have hbA : ¬ A scr := fun z => Nat.not_le.mpr hbl (hA2 _ z)
  refine lv_aload_n hx hb dL_law_1592 rfl (lv_at hl 1 rfl) ?_
  refine lv_aload hx hb dL_law_1593 (lv_at hl 4 rfl) ?_
  refine fin_i hP hD hS hA [0, 1, 11] [2, 3, 4, 5, 6, 7, 8, 9, 10] (wr := [(sv, .inr (10, [.ref b, .ref sr, .ref se, .int (nI 0), .int (nI 0), .int (nI 110)])), (b, .inr (5, [.ref mm])), (mm, .inl (gyI G, 16, .inl f)), (sr, .inl (gyI G, 64, .inl g)), (se, .inl (gyI G, 16, .inl hh)), (mo, .inr (15, [.int (nI 0), .ref al2, .long (lN 0), .null, .ref pf, .int (nI 0)])), (al2, .inr (4, [.int (nI 0), .ref (gE G), .int (nI 0)])), (pf, .inl (gyI G, 16, .inl pff)), (ou, .inl (gyL G, 1, .inr (.inl (fun _ => 0))))]) rfl rfl (by decide) (by decide) (vx_runSW (As := [.ref ho, .ref od]) (rest := []) ⟨hx, hb, hml, hown, hts⟩ (l_share l G ho al ts pb (nI 0) sv (nI 0) od (fun _ => 0) hst H.size) (vx_cwSW 2 hts (gSt q888 q889 q44 q890) rfl rfl rfl (by decide +kernel) ⟨Nat.le_of_ble_eq_true rfl, Nat.le_of_ble_eq_true rfl⟩) (preS hK hE hP hD hS hA [0, 1, 11] rfl (by decide)) rfl rfl hl.1 rfl (lv_room (Nat.le_of_ble_eq_true rfl)) dL_law_1595 ⟨Nat.le_of_ble_eq_true rfl, Nat.le_of_ble_eq_true rfl⟩) (fun r_2 u9 hw_1 H locs hP hD hS => ?_)
  subst hw_1
  have hP : va_P (gD G) vwCl [(sv, .inr (10, [.ref b, .ref sr, .ref se, .int (nI 0), .int (nI 0), .int (nI 110)])), (b, .inr (5, [.ref mm])), (mm, .inl (gyI G, 16, .inl f)), (sr, .inl (gyI G, 64, .inl g)), (se, .inl (gyI G, 16, .inl hh)), (mo, .inr (15, [.int (nI 0), .ref al2, .long (lN 0), .null, .ref pf, .int (nI 0)])), (al2, .inr (4, [.int (nI 0), .ref (gE G), .int (nI 0)])), (pf, .inl (gyI G, 16, .inl pff)), (ou, .inl (gyL G, 1, .inr (.inl (fun _ => 0)))), (ho, .inr (11, [.ref al, .ref sv, .ref ts, .ref pb, .null, .int (nI 0)])), (al, .inr (4, [.int (nI 0), .ref (gE G), .int (nI 0)])), (od, .inl (gyD G, 1, .inr (.inr (.inr (.inl (fun _ => 0))))))] H := hP
  have hD : va_D A [(sv, .inr (10, [.ref b, .ref sr, .ref se, .int (nI 0), .int (nI 0), .int (nI 110)])), (b, .inr (5, [.ref mm])), (mm, .inl (gyI G, 16, .inl f)), (sr, .inl (gyI G, 64, .inl g)), (se, .inl (gyI G, 16, .inl hh)), (mo, .inr (15, [.int (nI 0), .ref al2, .long (lN 0), .null, .ref pf, .int (nI 0)])), (al2, .inr (4, [.int (nI 0), .ref (gE G), .int (nI 0)])), (pf, .inl (gyI G, 16, .inl pff)), (ou, .inl (gyL G, 1, .inr (.inl (fun _ => 0)))), (ho, .inr (11, [.ref al, .ref sv, .ref ts, .ref pb, .null, .int (nI 0)])), (al, .inr (4, [.int (nI 0), .ref (gE G), .int (nI 0)])), (od, .inl (gyD G, 1, .inr (.inr (.inr (.inl (fun _ => 0))))))] := hD
  refine lv_istore (lv' := [(6, .int (nI 1)), (0, .ref scr), (1, .ref ho), (2, .ref mo), (3, .ref ou), (4, .ref od), (5, .int (nI 0))]) hx hb dL_law_1598 hl (by decide) rfl (fun ls hl => ?_)
  refine lv_aload_n hx hb dL_law_1600 rfl (lv_at hl 3 rfl) ?_
  refine fin_f hP hD hS hA [5, 6] [0, 1, 2, 3, 4, 7, 8, 9, 10, 11] (wr := [(sv, .inr (10, [.ref b, .ref sr, .ref se, .int (nI 0), .int (nI 0), .int (nI 110)])), (b, .inr (5, [.ref mm])), (mm, .inl (gyI G, 16, .inl f)), (sr, .inl (gyI G, 64, .inl g)), (se, .inl (gyI G, 16, .inl hh)), (pf, .inl (gyI G, 16, .inl pff)), (ou, .inl (gyL G, 1, .inr (.inl (fun _ => 0)))), (ho, .inr (11, [.ref al, .ref sv, .ref ts, .ref pb, .null, .int (nI 0)])), (al, .inr (4, [.int (nI 0), .ref (gE G), .int (nI 0)])), (od, .inl (gyD G, 1, .inr (.inr (.inr (.inl (fun _ => 0))))))]) rfl rfl (by decide) (by decide) (va_runV (As := []) (rest := []) ⟨hx, hb, hml, hown, hts⟩ (c_X10_solvedShare l G mo (nI 0) al2 0 pf (nI 0) (nI 0) H.size) (cwV 0 hts (gV q1362 q1363 q1364 q52 q1365) rfl rfl rfl (by decide +kernel) ⟨Nat.le_of_ble_eq_true rfl, Nat.le_of_ble_eq_true rfl⟩) (preV (q0 := 5) (ci := 15) hK hE hP hD hS hA [5, 6] rfl (by decide) rfl rfl) rfl rfl hl.1 rfl (lv_room (Nat.le_of_ble_eq_true rfl)) dL_law_1601 ⟨Nat.le_of_ble_eq_true rfl, Nat.le_of_ble_eq_true rfl⟩) (fun r_4 u9 hw_3 H locs hP hD hS => ?_)
  have hP : va_P (gD G) vwCl [(sv, .inr (10, [.ref b, .ref sr, .ref se, .int (nI 0), .int (nI 0), .int (nI 110)])), (b, .inr (5, [.ref mm])), (mm, .inl (gyI G, 16, .inl f)), (sr, .inl (gyI G, 64, .inl g)), (se, .inl (gyI G, 16, .inl hh)), (pf, .inl (gyI G, 16, .inl pff)), (ou, .inl (gyL G, 1, .inr (.inl (fun _ => 0)))), (ho, .inr (11, [.ref al, .ref sv, .ref ts, .ref pb, .null, .int (nI 0)])), (al, .inr (4, [.int (nI 0), .ref (gE G), .int (nI 0)])), (od, .inl (gyD G, 1, .inr (.inr (.inr (.inl (fun _ => 0)))))), (mo, .inr (15, [.int (nI 1), .ref al2, .long (lN 0), .null, .ref pf, .int (nI 0)])), (al2, .inr (4, [.int (nI 0), .ref (gE G), .int (nI 0)]))] H := hP
  have hD : va_D A [(sv, .inr (10, [.ref b, .ref sr, .ref se, .int (nI 0), .int (nI 0), .int (nI 110)])), (b, .inr (5, [.ref mm])), (mm, .inl (gyI G, 16, .inl f)), (sr, .inl (gyI G, 64, .inl g)), (se, .inl (gyI G, 16, .inl hh)), (pf, .inl (gyI G, 16, .inl pff)), (ou, .inl (gyL G, 1, .inr (.inl (fun _ => 0)))), (ho, .inr (11, [.ref al, .ref sv, .ref ts, .ref pb, .null, .int (nI 0)])), (al, .inr (4, [.int (nI 0), .ref (gE G), .int (nI 0)])), (od, .inl (gyD G, 1, .inr (.inr (.inr (.inl (fun _ => 0)))))), (mo, .inr (15, [.int (nI 1), .ref al2, .long (lN 0), .null, .ref pf, .int (nI 0)])), (al2, .inr (4, [.int (nI 0), .ref (gE G), .int (nI 0)]))] := hD
  refine lv_fstore (lv' := [(7, .float r_4), (6, .int (nI 1)), (0, .ref scr), (1, .ref ho), (2, .ref mo), (3, .ref ou), (4, .ref od), (5, .int (nI 0))]) hx hb dL_law_1604 hl (by decide) rfl (fun ls hl => ?_)
  refine lv_aload_n hx hb dL_law_1606 rfl (lv_at hl 4 rfl) ?_
  refine fin_i hP hD hS hA [10] [0, 1, 2, 3, 4, 5, 6, 7, 8, 9, 11] (wr := [(sv, .inr (10, [.ref b, .ref sr, .ref se, .int (nI 0), .int (nI 0), .int (nI 110)])), (b, .inr (5, [.ref mm])), (mm, .inl (gyI G, 16, .inl f)), (sr, .inl (gyI G, 64, .inl g)), (se, .inl (gyI G, 16, .inl hh)), (pf, .inl (gyI G, 16, .inl pff)), (ou, .inl (gyL G, 1, .inr (.inl (fun _ => 0)))), (ho, .inr (11, [.ref al, .ref sv, .ref ts, .ref pb, .null, .int (nI 0)])), (al, .inr (4, [.int (nI 0), .ref (gE G), .int (nI 0)])), (od, .inl (gyD G, 1, .inr (.inr (.inr (.inl (fun _ => 0)))))), (al2, .inr (4, [.int (nI 0), .ref (gE G), .int (nI 0)]))]) rfl rfl (by decide) (by decide) (va_runV (As := []) (rest := []) ⟨hx, hb, hml, hown, hts⟩ (c_X10_thrown l G mo 1 al2 0 pf (nI 0) H.size) (cwV 0 hts (gV q946 q947 q948 q52 q949) rfl rfl rfl (by decide +kernel) ⟨Nat.le_of_ble_eq_true rfl, Nat.le_of_ble_eq_true rfl⟩) (preV (q0 := 10) (ci := 15) hK hE hP hD hS hA [10] rfl (by decide) rfl rfl) rfl rfl hl.1 rfl (lv_room (Nat.le_of_ble_eq_true rfl)) dL_law_1607 ⟨Nat.le_of_ble_eq_true rfl, Nat.le_of_ble_eq_true rfl⟩) (fun r_6 u9 hw_5 H locs hP hD hS => ?_)
  subst hw_5
  have hP : va_P (gD G) vwCl [(sv, .inr (10, [.ref b, .ref sr, .ref se, .int (nI 0), .int (nI 0), .int (nI 110)])), (b, .inr (5, [.ref mm])), (mm, .inl (gyI G, 16, .inl f)), (sr, .inl (gyI G, 64, .inl g)), (se, .inl (gyI G, 16, .inl hh)), (pf, .inl (gyI G, 16, .inl pff)), (ou, .inl (gyL G, 1, .inr (.inl (fun _ => 0)))), (ho, .inr (11, [.ref al, .ref sv, .ref ts, .ref pb, .null, .int (nI 0)])), (al, .inr (4, [.int (nI 0), .ref (gE G), .int (nI 0)])), (od, .inl (gyD G, 1, .inr (.inr (.inr (.inl (fun _ => 0)))))), (al2, .inr (4, [.int (nI 0), .ref (gE G), .int (nI 0)])), (mo, .inr (15, [.int (nI 1), .ref al2, .long (lN 0), .null, .ref pf, .int (nI 0)]))] H := hP
  have hD : va_D A [(sv, .inr (10, [.ref b, .ref sr, .ref se, .int (nI 0), .int (nI 0), .int (nI 110)])), (b, .inr (5, [.ref mm])), (mm, .inl (gyI G, 16, .inl f)), (sr, .inl (gyI G, 64, .inl g)), (se, .inl (gyI G, 16, .inl hh)), (pf, .inl (gyI G, 16, .inl pff)), (ou, .inl (gyL G, 1, .inr (.inl (fun _ => 0)))), (ho, .inr (11, [.ref al, .ref sv, .ref ts, .ref pb, .null, .int (nI 0)])), (al, .inr (4, [.int (nI 0), .ref (gE G), .int (nI 0)])), (od, .inl (gyD G, 1, .inr (.inr (.inr (.inl (fun _ => 0)))))), (al2, .inr (4, [.int (nI 0), .ref (gE G), .int (nI 0)])), (mo, .inr (15, [.int (nI 1), .ref al2, .long (lN 0), .null, .ref pf, .int (nI 0)]))] := hD
  refine lv_iload hx hb dL_law_1610 (lv_at hl 1 rfl) ?_
  refine lv_icmp_eq (tgt := 1617) hx hb dL_law_1612 (by decide) (fun c_7 => ?_) (fun c_7 => ?_)
  · skip
    have c_7 : 1 = 1 := (nI_eq (a := 1) (b := 1) (by omega) (by omega)).mp c_7
    refine lv_iload hx hb dL_law_1617 (lv_at hl 1 rfl) ?_
    refine lv_if_ne (tgt := 1655) hx hb dL_law_1619 (by decide) (fun c_8 => ?_) (fun c_8 => ?_)
    · skip
      have c_8 : ¬ 1 = 0 := fun z => c_8 ((nI_eq (a := 1) (b := 0) (by omega) (by omega)).mpr z)
      refine lv_goto (tgt := 1736) hx hb dL_law_1655 (by decide) ?_
      refine lv_iinc (v := nI 4) (lv' := [(5, .int (nI 4)), (7, .float r_4), (6, .int (nI 1)), (0, .ref scr), (1, .ref ho), (2, .ref mo), (3, .ref ou), (4, .ref od)]) hx hb dL_law_1736 hl (k := 7) rfl (nI_add 0 4) (by decide) rfl (fun ls hl => ?_)
      refine lv_goto (tgt := 28) hx hb dL_law_1739 (by decide) ?_
      refine lv_iload hx hb dL_law_28 (lv_at hl 0 rfl) ?_
      refine lv_aload_n hx hb dL_law_30 rfl (lv_at hl 3 rfl) ?_
      refine va_slen hx hb hX hbl hbA hS dL_law_31 ?_
      refine lv_toe (show Int32.ofNat 4 = nI 4 from rfl) ?_
      refine lv_iconst (v := nI 4) hx hb dL_law_32 (by decide) ?_
      refine lv_isub hx hb dL_law_33 ?_
      refine lv_toe (pk_sub (a := 4) (b := 4) (by omega)) ?_
      refine lv_icmp_gt (tgt := 1742) hx hb dL_law_34 (by decide) (fun c_9 => ?_) (fun c_9 => ?_)
      · skip
        have c_9 : 0 < 4 := (nI_ltI (a := 0) (b := 4) (by omega) (by omega)).mp c_9
        refine lv_iconst (v := nI 1) hx hb dL_law_1742 (by decide) ?_
        refine va_forget (fun q hq => hA2 _ (hS.2.2 q hq)) ?_
        refine W.widen (k := 607190) (n := 7280494) (Nat.le_of_ble_eq_true rfl) (Nat.le_of_ble_eq_true rfl) ?_
        exact lw_ret (d0 := s.drawn) (Drawn.sameBut.refl s.drawn lw_cs) hx hb hr hlocks dL_law_1743
      · skip
        have c_9 : ¬ 0 < 4 := fun z => c_9 ((nI_ltI (a := 0) (b := 4) (by omega) (by omega)).mpr z)
        exact absurd c_9 (by decide)
    · skip
      have c_8 : 1 = 0 := (nI_eq (a := 1) (b := 0) (by omega) (by omega)).mp c_8
      exact absurd c_8 (by decide)
  · skip
    have c_7 : ¬ 1 = 1 := fun z => c_7 ((nI_eq (a := 1) (b := 1) (by omega) (by omega)).mpr z)
    exact absurd c_7 (by decide)
set_option maxHeartbeats 4000000 in
set_option maxRecDepth 100000 in
theorem law_meanGivens {p : Program} {e : Env} {s : State} {m : MethodId} {below : List Frame} {meth : Method} {c : Code} (l : Launch) (hst : l.stackTraces = false) {scr : Nat} {xs : Nat → Int32} (C0 : lw_At p s m meth c scr 4 xs) (G : GG) (A : Nat → Prop) (hA : ∀ q : Nat, s.heap.size ≤ q → A q) (hA2 : ∀ q : Nat, A q → s.heap.size ≤ q) (hK : va_K (gD G) vwCl (gT G) s) (hE : EV G A s s.heap) (ho al ts pb sv b mm sr se mo al2 pf ou od : Nat) (f g hh pff : Nat → Int32) (H : Heap) (locs : List Loc) (hP : va_P (gD G) vwCl [(ho, .inr (11, [.ref al, .ref sv, .ref ts, .ref pb, .null, .int (nI 0)])), (al, .inr (4, [.int (nI 0), .ref (gE G), .int (nI 0)])), (sv, .inr (10, [.ref b, .ref sr, .ref se, .int (nI 0), .int (nI 0), .int (nI 110)])), (b, .inr (5, [.ref mm])), (mm, .inl (gyI G, 16, .inl f)), (sr, .inl (gyI G, 64, .inl g)), (se, .inl (gyI G, 16, .inl hh)), (mo, .inr (15, [.int (nI 0), .ref al2, .long (lN 0), .null, .ref pf, .int (nI 0)])), (al2, .inr (4, [.int (nI 0), .ref (gE G), .int (nI 0)])), (pf, .inl (gyI G, 16, .inl pff)), (ou, .inl (gyL G, 1, .inr (.inl (fun _ => 0)))), (od, .inl (gyD G, 1, .inr (.inr (.inr (.inl (fun _ => 0))))))] H) (hD : va_D A [(ho, .inr (11, [.ref al, .ref sv, .ref ts, .ref pb, .null, .int (nI 0)])), (al, .inr (4, [.int (nI 0), .ref (gE G), .int (nI 0)])), (sv, .inr (10, [.ref b, .ref sr, .ref se, .int (nI 0), .int (nI 0), .int (nI 110)])), (b, .inr (5, [.ref mm])), (mm, .inl (gyI G, 16, .inl f)), (sr, .inl (gyI G, 64, .inl g)), (se, .inl (gyI G, 16, .inl hh)), (mo, .inr (15, [.int (nI 0), .ref al2, .long (lN 0), .null, .ref pf, .int (nI 0)])), (al2, .inr (4, [.int (nI 0), .ref (gE G), .int (nI 0)])), (pf, .inl (gyI G, 16, .inl pff)), (ou, .inl (gyL G, 1, .inr (.inl (fun _ => 0)))), (od, .inl (gyD G, 1, .inr (.inr (.inr (.inl (fun _ => 0))))))]) (hS : va_S A s.heap H locs) (ls : Array Slot) (hl : lv_has ls 9 [(0, .ref scr), (1, .ref ho), (2, .ref mo), (3, .ref ou), (4, .ref od), (5, .int (nI 0))]) : W p l e room_1 s m #[Value.ref scr] below meth c H locs 17 191 (lw_Z below #[Value.ref scr] s) (F0 m 1658 ls []) := by
  obtain ⟨hx, hb, hr, hml, hown, hts0, hX, hbl, hlocks, hgv⟩ := C0
  have hown : s.vm.findClass "PegboardryLaw" = some m.cls := hown
  have hts : ∀ w ∈ WW, w.before #[Value.ref scr] s = true := fun w hw => hts0 w (List.mem_filter.mp hw).1
  have hbA : ¬ A scr := fun z => Nat.not_le.mpr hbl (hA2 _ z)
  refine lv_aload_n hx hb dL_law_1658 rfl (lv_at hl 1 rfl) ?_
  refine lv_aload hx hb dL_law_1659 (lv_at hl 4 rfl) ?_
  refine fin_i hP hD hS hA [0, 1, 11] [2, 3, 4, 5, 6, 7, 8, 9, 10] (wr := [(sv, .inr (10, [.ref b, .ref sr, .ref se, .int (nI 0), .int (nI 0), .int (nI 110)])), (b, .inr (5, [.ref mm])), (mm, .inl (gyI G, 16, .inl f)), (sr, .inl (gyI G, 64, .inl g)), (se, .inl (gyI G, 16, .inl hh)), (mo, .inr (15, [.int (nI 0), .ref al2, .long (lN 0), .null, .ref pf, .int (nI 0)])), (al2, .inr (4, [.int (nI 0), .ref (gE G), .int (nI 0)])), (pf, .inl (gyI G, 16, .inl pff)), (ou, .inl (gyL G, 1, .inr (.inl (fun _ => 0))))]) rfl rfl (by decide) (by decide) (vx_runSW (As := [.ref ho, .ref od]) (rest := []) ⟨hx, hb, hml, hown, hts⟩ (l_mean l G ho al ts pb (nI 0) sv (nI 0) od (fun _ => 0) hst H.size) (vx_cwSW 2 hts (gSt q912 q913 q44 q914) rfl rfl rfl (by decide +kernel) ⟨Nat.le_of_ble_eq_true rfl, Nat.le_of_ble_eq_true rfl⟩) (preS hK hE hP hD hS hA [0, 1, 11] rfl (by decide)) rfl rfl hl.1 rfl (lv_room (Nat.le_of_ble_eq_true rfl)) dL_law_1661 ⟨Nat.le_of_ble_eq_true rfl, Nat.le_of_ble_eq_true rfl⟩) (fun r_2 u9 hw_1 H locs hP hD hS => ?_)
  subst hw_1
  have hP : va_P (gD G) vwCl [(sv, .inr (10, [.ref b, .ref sr, .ref se, .int (nI 0), .int (nI 0), .int (nI 110)])), (b, .inr (5, [.ref mm])), (mm, .inl (gyI G, 16, .inl f)), (sr, .inl (gyI G, 64, .inl g)), (se, .inl (gyI G, 16, .inl hh)), (mo, .inr (15, [.int (nI 0), .ref al2, .long (lN 0), .null, .ref pf, .int (nI 0)])), (al2, .inr (4, [.int (nI 0), .ref (gE G), .int (nI 0)])), (pf, .inl (gyI G, 16, .inl pff)), (ou, .inl (gyL G, 1, .inr (.inl (fun _ => 0)))), (ho, .inr (11, [.ref al, .ref sv, .ref ts, .ref pb, .null, .int (nI 0)])), (al, .inr (4, [.int (nI 0), .ref (gE G), .int (nI 0)])), (od, .inl (gyD G, 1, .inr (.inr (.inr (.inl (fun _ => 0))))))] H := hP
  have hD : va_D A [(sv, .inr (10, [.ref b, .ref sr, .ref se, .int (nI 0), .int (nI 0), .int (nI 110)])), (b, .inr (5, [.ref mm])), (mm, .inl (gyI G, 16, .inl f)), (sr, .inl (gyI G, 64, .inl g)), (se, .inl (gyI G, 16, .inl hh)), (mo, .inr (15, [.int (nI 0), .ref al2, .long (lN 0), .null, .ref pf, .int (nI 0)])), (al2, .inr (4, [.int (nI 0), .ref (gE G), .int (nI 0)])), (pf, .inl (gyI G, 16, .inl pff)), (ou, .inl (gyL G, 1, .inr (.inl (fun _ => 0)))), (ho, .inr (11, [.ref al, .ref sv, .ref ts, .ref pb, .null, .int (nI 0)])), (al, .inr (4, [.int (nI 0), .ref (gE G), .int (nI 0)])), (od, .inl (gyD G, 1, .inr (.inr (.inr (.inl (fun _ => 0))))))] := hD
  refine lv_istore (lv' := [(6, .int (nI 1)), (0, .ref scr), (1, .ref ho), (2, .ref mo), (3, .ref ou), (4, .ref od), (5, .int (nI 0))]) hx hb dL_law_1664 hl (by decide) rfl (fun ls hl => ?_)
  refine lv_aload_n hx hb dL_law_1666 rfl (lv_at hl 3 rfl) ?_
  refine fin_d hP hD hS hA [5, 6] [0, 1, 2, 3, 4, 7, 8, 9, 10, 11] (wr := [(sv, .inr (10, [.ref b, .ref sr, .ref se, .int (nI 0), .int (nI 0), .int (nI 110)])), (b, .inr (5, [.ref mm])), (mm, .inl (gyI G, 16, .inl f)), (sr, .inl (gyI G, 64, .inl g)), (se, .inl (gyI G, 16, .inl hh)), (pf, .inl (gyI G, 16, .inl pff)), (ou, .inl (gyL G, 1, .inr (.inl (fun _ => 0)))), (ho, .inr (11, [.ref al, .ref sv, .ref ts, .ref pb, .null, .int (nI 0)])), (al, .inr (4, [.int (nI 0), .ref (gE G), .int (nI 0)])), (od, .inl (gyD G, 1, .inr (.inr (.inr (.inl (fun _ => 0))))))]) rfl rfl (by decide) (by decide) (va_runV (As := []) (rest := []) ⟨hx, hb, hml, hown, hts⟩ (c_X10_meanGivens l G mo (nI 0) al2 0 pf (nI 0) (nI 0) H.size) (cwV 0 hts (gV q1366 q1367 q1368 q52 q1369) rfl rfl rfl (by decide +kernel) ⟨Nat.le_of_ble_eq_true rfl, Nat.le_of_ble_eq_true rfl⟩) (preV (q0 := 5) (ci := 15) hK hE hP hD hS hA [5, 6] rfl (by decide) rfl rfl) rfl rfl hl.1 rfl (lv_room (Nat.le_of_ble_eq_true rfl)) dL_law_1667 ⟨Nat.le_of_ble_eq_true rfl, Nat.le_of_ble_eq_true rfl⟩) (fun r_4 u9 hw_3 H locs hP hD hS => ?_)
  have hP : va_P (gD G) vwCl [(sv, .inr (10, [.ref b, .ref sr, .ref se, .int (nI 0), .int (nI 0), .int (nI 110)])), (b, .inr (5, [.ref mm])), (mm, .inl (gyI G, 16, .inl f)), (sr, .inl (gyI G, 64, .inl g)), (se, .inl (gyI G, 16, .inl hh)), (pf, .inl (gyI G, 16, .inl pff)), (ou, .inl (gyL G, 1, .inr (.inl (fun _ => 0)))), (ho, .inr (11, [.ref al, .ref sv, .ref ts, .ref pb, .null, .int (nI 0)])), (al, .inr (4, [.int (nI 0), .ref (gE G), .int (nI 0)])), (od, .inl (gyD G, 1, .inr (.inr (.inr (.inl (fun _ => 0)))))), (mo, .inr (15, [.int (nI 1), .ref al2, .long (lN 0), .null, .ref pf, .int (nI 0)])), (al2, .inr (4, [.int (nI 0), .ref (gE G), .int (nI 0)]))] H := hP
  have hD : va_D A [(sv, .inr (10, [.ref b, .ref sr, .ref se, .int (nI 0), .int (nI 0), .int (nI 110)])), (b, .inr (5, [.ref mm])), (mm, .inl (gyI G, 16, .inl f)), (sr, .inl (gyI G, 64, .inl g)), (se, .inl (gyI G, 16, .inl hh)), (pf, .inl (gyI G, 16, .inl pff)), (ou, .inl (gyL G, 1, .inr (.inl (fun _ => 0)))), (ho, .inr (11, [.ref al, .ref sv, .ref ts, .ref pb, .null, .int (nI 0)])), (al, .inr (4, [.int (nI 0), .ref (gE G), .int (nI 0)])), (od, .inl (gyD G, 1, .inr (.inr (.inr (.inl (fun _ => 0)))))), (mo, .inr (15, [.int (nI 1), .ref al2, .long (lN 0), .null, .ref pf, .int (nI 0)])), (al2, .inr (4, [.int (nI 0), .ref (gE G), .int (nI 0)]))] := hD
  refine lv_dstore (lv' := [(7, .double r_4), (6, .int (nI 1)), (0, .ref scr), (1, .ref ho), (2, .ref mo), (3, .ref ou), (4, .ref od), (5, .int (nI 0))]) hx hb dL_law_1670 hl (by decide) rfl (fun ls hl => ?_)
  refine lv_aload_n hx hb dL_law_1672 rfl (lv_at hl 4 rfl) ?_
  refine fin_i hP hD hS hA [10] [0, 1, 2, 3, 4, 5, 6, 7, 8, 9, 11] (wr := [(sv, .inr (10, [.ref b, .ref sr, .ref se, .int (nI 0), .int (nI 0), .int (nI 110)])), (b, .inr (5, [.ref mm])), (mm, .inl (gyI G, 16, .inl f)), (sr, .inl (gyI G, 64, .inl g)), (se, .inl (gyI G, 16, .inl hh)), (pf, .inl (gyI G, 16, .inl pff)), (ou, .inl (gyL G, 1, .inr (.inl (fun _ => 0)))), (ho, .inr (11, [.ref al, .ref sv, .ref ts, .ref pb, .null, .int (nI 0)])), (al, .inr (4, [.int (nI 0), .ref (gE G), .int (nI 0)])), (od, .inl (gyD G, 1, .inr (.inr (.inr (.inl (fun _ => 0)))))), (al2, .inr (4, [.int (nI 0), .ref (gE G), .int (nI 0)]))]) rfl rfl (by decide) (by decide) (va_runV (As := []) (rest := []) ⟨hx, hb, hml, hown, hts⟩ (c_X10_thrown l G mo 1 al2 0 pf (nI 0) H.size) (cwV 0 hts (gV q946 q947 q948 q52 q949) rfl rfl rfl (by decide +kernel) ⟨Nat.le_of_ble_eq_true rfl, Nat.le_of_ble_eq_true rfl⟩) (preV (q0 := 10) (ci := 15) hK hE hP hD hS hA [10] rfl (by decide) rfl rfl) rfl rfl hl.1 rfl (lv_room (Nat.le_of_ble_eq_true rfl)) dL_law_1673 ⟨Nat.le_of_ble_eq_true rfl, Nat.le_of_ble_eq_true rfl⟩) (fun r_6 u9 hw_5 H locs hP hD hS => ?_)
  subst hw_5
  have hP : va_P (gD G) vwCl [(sv, .inr (10, [.ref b, .ref sr, .ref se, .int (nI 0), .int (nI 0), .int (nI 110)])), (b, .inr (5, [.ref mm])), (mm, .inl (gyI G, 16, .inl f)), (sr, .inl (gyI G, 64, .inl g)), (se, .inl (gyI G, 16, .inl hh)), (pf, .inl (gyI G, 16, .inl pff)), (ou, .inl (gyL G, 1, .inr (.inl (fun _ => 0)))), (ho, .inr (11, [.ref al, .ref sv, .ref ts, .ref pb, .null, .int (nI 0)])), (al, .inr (4, [.int (nI 0), .ref (gE G), .int (nI 0)])), (od, .inl (gyD G, 1, .inr (.inr (.inr (.inl (fun _ => 0)))))), (al2, .inr (4, [.int (nI 0), .ref (gE G), .int (nI 0)])), (mo, .inr (15, [.int (nI 1), .ref al2, .long (lN 0), .null, .ref pf, .int (nI 0)]))] H := hP
  have hD : va_D A [(sv, .inr (10, [.ref b, .ref sr, .ref se, .int (nI 0), .int (nI 0), .int (nI 110)])), (b, .inr (5, [.ref mm])), (mm, .inl (gyI G, 16, .inl f)), (sr, .inl (gyI G, 64, .inl g)), (se, .inl (gyI G, 16, .inl hh)), (pf, .inl (gyI G, 16, .inl pff)), (ou, .inl (gyL G, 1, .inr (.inl (fun _ => 0)))), (ho, .inr (11, [.ref al, .ref sv, .ref ts, .ref pb, .null, .int (nI 0)])), (al, .inr (4, [.int (nI 0), .ref (gE G), .int (nI 0)])), (od, .inl (gyD G, 1, .inr (.inr (.inr (.inl (fun _ => 0)))))), (al2, .inr (4, [.int (nI 0), .ref (gE G), .int (nI 0)])), (mo, .inr (15, [.int (nI 1), .ref al2, .long (lN 0), .null, .ref pf, .int (nI 0)]))] := hD
  refine lv_iload hx hb dL_law_1676 (lv_at hl 1 rfl) ?_
  refine lv_icmp_eq (tgt := 1683) hx hb dL_law_1678 (by decide) (fun c_7 => ?_) (fun c_7 => ?_)
  · skip
    have c_7 : 1 = 1 := (nI_eq (a := 1) (b := 1) (by omega) (by omega)).mp c_7
    refine lv_iload hx hb dL_law_1683 (lv_at hl 1 rfl) ?_
    refine lv_if_ne (tgt := 1720) hx hb dL_law_1685 (by decide) (fun c_8 => ?_) (fun c_8 => ?_)
    · skip
      have c_8 : ¬ 1 = 0 := fun z => c_8 ((nI_eq (a := 1) (b := 0) (by omega) (by omega)).mpr z)
      refine lv_goto (tgt := 1736) hx hb dL_law_1720 (by decide) ?_
      refine lv_iinc (v := nI 4) (lv' := [(5, .int (nI 4)), (7, .double r_4), (6, .int (nI 1)), (0, .ref scr), (1, .ref ho), (2, .ref mo), (3, .ref ou), (4, .ref od)]) hx hb dL_law_1736 hl (k := 7) rfl (nI_add 0 4) (by decide) rfl (fun ls hl => ?_)
      refine lv_goto (tgt := 28) hx hb dL_law_1739 (by decide) ?_
      refine lv_iload hx hb dL_law_28 (lv_at hl 0 rfl) ?_
      refine lv_aload_n hx hb dL_law_30 rfl (lv_at hl 3 rfl) ?_
      refine va_slen hx hb hX hbl hbA hS dL_law_31 ?_
      refine lv_toe (show Int32.ofNat 4 = nI 4 from rfl) ?_
      refine lv_iconst (v := nI 4) hx hb dL_law_32 (by decide) ?_
      refine lv_isub hx hb dL_law_33 ?_
      refine lv_toe (pk_sub (a := 4) (b := 4) (by omega)) ?_
      refine lv_icmp_gt (tgt := 1742) hx hb dL_law_34 (by decide) (fun c_9 => ?_) (fun c_9 => ?_)
      · skip
        have c_9 : 0 < 4 := (nI_ltI (a := 0) (b := 4) (by omega) (by omega)).mp c_9
        refine lv_iconst (v := nI 1) hx hb dL_law_1742 (by decide) ?_
        refine va_forget (fun q hq => hA2 _ (hS.2.2 q hq)) ?_
        refine W.widen (k := 607190) (n := 7280494) (Nat.le_of_ble_eq_true rfl) (Nat.le_of_ble_eq_true rfl) ?_
        exact lw_ret (d0 := s.drawn) (Drawn.sameBut.refl s.drawn lw_cs) hx hb hr hlocks dL_law_1743
      · skip
        have c_9 : ¬ 0 < 4 := fun z => c_9 ((nI_ltI (a := 0) (b := 4) (by omega) (by omega)).mpr z)
        exact absurd c_9 (by decide)
    · skip
      have c_8 : 1 = 0 := (nI_eq (a := 1) (b := 0) (by omega) (by omega)).mp c_8
      exact absurd c_8 (by decide)
  · skip
    have c_7 : ¬ 1 = 1 := fun z => c_7 ((nI_eq (a := 1) (b := 1) (by omega) (by omega)).mpr z)
    exact absurd c_7 (by decide)
set_option maxHeartbeats 4000000 in
set_option maxRecDepth 100000 in
theorem law_isSound {p : Program} {e : Env} {s : State} {m : MethodId} {below : List Frame} {meth : Method} {c : Code} (l : Launch) (hst : l.stackTraces = false) {scr : Nat} {xs : Nat → Int32} (C0 : lw_At p s m meth c scr 4 xs) (G : GG) (A : Nat → Prop) (hA : ∀ q : Nat, s.heap.size ≤ q → A q) (hA2 : ∀ q : Nat, A q → s.heap.size ≤ q) (hK : va_K (gD G) vwCl (gT G) s) (hE : EV G A s s.heap) (ho al ts pb sv b mm sr se mo al2 pf ou od : Nat) (f g hh pff : Nat → Int32) (H : Heap) (locs : List Loc) (hP : va_P (gD G) vwCl [(ho, .inr (11, [.ref al, .ref sv, .ref ts, .ref pb, .null, .int (nI 0)])), (al, .inr (4, [.int (nI 0), .ref (gE G), .int (nI 0)])), (sv, .inr (10, [.ref b, .ref sr, .ref se, .int (nI 0), .int (nI 0), .int (nI 110)])), (b, .inr (5, [.ref mm])), (mm, .inl (gyI G, 16, .inl f)), (sr, .inl (gyI G, 64, .inl g)), (se, .inl (gyI G, 16, .inl hh)), (mo, .inr (15, [.int (nI 0), .ref al2, .long (lN 0), .null, .ref pf, .int (nI 0)])), (al2, .inr (4, [.int (nI 0), .ref (gE G), .int (nI 0)])), (pf, .inl (gyI G, 16, .inl pff)), (ou, .inl (gyL G, 1, .inr (.inl (fun _ => 0)))), (od, .inl (gyD G, 1, .inr (.inr (.inr (.inl (fun _ => 0))))))] H) (hD : va_D A [(ho, .inr (11, [.ref al, .ref sv, .ref ts, .ref pb, .null, .int (nI 0)])), (al, .inr (4, [.int (nI 0), .ref (gE G), .int (nI 0)])), (sv, .inr (10, [.ref b, .ref sr, .ref se, .int (nI 0), .int (nI 0), .int (nI 110)])), (b, .inr (5, [.ref mm])), (mm, .inl (gyI G, 16, .inl f)), (sr, .inl (gyI G, 64, .inl g)), (se, .inl (gyI G, 16, .inl hh)), (mo, .inr (15, [.int (nI 0), .ref al2, .long (lN 0), .null, .ref pf, .int (nI 0)])), (al2, .inr (4, [.int (nI 0), .ref (gE G), .int (nI 0)])), (pf, .inl (gyI G, 16, .inl pff)), (ou, .inl (gyL G, 1, .inr (.inl (fun _ => 0)))), (od, .inl (gyD G, 1, .inr (.inr (.inr (.inl (fun _ => 0))))))]) (hS : va_S A s.heap H locs) (ls : Array Slot) (hl : lv_has ls 9 [(0, .ref scr), (1, .ref ho), (2, .ref mo), (3, .ref ou), (4, .ref od), (5, .int (nI 0))]) : W p l e room_1 s m #[Value.ref scr] below meth c H locs 17 191 (lw_Z below #[Value.ref scr] s) (F0 m 1723 ls []) := by
  obtain ⟨hx, hb, hr, hml, hown, hts0, hX, hbl, hlocks, hgv⟩ := C0
  have hown : s.vm.findClass "PegboardryLaw" = some m.cls := hown
  have hts : ∀ w ∈ WW, w.before #[Value.ref scr] s = true := fun w hw => hts0 w (List.mem_filter.mp hw).1
  have hbA : ¬ A scr := fun z => Nat.not_le.mpr hbl (hA2 _ z)
  refine lv_aload_n hx hb dL_law_1723 rfl (lv_at hl 1 rfl) ?_
  refine fin_i hP hD hS hA [0, 1] [2, 3, 4, 5, 6, 7, 8, 9, 10, 11] (wr := [(sv, .inr (10, [.ref b, .ref sr, .ref se, .int (nI 0), .int (nI 0), .int (nI 110)])), (b, .inr (5, [.ref mm])), (mm, .inl (gyI G, 16, .inl f)), (sr, .inl (gyI G, 64, .inl g)), (se, .inl (gyI G, 16, .inl hh)), (mo, .inr (15, [.int (nI 0), .ref al2, .long (lN 0), .null, .ref pf, .int (nI 0)])), (al2, .inr (4, [.int (nI 0), .ref (gE G), .int (nI 0)])), (pf, .inl (gyI G, 16, .inl pff)), (ou, .inl (gyL G, 1, .inr (.inl (fun _ => 0)))), (od, .inl (gyD G, 1, .inr (.inr (.inr (.inl (fun _ => 0))))))]) rfl rfl (by decide) (by decide) (va_runV (As := []) (rest := []) ⟨hx, hb, hml, hown, hts⟩ (c_X6_isSound l G ho al ts pb (nI 0) sv (nI 0) H.size) (cwV 0 hts (gV q228 q229 q230 q45 q231) rfl rfl rfl (by decide +kernel) ⟨Nat.le_of_ble_eq_true rfl, Nat.le_of_ble_eq_true rfl⟩) (preV (q0 := 0) (ci := 11) hK hE hP hD hS hA [0, 1] rfl (by decide) rfl rfl) rfl rfl hl.1 rfl (lv_room (Nat.le_of_ble_eq_true rfl)) dL_law_1724 ⟨Nat.le_of_ble_eq_true rfl, Nat.le_of_ble_eq_true rfl⟩) (fun r_2 u9 hw_1 H locs hP hD hS => ?_)
  subst hw_1
  have hP : va_P (gD G) vwCl [(sv, .inr (10, [.ref b, .ref sr, .ref se, .int (nI 0), .int (nI 0), .int (nI 110)])), (b, .inr (5, [.ref mm])), (mm, .inl (gyI G, 16, .inl f)), (sr, .inl (gyI G, 64, .inl g)), (se, .inl (gyI G, 16, .inl hh)), (mo, .inr (15, [.int (nI 0), .ref al2, .long (lN 0), .null, .ref pf, .int (nI 0)])), (al2, .inr (4, [.int (nI 0), .ref (gE G), .int (nI 0)])), (pf, .inl (gyI G, 16, .inl pff)), (ou, .inl (gyL G, 1, .inr (.inl (fun _ => 0)))), (od, .inl (gyD G, 1, .inr (.inr (.inr (.inl (fun _ => 0)))))), (ho, .inr (11, [.ref al, .ref sv, .ref ts, .ref pb, .null, .int (nI 0)])), (al, .inr (4, [.int (nI 0), .ref (gE G), .int (nI 0)]))] H := hP
  have hD : va_D A [(sv, .inr (10, [.ref b, .ref sr, .ref se, .int (nI 0), .int (nI 0), .int (nI 110)])), (b, .inr (5, [.ref mm])), (mm, .inl (gyI G, 16, .inl f)), (sr, .inl (gyI G, 64, .inl g)), (se, .inl (gyI G, 16, .inl hh)), (mo, .inr (15, [.int (nI 0), .ref al2, .long (lN 0), .null, .ref pf, .int (nI 0)])), (al2, .inr (4, [.int (nI 0), .ref (gE G), .int (nI 0)])), (pf, .inl (gyI G, 16, .inl pff)), (ou, .inl (gyL G, 1, .inr (.inl (fun _ => 0)))), (od, .inl (gyD G, 1, .inr (.inr (.inr (.inl (fun _ => 0)))))), (ho, .inr (11, [.ref al, .ref sv, .ref ts, .ref pb, .null, .int (nI 0)])), (al, .inr (4, [.int (nI 0), .ref (gE G), .int (nI 0)]))] := hD
  refine lv_aload_n hx hb dL_law_1727 rfl (lv_at hl 2 rfl) ?_
  refine fin_i hP hD hS hA [5, 6] [0, 1, 2, 3, 4, 7, 8, 9, 10, 11] (wr := [(sv, .inr (10, [.ref b, .ref sr, .ref se, .int (nI 0), .int (nI 0), .int (nI 110)])), (b, .inr (5, [.ref mm])), (mm, .inl (gyI G, 16, .inl f)), (sr, .inl (gyI G, 64, .inl g)), (se, .inl (gyI G, 16, .inl hh)), (pf, .inl (gyI G, 16, .inl pff)), (ou, .inl (gyL G, 1, .inr (.inl (fun _ => 0)))), (od, .inl (gyD G, 1, .inr (.inr (.inr (.inl (fun _ => 0)))))), (ho, .inr (11, [.ref al, .ref sv, .ref ts, .ref pb, .null, .int (nI 0)])), (al, .inr (4, [.int (nI 0), .ref (gE G), .int (nI 0)]))]) rfl rfl (by decide) (by decide) (va_runV (As := []) (rest := [.int (nI 1)]) ⟨hx, hb, hml, hown, hts⟩ (c_X10_isSound l G mo (nI 0) al2 0 pf (nI 0) (nI 0) H.size) (cwV 0 hts (gV q1370 q1371 q1372 q52 q1373) rfl rfl rfl (by decide +kernel) ⟨Nat.le_of_ble_eq_true rfl, Nat.le_of_ble_eq_true rfl⟩) (preV (q0 := 5) (ci := 15) hK hE hP hD hS hA [5, 6] rfl (by decide) rfl rfl) rfl rfl hl.1 rfl (lv_room (Nat.le_of_ble_eq_true rfl)) dL_law_1728 ⟨Nat.le_of_ble_eq_true rfl, Nat.le_of_ble_eq_true rfl⟩) (fun r_4 u9 hw_3 H locs hP hD hS => ?_)
  subst hw_3
  have hP : va_P (gD G) vwCl [(sv, .inr (10, [.ref b, .ref sr, .ref se, .int (nI 0), .int (nI 0), .int (nI 110)])), (b, .inr (5, [.ref mm])), (mm, .inl (gyI G, 16, .inl f)), (sr, .inl (gyI G, 64, .inl g)), (se, .inl (gyI G, 16, .inl hh)), (pf, .inl (gyI G, 16, .inl pff)), (ou, .inl (gyL G, 1, .inr (.inl (fun _ => 0)))), (od, .inl (gyD G, 1, .inr (.inr (.inr (.inl (fun _ => 0)))))), (ho, .inr (11, [.ref al, .ref sv, .ref ts, .ref pb, .null, .int (nI 0)])), (al, .inr (4, [.int (nI 0), .ref (gE G), .int (nI 0)])), (mo, .inr (15, [.int (nI 0), .ref al2, .long (lN 0), .null, .ref pf, .int (nI 0)])), (al2, .inr (4, [.int (nI 0), .ref (gE G), .int (nI 0)]))] H := hP
  have hD : va_D A [(sv, .inr (10, [.ref b, .ref sr, .ref se, .int (nI 0), .int (nI 0), .int (nI 110)])), (b, .inr (5, [.ref mm])), (mm, .inl (gyI G, 16, .inl f)), (sr, .inl (gyI G, 64, .inl g)), (se, .inl (gyI G, 16, .inl hh)), (pf, .inl (gyI G, 16, .inl pff)), (ou, .inl (gyL G, 1, .inr (.inl (fun _ => 0)))), (od, .inl (gyD G, 1, .inr (.inr (.inr (.inl (fun _ => 0)))))), (ho, .inr (11, [.ref al, .ref sv, .ref ts, .ref pb, .null, .int (nI 0)])), (al, .inr (4, [.int (nI 0), .ref (gE G), .int (nI 0)])), (mo, .inr (15, [.int (nI 0), .ref al2, .long (lN 0), .null, .ref pf, .int (nI 0)])), (al2, .inr (4, [.int (nI 0), .ref (gE G), .int (nI 0)]))] := hD
  refine lv_icmp_eq (tgt := 1736) hx hb dL_law_1731 (by decide) (fun c_5 => ?_) (fun c_5 => ?_)
  · skip
    have c_5 : 1 = 1 := (nI_eq (a := 1) (b := 1) (by omega) (by omega)).mp c_5
    refine lv_iinc (v := nI 4) (lv' := [(5, .int (nI 4)), (0, .ref scr), (1, .ref ho), (2, .ref mo), (3, .ref ou), (4, .ref od)]) hx hb dL_law_1736 hl (k := 5) rfl (nI_add 0 4) (by decide) rfl (fun ls hl => ?_)
    refine lv_goto (tgt := 28) hx hb dL_law_1739 (by decide) ?_
    refine lv_iload hx hb dL_law_28 (lv_at hl 0 rfl) ?_
    refine lv_aload_n hx hb dL_law_30 rfl (lv_at hl 1 rfl) ?_
    refine va_slen hx hb hX hbl hbA hS dL_law_31 ?_
    refine lv_toe (show Int32.ofNat 4 = nI 4 from rfl) ?_
    refine lv_iconst (v := nI 4) hx hb dL_law_32 (by decide) ?_
    refine lv_isub hx hb dL_law_33 ?_
    refine lv_toe (pk_sub (a := 4) (b := 4) (by omega)) ?_
    refine lv_icmp_gt (tgt := 1742) hx hb dL_law_34 (by decide) (fun c_6 => ?_) (fun c_6 => ?_)
    · skip
      have c_6 : 0 < 4 := (nI_ltI (a := 0) (b := 4) (by omega) (by omega)).mp c_6
      refine lv_iconst (v := nI 1) hx hb dL_law_1742 (by decide) ?_
      refine va_forget (fun q hq => hA2 _ (hS.2.2 q hq)) ?_
      refine W.widen (k := 607190) (n := 7280494) (Nat.le_of_ble_eq_true rfl) (Nat.le_of_ble_eq_true rfl) ?_
      exact lw_ret (d0 := s.drawn) (Drawn.sameBut.refl s.drawn lw_cs) hx hb hr hlocks dL_law_1743
    · skip
      have c_6 : ¬ 0 < 4 := fun z => c_6 ((nI_ltI (a := 0) (b := 4) (by omega) (by omega)).mpr z)
      exact absurd c_6 (by decide)
  · skip
    have c_5 : ¬ 1 = 1 := fun z => c_5 ((nI_eq (a := 1) (b := 1) (by omega) (by omega)).mpr z)
    exact absurd c_5 (by decide)
set_option maxHeartbeats 4000000 in
set_option maxRecDepth 100000 in
theorem law_make_1a {p : Program} {e : Env} {s : State} {m : MethodId} {below : List Frame} {meth : Method} {c : Code} (l : Launch) (hst : l.stackTraces = false) {scr : Nat} {xs : Nat → Int32} (C0 : lw_At p s m meth c scr 4 xs) (G : GG) (A : Nat → Prop) (hA : ∀ q : Nat, s.heap.size ≤ q → A q) (hA2 : ∀ q : Nat, A q → s.heap.size ≤ q) (hK : va_K (gD G) vwCl (gT G) s) (hE : EV G A s s.heap) (ho al ts pb sv b mm sr se mo al2 pf ou od : Nat) (f g hh pff : Nat → Int32) (hbad : xs 1 < nI 0 ∨ nI 9999 < xs 1) (H : Heap) (locs : List Loc) (hP : va_P (gD G) vwCl [(ho, .inr (11, [.ref al, .ref sv, .ref ts, .ref pb, .null, .int (nI 0)])), (al, .inr (4, [.int (nI 0), .ref (gE G), .int (nI 0)])), (sv, .inr (10, [.ref b, .ref sr, .ref se, .int (nI 0), .int (nI 0), .int (nI 110)])), (b, .inr (5, [.ref mm])), (mm, .inl (gyI G, 16, .inl f)), (sr, .inl (gyI G, 64, .inl g)), (se, .inl (gyI G, 16, .inl hh)), (mo, .inr (15, [.int (nI 0), .ref al2, .long (lN 0), .null, .ref pf, .int (nI 0)])), (al2, .inr (4, [.int (nI 0), .ref (gE G), .int (nI 0)])), (pf, .inl (gyI G, 16, .inl pff)), (ou, .inl (gyL G, 1, .inr (.inl (fun _ => 0)))), (od, .inl (gyD G, 1, .inr (.inr (.inr (.inl (fun _ => 0))))))] H) (hD : va_D A [(ho, .inr (11, [.ref al, .ref sv, .ref ts, .ref pb, .null, .int (nI 0)])), (al, .inr (4, [.int (nI 0), .ref (gE G), .int (nI 0)])), (sv, .inr (10, [.ref b, .ref sr, .ref se, .int (nI 0), .int (nI 0), .int (nI 110)])), (b, .inr (5, [.ref mm])), (mm, .inl (gyI G, 16, .inl f)), (sr, .inl (gyI G, 64, .inl g)), (se, .inl (gyI G, 16, .inl hh)), (mo, .inr (15, [.int (nI 0), .ref al2, .long (lN 0), .null, .ref pf, .int (nI 0)])), (al2, .inr (4, [.int (nI 0), .ref (gE G), .int (nI 0)])), (pf, .inl (gyI G, 16, .inl pff)), (ou, .inl (gyL G, 1, .inr (.inl (fun _ => 0)))), (od, .inl (gyD G, 1, .inr (.inr (.inr (.inl (fun _ => 0))))))]) (hS : va_S A s.heap H locs) (ls : Array Slot) (hl : lv_has ls 9 [(0, .ref scr), (1, .ref ho), (2, .ref mo), (3, .ref ou), (4, .ref od), (5, .int (nI 0))]) : W p l e room_1 s m #[Value.ref scr] below meth c H locs 17 191 (lw_Z below #[Value.ref scr] s) (F0 m 372 ls []) := by
  obtain ⟨hx, hb, hr, hml, hown, hts0, hX, hbl, hlocks, hgv⟩ := C0
  have hown : s.vm.findClass "PegboardryLaw" = some m.cls := hown
  have hts : ∀ w ∈ WW, w.before #[Value.ref scr] s = true := fun w hw => hts0 w (List.mem_filter.mp hw).1
  have hbA : ¬ A scr := fun z => Nat.not_le.mpr hbl (hA2 _ z)
  refine lv_aload_n hx hb dL_law_372 rfl (lv_at hl 1 rfl) ?_
  refine lv_aload_n hx hb dL_law_373 rfl (lv_at hl 0 rfl) ?_
  refine lv_iload hx hb dL_law_374 (lv_at hl 5 rfl) ?_
  refine lv_iconst (v := nI 1) hx hb dL_law_376 (by decide) ?_
  refine lv_iadd hx hb dL_law_377 ?_
  refine lv_toe (nI_add 0 1) ?_
  refine va_sld hx hb hX hbl hbA hS (vp_in_nI (n := 1) (N := 4) (by omega) (by omega)) dL_law_378 ?_
  refine lv_toe (show xs (nI (1)).toNatClampNeg = xs 1 by rw [nI_clamp (by omega)]) ?_
  refine lv_aload_n hx hb dL_law_379 rfl (lv_at hl 0 rfl) ?_
  refine lv_iload hx hb dL_law_380 (lv_at hl 5 rfl) ?_
  refine lv_iconst (v := nI 2) hx hb dL_law_382 (by decide) ?_
  refine lv_iadd hx hb dL_law_383 ?_
  refine lv_toe (nI_add 0 2) ?_
  refine va_sld hx hb hX hbl hbA hS (vp_in_nI (n := 2) (N := 4) (by omega) (by omega)) dL_law_384 ?_
  refine lv_toe (show xs (nI (2)).toNatClampNeg = xs 2 by rw [nI_clamp (by omega)]) ?_
  refine lv_aload_n hx hb dL_law_385 rfl (lv_at hl 3 rfl) ?_
  refine fin_i hP hD hS hA [0, 1, 10] [2, 3, 4, 5, 6, 7, 8, 9, 11] (wr := [(sv, .inr (10, [.ref b, .ref sr, .ref se, .int (nI 0), .int (nI 0), .int (nI 110)])), (b, .inr (5, [.ref mm])), (mm, .inl (gyI G, 16, .inl f)), (sr, .inl (gyI G, 64, .inl g)), (se, .inl (gyI G, 16, .inl hh)), (mo, .inr (15, [.int (nI 0), .ref al2, .long (lN 0), .null, .ref pf, .int (nI 0)])), (al2, .inr (4, [.int (nI 0), .ref (gE G), .int (nI 0)])), (pf, .inl (gyI G, 16, .inl pff)), (od, .inl (gyD G, 1, .inr (.inr (.inr (.inl (fun _ => 0))))))]) rfl rfl (by decide) (by decide) (vx_runSW (As := [.ref ho, .int (xs 1), .int (xs 2), .ref ou]) (rest := []) ⟨hx, hb, hml, hown, hts⟩ (l_make_1a l G ho al ts pb (nI 0) sv (nI 0) (xs 1) (xs 2) ou (fun _ => 0) (by omega) hst H.size) (vx_cwSW 4 hts (gSt q657 q658 q44 q659) rfl rfl rfl (by decide +kernel) ⟨Nat.le_of_ble_eq_true rfl, Nat.le_of_ble_eq_true rfl⟩) (preS hK hE hP hD hS hA [0, 1, 10] rfl (by decide)) rfl rfl hl.1 rfl (lv_room (Nat.le_of_ble_eq_true rfl)) dL_law_386 ⟨Nat.le_of_ble_eq_true rfl, Nat.le_of_ble_eq_true rfl⟩) (fun r_2 u9 hw_1 H locs hP hD hS => ?_)
  subst hw_1
  have hP : va_P (gD G) vwCl [(sv, .inr (10, [.ref b, .ref sr, .ref se, .int (nI 0), .int (nI 0), .int (nI 110)])), (b, .inr (5, [.ref mm])), (mm, .inl (gyI G, 16, .inl f)), (sr, .inl (gyI G, 64, .inl g)), (se, .inl (gyI G, 16, .inl hh)), (mo, .inr (15, [.int (nI 0), .ref al2, .long (lN 0), .null, .ref pf, .int (nI 0)])), (al2, .inr (4, [.int (nI 0), .ref (gE G), .int (nI 0)])), (pf, .inl (gyI G, 16, .inl pff)), (od, .inl (gyD G, 1, .inr (.inr (.inr (.inl (fun _ => 0)))))), (ho, .inr (11, [.ref al, .ref sv, .ref ts, .ref pb, .null, .int (nI 0)])), (al, .inr (4, [.int (nI 0), .ref (gE G), .int (nI 0)])), (ou, .inl (gyL G, 1, .inr (.inl (fun _ => 0))))] H := hP
  have hD : va_D A [(sv, .inr (10, [.ref b, .ref sr, .ref se, .int (nI 0), .int (nI 0), .int (nI 110)])), (b, .inr (5, [.ref mm])), (mm, .inl (gyI G, 16, .inl f)), (sr, .inl (gyI G, 64, .inl g)), (se, .inl (gyI G, 16, .inl hh)), (mo, .inr (15, [.int (nI 0), .ref al2, .long (lN 0), .null, .ref pf, .int (nI 0)])), (al2, .inr (4, [.int (nI 0), .ref (gE G), .int (nI 0)])), (pf, .inl (gyI G, 16, .inl pff)), (od, .inl (gyD G, 1, .inr (.inr (.inr (.inl (fun _ => 0)))))), (ho, .inr (11, [.ref al, .ref sv, .ref ts, .ref pb, .null, .int (nI 0)])), (al, .inr (4, [.int (nI 0), .ref (gE G), .int (nI 0)])), (ou, .inl (gyL G, 1, .inr (.inl (fun _ => 0))))] := hD
  refine lv_istore (lv' := [(6, .int (nI 1)), (0, .ref scr), (1, .ref ho), (2, .ref mo), (3, .ref ou), (4, .ref od), (5, .int (nI 0))]) hx hb dL_law_389 hl (by decide) rfl (fun ls hl => ?_)
  refine lv_aload_n hx hb dL_law_391 rfl (lv_at hl 3 rfl) ?_
  refine lv_aload_n hx hb dL_law_392 rfl (lv_at hl 1 rfl) ?_
  refine lv_iload hx hb dL_law_393 (lv_at hl 6 rfl) ?_
  refine lv_iconst (v := nI 1) hx hb dL_law_395 (by decide) ?_
  refine lv_iadd hx hb dL_law_396 ?_
  refine lv_toe (nI_add 0 1) ?_
  refine va_sld hx hb hX hbl hbA hS (vp_in_nI (n := 1) (N := 4) (by omega) (by omega)) dL_law_397 ?_
  refine lv_toe (show xs (nI (1)).toNatClampNeg = xs 1 by rw [nI_clamp (by omega)]) ?_
  refine lv_aload_n hx hb dL_law_398 rfl (lv_at hl 1 rfl) ?_
  refine lv_iload hx hb dL_law_399 (lv_at hl 6 rfl) ?_
  refine lv_iconst (v := nI 2) hx hb dL_law_401 (by decide) ?_
  refine lv_iadd hx hb dL_law_402 ?_
  refine lv_toe (nI_add 0 2) ?_
  refine va_sld hx hb hX hbl hbA hS (vp_in_nI (n := 2) (N := 4) (by omega) (by omega)) dL_law_403 ?_
  refine lv_toe (show xs (nI (2)).toNatClampNeg = xs 2 by rw [nI_clamp (by omega)]) ?_
  refine fin_i hP hD hS hA [5, 6] [0, 1, 2, 3, 4, 7, 8, 9, 10, 11] (wr := [(sv, .inr (10, [.ref b, .ref sr, .ref se, .int (nI 0), .int (nI 0), .int (nI 110)])), (b, .inr (5, [.ref mm])), (mm, .inl (gyI G, 16, .inl f)), (sr, .inl (gyI G, 64, .inl g)), (se, .inl (gyI G, 16, .inl hh)), (pf, .inl (gyI G, 16, .inl pff)), (od, .inl (gyD G, 1, .inr (.inr (.inr (.inl (fun _ => 0)))))), (ho, .inr (11, [.ref al, .ref sv, .ref ts, .ref pb, .null, .int (nI 0)])), (al, .inr (4, [.int (nI 0), .ref (gE G), .int (nI 0)])), (ou, .inl (gyL G, 1, .inr (.inl (fun _ => 0))))]) rfl rfl (by decide) (by decide) (va_runV (As := [.int (xs 1), .int (xs 2)]) (rest := []) ⟨hx, hb, hml, hown, hts⟩ (c_mmake_1a l G mo (nI 0) al2 0 pf (nI 0) (nI 0) (xs 1) (xs 2) (by omega) H.size) (cwV 2 hts (gV q1039 q1040 q1041 q52 q1042) rfl rfl rfl (by decide +kernel) ⟨Nat.le_of_ble_eq_true rfl, Nat.le_of_ble_eq_true rfl⟩) (preV (q0 := 5) (ci := 15) hK hE hP hD hS hA [5, 6] rfl (by decide) rfl rfl) rfl rfl hl.1 rfl (lv_room (Nat.le_of_ble_eq_true rfl)) dL_law_404 ⟨Nat.le_of_ble_eq_true rfl, Nat.le_of_ble_eq_true rfl⟩) (fun r_4 u9 hw_3 H locs hP hD hS => ?_)
  have hP : va_P (gD G) vwCl [(sv, .inr (10, [.ref b, .ref sr, .ref se, .int (nI 0), .int (nI 0), .int (nI 110)])), (b, .inr (5, [.ref mm])), (mm, .inl (gyI G, 16, .inl f)), (sr, .inl (gyI G, 64, .inl g)), (se, .inl (gyI G, 16, .inl hh)), (pf, .inl (gyI G, 16, .inl pff)), (od, .inl (gyD G, 1, .inr (.inr (.inr (.inl (fun _ => 0)))))), (ho, .inr (11, [.ref al, .ref sv, .ref ts, .ref pb, .null, .int (nI 0)])), (al, .inr (4, [.int (nI 0), .ref (gE G), .int (nI 0)])), (ou, .inl (gyL G, 1, .inr (.inl (fun _ => 0)))), (mo, .inr (15, [.int (nI 1), .ref al2, .long (lN 0), .null, .ref pf, .int (nI 0)])), (al2, .inr (4, [.int (nI 0), .ref (gE G), .int (nI 0)]))] H := hP
  have hD : va_D A [(sv, .inr (10, [.ref b, .ref sr, .ref se, .int (nI 0), .int (nI 0), .int (nI 110)])), (b, .inr (5, [.ref mm])), (mm, .inl (gyI G, 16, .inl f)), (sr, .inl (gyI G, 64, .inl g)), (se, .inl (gyI G, 16, .inl hh)), (pf, .inl (gyI G, 16, .inl pff)), (od, .inl (gyD G, 1, .inr (.inr (.inr (.inl (fun _ => 0)))))), (ho, .inr (11, [.ref al, .ref sv, .ref ts, .ref pb, .null, .int (nI 0)])), (al, .inr (4, [.int (nI 0), .ref (gE G), .int (nI 0)])), (ou, .inl (gyL G, 1, .inr (.inl (fun _ => 0)))), (mo, .inr (15, [.int (nI 1), .ref al2, .long (lN 0), .null, .ref pf, .int (nI 0)])), (al2, .inr (4, [.int (nI 0), .ref (gE G), .int (nI 0)]))] := hD
  refine lv_istore (lv' := [(7, .int r_4), (6, .int (nI 1)), (0, .ref scr), (1, .ref ho), (2, .ref mo), (3, .ref ou), (4, .ref od), (5, .int (nI 0))]) hx hb dL_law_407 hl (by decide) rfl (fun ls hl => ?_)
  refine lv_aload_n hx hb dL_law_409 rfl (lv_at hl 4 rfl) ?_
  refine fin_i hP hD hS hA [10] [0, 1, 2, 3, 4, 5, 6, 7, 8, 9, 11] (wr := [(sv, .inr (10, [.ref b, .ref sr, .ref se, .int (nI 0), .int (nI 0), .int (nI 110)])), (b, .inr (5, [.ref mm])), (mm, .inl (gyI G, 16, .inl f)), (sr, .inl (gyI G, 64, .inl g)), (se, .inl (gyI G, 16, .inl hh)), (pf, .inl (gyI G, 16, .inl pff)), (od, .inl (gyD G, 1, .inr (.inr (.inr (.inl (fun _ => 0)))))), (ho, .inr (11, [.ref al, .ref sv, .ref ts, .ref pb, .null, .int (nI 0)])), (al, .inr (4, [.int (nI 0), .ref (gE G), .int (nI 0)])), (ou, .inl (gyL G, 1, .inr (.inl (fun _ => 0)))), (al2, .inr (4, [.int (nI 0), .ref (gE G), .int (nI 0)]))]) rfl rfl (by decide) (by decide) (va_runV (As := []) (rest := []) ⟨hx, hb, hml, hown, hts⟩ (c_X10_thrown l G mo 1 al2 0 pf (nI 0) H.size) (cwV 0 hts (gV q946 q947 q948 q52 q949) rfl rfl rfl (by decide +kernel) ⟨Nat.le_of_ble_eq_true rfl, Nat.le_of_ble_eq_true rfl⟩) (preV (q0 := 10) (ci := 15) hK hE hP hD hS hA [10] rfl (by decide) rfl rfl) rfl rfl hl.1 rfl (lv_room (Nat.le_of_ble_eq_true rfl)) dL_law_410 ⟨Nat.le_of_ble_eq_true rfl, Nat.le_of_ble_eq_true rfl⟩) (fun r_6 u9 hw_5 H locs hP hD hS => ?_)
  subst hw_5
  have hP : va_P (gD G) vwCl [(sv, .inr (10, [.ref b, .ref sr, .ref se, .int (nI 0), .int (nI 0), .int (nI 110)])), (b, .inr (5, [.ref mm])), (mm, .inl (gyI G, 16, .inl f)), (sr, .inl (gyI G, 64, .inl g)), (se, .inl (gyI G, 16, .inl hh)), (pf, .inl (gyI G, 16, .inl pff)), (od, .inl (gyD G, 1, .inr (.inr (.inr (.inl (fun _ => 0)))))), (ho, .inr (11, [.ref al, .ref sv, .ref ts, .ref pb, .null, .int (nI 0)])), (al, .inr (4, [.int (nI 0), .ref (gE G), .int (nI 0)])), (ou, .inl (gyL G, 1, .inr (.inl (fun _ => 0)))), (al2, .inr (4, [.int (nI 0), .ref (gE G), .int (nI 0)])), (mo, .inr (15, [.int (nI 1), .ref al2, .long (lN 0), .null, .ref pf, .int (nI 0)]))] H := hP
  have hD : va_D A [(sv, .inr (10, [.ref b, .ref sr, .ref se, .int (nI 0), .int (nI 0), .int (nI 110)])), (b, .inr (5, [.ref mm])), (mm, .inl (gyI G, 16, .inl f)), (sr, .inl (gyI G, 64, .inl g)), (se, .inl (gyI G, 16, .inl hh)), (pf, .inl (gyI G, 16, .inl pff)), (od, .inl (gyD G, 1, .inr (.inr (.inr (.inl (fun _ => 0)))))), (ho, .inr (11, [.ref al, .ref sv, .ref ts, .ref pb, .null, .int (nI 0)])), (al, .inr (4, [.int (nI 0), .ref (gE G), .int (nI 0)])), (ou, .inl (gyL G, 1, .inr (.inl (fun _ => 0)))), (al2, .inr (4, [.int (nI 0), .ref (gE G), .int (nI 0)])), (mo, .inr (15, [.int (nI 1), .ref al2, .long (lN 0), .null, .ref pf, .int (nI 0)]))] := hD
  refine lv_iload hx hb dL_law_413 (lv_at hl 1 rfl) ?_
  refine lv_icmp_eq (tgt := 420) hx hb dL_law_415 (by decide) (fun c_7 => ?_) (fun c_7 => ?_)
  · skip
    have c_7 : 1 = 1 := (nI_eq (a := 1) (b := 1) (by omega) (by omega)).mp c_7
    refine lv_iload hx hb dL_law_420 (lv_at hl 1 rfl) ?_
    refine lv_if_ne (tgt := 437) hx hb dL_law_422 (by decide) (fun c_8 => ?_) (fun c_8 => ?_)
    · skip
      have c_8 : ¬ 1 = 0 := fun z => c_8 ((nI_eq (a := 1) (b := 0) (by omega) (by omega)).mpr z)
      refine lv_goto (tgt := 1736) hx hb dL_law_437 (by decide) ?_
      refine lv_iinc (v := nI 4) (lv' := [(5, .int (nI 4)), (7, .int r_4), (6, .int (nI 1)), (0, .ref scr), (1, .ref ho), (2, .ref mo), (3, .ref ou), (4, .ref od)]) hx hb dL_law_1736 hl (k := 7) rfl (nI_add 0 4) (by decide) rfl (fun ls hl => ?_)
      refine lv_goto (tgt := 28) hx hb dL_law_1739 (by decide) ?_
      refine lv_iload hx hb dL_law_28 (lv_at hl 0 rfl) ?_
      refine lv_aload_n hx hb dL_law_30 rfl (lv_at hl 3 rfl) ?_
      refine va_slen hx hb hX hbl hbA hS dL_law_31 ?_
      refine lv_toe (show Int32.ofNat 4 = nI 4 from rfl) ?_
      refine lv_iconst (v := nI 4) hx hb dL_law_32 (by decide) ?_
      refine lv_isub hx hb dL_law_33 ?_
      refine lv_toe (pk_sub (a := 4) (b := 4) (by omega)) ?_
      refine lv_icmp_gt (tgt := 1742) hx hb dL_law_34 (by decide) (fun c_9 => ?_) (fun c_9 => ?_)
      · skip
        have c_9 : 0 < 4 := (nI_ltI (a := 0) (b := 4) (by omega) (by omega)).mp c_9
        refine lv_iconst (v := nI 1) hx hb dL_law_1742 (by decide) ?_
        refine va_forget (fun q hq => hA2 _ (hS.2.2 q hq)) ?_
        refine W.widen (k := 607190) (n := 7280494) (Nat.le_of_ble_eq_true rfl) (Nat.le_of_ble_eq_true rfl) ?_
        exact lw_ret (d0 := s.drawn) (Drawn.sameBut.refl s.drawn lw_cs) hx hb hr hlocks dL_law_1743
      · skip
        have c_9 : ¬ 0 < 4 := fun z => c_9 ((nI_ltI (a := 0) (b := 4) (by omega) (by omega)).mpr z)
        exact absurd c_9 (by decide)
    · skip
      have c_8 : 1 = 0 := (nI_eq (a := 1) (b := 0) (by omega) (by omega)).mp c_8
      exact absurd c_8 (by decide)
  · skip
    have c_7 : ¬ 1 = 1 := fun z => c_7 ((nI_eq (a := 1) (b := 1) (by omega) (by omega)).mpr z)
    exact absurd c_7 (by decide)
set_option maxHeartbeats 4000000 in
set_option maxRecDepth 100000 in
theorem law_make_1b {p : Program} {e : Env} {s : State} {m : MethodId} {below : List Frame} {meth : Method} {c : Code} (l : Launch) (hst : l.stackTraces = false) {scr : Nat} {xs : Nat → Int32} (C0 : lw_At p s m meth c scr 4 xs) (G : GG) (A : Nat → Prop) (hA : ∀ q : Nat, s.heap.size ≤ q → A q) (hA2 : ∀ q : Nat, A q → s.heap.size ≤ q) (hK : va_K (gD G) vwCl (gT G) s) (hE : EV G A s s.heap) (ho al ts pb sv b mm sr se mo al2 pf ou od : Nat) (f g hh pff : Nat → Int32) (sd : Nat) (hsd : sd ≤ 9999) (hv1 : xs 1 = nI sd) (hbad : xs 2 < nI 1 ∨ nI 3 < xs 2) (H : Heap) (locs : List Loc) (hP : va_P (gD G) vwCl [(ho, .inr (11, [.ref al, .ref sv, .ref ts, .ref pb, .null, .int (nI 0)])), (al, .inr (4, [.int (nI 0), .ref (gE G), .int (nI 0)])), (sv, .inr (10, [.ref b, .ref sr, .ref se, .int (nI 0), .int (nI 0), .int (nI 110)])), (b, .inr (5, [.ref mm])), (mm, .inl (gyI G, 16, .inl f)), (sr, .inl (gyI G, 64, .inl g)), (se, .inl (gyI G, 16, .inl hh)), (mo, .inr (15, [.int (nI 0), .ref al2, .long (lN 0), .null, .ref pf, .int (nI 0)])), (al2, .inr (4, [.int (nI 0), .ref (gE G), .int (nI 0)])), (pf, .inl (gyI G, 16, .inl pff)), (ou, .inl (gyL G, 1, .inr (.inl (fun _ => 0)))), (od, .inl (gyD G, 1, .inr (.inr (.inr (.inl (fun _ => 0))))))] H) (hD : va_D A [(ho, .inr (11, [.ref al, .ref sv, .ref ts, .ref pb, .null, .int (nI 0)])), (al, .inr (4, [.int (nI 0), .ref (gE G), .int (nI 0)])), (sv, .inr (10, [.ref b, .ref sr, .ref se, .int (nI 0), .int (nI 0), .int (nI 110)])), (b, .inr (5, [.ref mm])), (mm, .inl (gyI G, 16, .inl f)), (sr, .inl (gyI G, 64, .inl g)), (se, .inl (gyI G, 16, .inl hh)), (mo, .inr (15, [.int (nI 0), .ref al2, .long (lN 0), .null, .ref pf, .int (nI 0)])), (al2, .inr (4, [.int (nI 0), .ref (gE G), .int (nI 0)])), (pf, .inl (gyI G, 16, .inl pff)), (ou, .inl (gyL G, 1, .inr (.inl (fun _ => 0)))), (od, .inl (gyD G, 1, .inr (.inr (.inr (.inl (fun _ => 0))))))]) (hS : va_S A s.heap H locs) (ls : Array Slot) (hl : lv_has ls 9 [(0, .ref scr), (1, .ref ho), (2, .ref mo), (3, .ref ou), (4, .ref od), (5, .int (nI 0))]) : W p l e room_1 s m #[Value.ref scr] below meth c H locs 17 191 (lw_Z below #[Value.ref scr] s) (F0 m 372 ls []) := by
  obtain ⟨hx, hb, hr, hml, hown, hts0, hX, hbl, hlocks, hgv⟩ := C0
  have hown : s.vm.findClass "PegboardryLaw" = some m.cls := hown
  have hts : ∀ w ∈ WW, w.before #[Value.ref scr] s = true := fun w hw => hts0 w (List.mem_filter.mp hw).1
  have hbA : ¬ A scr := fun z => Nat.not_le.mpr hbl (hA2 _ z)
  refine lv_aload_n hx hb dL_law_372 rfl (lv_at hl 1 rfl) ?_
  refine lv_aload_n hx hb dL_law_373 rfl (lv_at hl 0 rfl) ?_
  refine lv_iload hx hb dL_law_374 (lv_at hl 5 rfl) ?_
  refine lv_iconst (v := nI 1) hx hb dL_law_376 (by decide) ?_
  refine lv_iadd hx hb dL_law_377 ?_
  refine lv_toe (nI_add 0 1) ?_
  refine va_sld hx hb hX hbl hbA hS (vp_in_nI (n := 1) (N := 4) (by omega) (by omega)) dL_law_378 ?_
  refine lv_toe (show xs (nI (1)).toNatClampNeg = nI sd by rw [nI_clamp (by omega)]; exact hv1) ?_
  refine lv_aload_n hx hb dL_law_379 rfl (lv_at hl 0 rfl) ?_
  refine lv_iload hx hb dL_law_380 (lv_at hl 5 rfl) ?_
  refine lv_iconst (v := nI 2) hx hb dL_law_382 (by decide) ?_
  refine lv_iadd hx hb dL_law_383 ?_
  refine lv_toe (nI_add 0 2) ?_
  refine va_sld hx hb hX hbl hbA hS (vp_in_nI (n := 2) (N := 4) (by omega) (by omega)) dL_law_384 ?_
  refine lv_toe (show xs (nI (2)).toNatClampNeg = xs 2 by rw [nI_clamp (by omega)]) ?_
  refine lv_aload_n hx hb dL_law_385 rfl (lv_at hl 3 rfl) ?_
  refine fin_i hP hD hS hA [0, 1, 10] [2, 3, 4, 5, 6, 7, 8, 9, 11] (wr := [(sv, .inr (10, [.ref b, .ref sr, .ref se, .int (nI 0), .int (nI 0), .int (nI 110)])), (b, .inr (5, [.ref mm])), (mm, .inl (gyI G, 16, .inl f)), (sr, .inl (gyI G, 64, .inl g)), (se, .inl (gyI G, 16, .inl hh)), (mo, .inr (15, [.int (nI 0), .ref al2, .long (lN 0), .null, .ref pf, .int (nI 0)])), (al2, .inr (4, [.int (nI 0), .ref (gE G), .int (nI 0)])), (pf, .inl (gyI G, 16, .inl pff)), (od, .inl (gyD G, 1, .inr (.inr (.inr (.inl (fun _ => 0))))))]) rfl rfl (by decide) (by decide) (vx_runSW (As := [.ref ho, .int (nI sd), .int (xs 2), .ref ou]) (rest := []) ⟨hx, hb, hml, hown, hts⟩ (l_make_1b l G ho al ts pb (nI 0) sv (nI 0) sd (xs 2) ou (fun _ => 0) (by omega) (by omega) hst H.size) (vx_cwSW 4 hts (gSt q657 q658 q44 q659) rfl rfl rfl (by decide +kernel) ⟨Nat.le_of_ble_eq_true rfl, Nat.le_of_ble_eq_true rfl⟩) (preS hK hE hP hD hS hA [0, 1, 10] rfl (by decide)) rfl rfl hl.1 rfl (lv_room (Nat.le_of_ble_eq_true rfl)) dL_law_386 ⟨Nat.le_of_ble_eq_true rfl, Nat.le_of_ble_eq_true rfl⟩) (fun r_2 u9 hw_1 H locs hP hD hS => ?_)
  subst hw_1
  have hP : va_P (gD G) vwCl [(sv, .inr (10, [.ref b, .ref sr, .ref se, .int (nI 0), .int (nI 0), .int (nI 110)])), (b, .inr (5, [.ref mm])), (mm, .inl (gyI G, 16, .inl f)), (sr, .inl (gyI G, 64, .inl g)), (se, .inl (gyI G, 16, .inl hh)), (mo, .inr (15, [.int (nI 0), .ref al2, .long (lN 0), .null, .ref pf, .int (nI 0)])), (al2, .inr (4, [.int (nI 0), .ref (gE G), .int (nI 0)])), (pf, .inl (gyI G, 16, .inl pff)), (od, .inl (gyD G, 1, .inr (.inr (.inr (.inl (fun _ => 0)))))), (ho, .inr (11, [.ref al, .ref sv, .ref ts, .ref pb, .null, .int (nI 0)])), (al, .inr (4, [.int (nI 0), .ref (gE G), .int (nI 0)])), (ou, .inl (gyL G, 1, .inr (.inl (fun _ => 0))))] H := hP
  have hD : va_D A [(sv, .inr (10, [.ref b, .ref sr, .ref se, .int (nI 0), .int (nI 0), .int (nI 110)])), (b, .inr (5, [.ref mm])), (mm, .inl (gyI G, 16, .inl f)), (sr, .inl (gyI G, 64, .inl g)), (se, .inl (gyI G, 16, .inl hh)), (mo, .inr (15, [.int (nI 0), .ref al2, .long (lN 0), .null, .ref pf, .int (nI 0)])), (al2, .inr (4, [.int (nI 0), .ref (gE G), .int (nI 0)])), (pf, .inl (gyI G, 16, .inl pff)), (od, .inl (gyD G, 1, .inr (.inr (.inr (.inl (fun _ => 0)))))), (ho, .inr (11, [.ref al, .ref sv, .ref ts, .ref pb, .null, .int (nI 0)])), (al, .inr (4, [.int (nI 0), .ref (gE G), .int (nI 0)])), (ou, .inl (gyL G, 1, .inr (.inl (fun _ => 0))))] := hD
  refine lv_istore (lv' := [(6, .int (nI 1)), (0, .ref scr), (1, .ref ho), (2, .ref mo), (3, .ref ou), (4, .ref od), (5, .int (nI 0))]) hx hb dL_law_389 hl (by decide) rfl (fun ls hl => ?_)
  refine lv_aload_n hx hb dL_law_391 rfl (lv_at hl 3 rfl) ?_
  refine lv_aload_n hx hb dL_law_392 rfl (lv_at hl 1 rfl) ?_
  refine lv_iload hx hb dL_law_393 (lv_at hl 6 rfl) ?_
  refine lv_iconst (v := nI 1) hx hb dL_law_395 (by decide) ?_
  refine lv_iadd hx hb dL_law_396 ?_
  refine lv_toe (nI_add 0 1) ?_
  refine va_sld hx hb hX hbl hbA hS (vp_in_nI (n := 1) (N := 4) (by omega) (by omega)) dL_law_397 ?_
  refine lv_toe (show xs (nI (1)).toNatClampNeg = nI sd by rw [nI_clamp (by omega)]; exact hv1) ?_
  refine lv_aload_n hx hb dL_law_398 rfl (lv_at hl 1 rfl) ?_
  refine lv_iload hx hb dL_law_399 (lv_at hl 6 rfl) ?_
  refine lv_iconst (v := nI 2) hx hb dL_law_401 (by decide) ?_
  refine lv_iadd hx hb dL_law_402 ?_
  refine lv_toe (nI_add 0 2) ?_
  refine va_sld hx hb hX hbl hbA hS (vp_in_nI (n := 2) (N := 4) (by omega) (by omega)) dL_law_403 ?_
  refine lv_toe (show xs (nI (2)).toNatClampNeg = xs 2 by rw [nI_clamp (by omega)]) ?_
  refine fin_i hP hD hS hA [5, 6] [0, 1, 2, 3, 4, 7, 8, 9, 10, 11] (wr := [(sv, .inr (10, [.ref b, .ref sr, .ref se, .int (nI 0), .int (nI 0), .int (nI 110)])), (b, .inr (5, [.ref mm])), (mm, .inl (gyI G, 16, .inl f)), (sr, .inl (gyI G, 64, .inl g)), (se, .inl (gyI G, 16, .inl hh)), (pf, .inl (gyI G, 16, .inl pff)), (od, .inl (gyD G, 1, .inr (.inr (.inr (.inl (fun _ => 0)))))), (ho, .inr (11, [.ref al, .ref sv, .ref ts, .ref pb, .null, .int (nI 0)])), (al, .inr (4, [.int (nI 0), .ref (gE G), .int (nI 0)])), (ou, .inl (gyL G, 1, .inr (.inl (fun _ => 0))))]) rfl rfl (by decide) (by decide) (va_runV (As := [.int (nI sd), .int (xs 2)]) (rest := []) ⟨hx, hb, hml, hown, hts⟩ (c_mmake_1b l G mo (nI 0) al2 0 pf (nI 0) (nI 0) sd (xs 2) (by omega) (by omega) H.size) (cwV 2 hts (gV q1039 q1040 q1041 q52 q1042) rfl rfl rfl (by decide +kernel) ⟨Nat.le_of_ble_eq_true rfl, Nat.le_of_ble_eq_true rfl⟩) (preV (q0 := 5) (ci := 15) hK hE hP hD hS hA [5, 6] rfl (by decide) rfl rfl) rfl rfl hl.1 rfl (lv_room (Nat.le_of_ble_eq_true rfl)) dL_law_404 ⟨Nat.le_of_ble_eq_true rfl, Nat.le_of_ble_eq_true rfl⟩) (fun r_4 u9 hw_3 H locs hP hD hS => ?_)
  have hP : va_P (gD G) vwCl [(sv, .inr (10, [.ref b, .ref sr, .ref se, .int (nI 0), .int (nI 0), .int (nI 110)])), (b, .inr (5, [.ref mm])), (mm, .inl (gyI G, 16, .inl f)), (sr, .inl (gyI G, 64, .inl g)), (se, .inl (gyI G, 16, .inl hh)), (pf, .inl (gyI G, 16, .inl pff)), (od, .inl (gyD G, 1, .inr (.inr (.inr (.inl (fun _ => 0)))))), (ho, .inr (11, [.ref al, .ref sv, .ref ts, .ref pb, .null, .int (nI 0)])), (al, .inr (4, [.int (nI 0), .ref (gE G), .int (nI 0)])), (ou, .inl (gyL G, 1, .inr (.inl (fun _ => 0)))), (mo, .inr (15, [.int (nI 1), .ref al2, .long (lN 0), .null, .ref pf, .int (nI 0)])), (al2, .inr (4, [.int (nI 0), .ref (gE G), .int (nI 0)]))] H := hP
  have hD : va_D A [(sv, .inr (10, [.ref b, .ref sr, .ref se, .int (nI 0), .int (nI 0), .int (nI 110)])), (b, .inr (5, [.ref mm])), (mm, .inl (gyI G, 16, .inl f)), (sr, .inl (gyI G, 64, .inl g)), (se, .inl (gyI G, 16, .inl hh)), (pf, .inl (gyI G, 16, .inl pff)), (od, .inl (gyD G, 1, .inr (.inr (.inr (.inl (fun _ => 0)))))), (ho, .inr (11, [.ref al, .ref sv, .ref ts, .ref pb, .null, .int (nI 0)])), (al, .inr (4, [.int (nI 0), .ref (gE G), .int (nI 0)])), (ou, .inl (gyL G, 1, .inr (.inl (fun _ => 0)))), (mo, .inr (15, [.int (nI 1), .ref al2, .long (lN 0), .null, .ref pf, .int (nI 0)])), (al2, .inr (4, [.int (nI 0), .ref (gE G), .int (nI 0)]))] := hD
  refine lv_istore (lv' := [(7, .int r_4), (6, .int (nI 1)), (0, .ref scr), (1, .ref ho), (2, .ref mo), (3, .ref ou), (4, .ref od), (5, .int (nI 0))]) hx hb dL_law_407 hl (by decide) rfl (fun ls hl => ?_)
  refine lv_aload_n hx hb dL_law_409 rfl (lv_at hl 4 rfl) ?_
  refine fin_i hP hD hS hA [10] [0, 1, 2, 3, 4, 5, 6, 7, 8, 9, 11] (wr := [(sv, .inr (10, [.ref b, .ref sr, .ref se, .int (nI 0), .int (nI 0), .int (nI 110)])), (b, .inr (5, [.ref mm])), (mm, .inl (gyI G, 16, .inl f)), (sr, .inl (gyI G, 64, .inl g)), (se, .inl (gyI G, 16, .inl hh)), (pf, .inl (gyI G, 16, .inl pff)), (od, .inl (gyD G, 1, .inr (.inr (.inr (.inl (fun _ => 0)))))), (ho, .inr (11, [.ref al, .ref sv, .ref ts, .ref pb, .null, .int (nI 0)])), (al, .inr (4, [.int (nI 0), .ref (gE G), .int (nI 0)])), (ou, .inl (gyL G, 1, .inr (.inl (fun _ => 0)))), (al2, .inr (4, [.int (nI 0), .ref (gE G), .int (nI 0)]))]) rfl rfl (by decide) (by decide) (va_runV (As := []) (rest := []) ⟨hx, hb, hml, hown, hts⟩ (c_X10_thrown l G mo 1 al2 0 pf (nI 0) H.size) (cwV 0 hts (gV q946 q947 q948 q52 q949) rfl rfl rfl (by decide +kernel) ⟨Nat.le_of_ble_eq_true rfl, Nat.le_of_ble_eq_true rfl⟩) (preV (q0 := 10) (ci := 15) hK hE hP hD hS hA [10] rfl (by decide) rfl rfl) rfl rfl hl.1 rfl (lv_room (Nat.le_of_ble_eq_true rfl)) dL_law_410 ⟨Nat.le_of_ble_eq_true rfl, Nat.le_of_ble_eq_true rfl⟩) (fun r_6 u9 hw_5 H locs hP hD hS => ?_)
  subst hw_5
  have hP : va_P (gD G) vwCl [(sv, .inr (10, [.ref b, .ref sr, .ref se, .int (nI 0), .int (nI 0), .int (nI 110)])), (b, .inr (5, [.ref mm])), (mm, .inl (gyI G, 16, .inl f)), (sr, .inl (gyI G, 64, .inl g)), (se, .inl (gyI G, 16, .inl hh)), (pf, .inl (gyI G, 16, .inl pff)), (od, .inl (gyD G, 1, .inr (.inr (.inr (.inl (fun _ => 0)))))), (ho, .inr (11, [.ref al, .ref sv, .ref ts, .ref pb, .null, .int (nI 0)])), (al, .inr (4, [.int (nI 0), .ref (gE G), .int (nI 0)])), (ou, .inl (gyL G, 1, .inr (.inl (fun _ => 0)))), (al2, .inr (4, [.int (nI 0), .ref (gE G), .int (nI 0)])), (mo, .inr (15, [.int (nI 1), .ref al2, .long (lN 0), .null, .ref pf, .int (nI 0)]))] H := hP
  have hD : va_D A [(sv, .inr (10, [.ref b, .ref sr, .ref se, .int (nI 0), .int (nI 0), .int (nI 110)])), (b, .inr (5, [.ref mm])), (mm, .inl (gyI G, 16, .inl f)), (sr, .inl (gyI G, 64, .inl g)), (se, .inl (gyI G, 16, .inl hh)), (pf, .inl (gyI G, 16, .inl pff)), (od, .inl (gyD G, 1, .inr (.inr (.inr (.inl (fun _ => 0)))))), (ho, .inr (11, [.ref al, .ref sv, .ref ts, .ref pb, .null, .int (nI 0)])), (al, .inr (4, [.int (nI 0), .ref (gE G), .int (nI 0)])), (ou, .inl (gyL G, 1, .inr (.inl (fun _ => 0)))), (al2, .inr (4, [.int (nI 0), .ref (gE G), .int (nI 0)])), (mo, .inr (15, [.int (nI 1), .ref al2, .long (lN 0), .null, .ref pf, .int (nI 0)]))] := hD
  refine lv_iload hx hb dL_law_413 (lv_at hl 1 rfl) ?_
  refine lv_icmp_eq (tgt := 420) hx hb dL_law_415 (by decide) (fun c_7 => ?_) (fun c_7 => ?_)
  · skip
    have c_7 : 1 = 1 := (nI_eq (a := 1) (b := 1) (by omega) (by omega)).mp c_7
    refine lv_iload hx hb dL_law_420 (lv_at hl 1 rfl) ?_
    refine lv_if_ne (tgt := 437) hx hb dL_law_422 (by decide) (fun c_8 => ?_) (fun c_8 => ?_)
    · skip
      have c_8 : ¬ 1 = 0 := fun z => c_8 ((nI_eq (a := 1) (b := 0) (by omega) (by omega)).mpr z)
      refine lv_goto (tgt := 1736) hx hb dL_law_437 (by decide) ?_
      refine lv_iinc (v := nI 4) (lv' := [(5, .int (nI 4)), (7, .int r_4), (6, .int (nI 1)), (0, .ref scr), (1, .ref ho), (2, .ref mo), (3, .ref ou), (4, .ref od)]) hx hb dL_law_1736 hl (k := 7) rfl (nI_add 0 4) (by decide) rfl (fun ls hl => ?_)
      refine lv_goto (tgt := 28) hx hb dL_law_1739 (by decide) ?_
      refine lv_iload hx hb dL_law_28 (lv_at hl 0 rfl) ?_
      refine lv_aload_n hx hb dL_law_30 rfl (lv_at hl 3 rfl) ?_
      refine va_slen hx hb hX hbl hbA hS dL_law_31 ?_
      refine lv_toe (show Int32.ofNat 4 = nI 4 from rfl) ?_
      refine lv_iconst (v := nI 4) hx hb dL_law_32 (by decide) ?_
      refine lv_isub hx hb dL_law_33 ?_
      refine lv_toe (pk_sub (a := 4) (b := 4) (by omega)) ?_
      refine lv_icmp_gt (tgt := 1742) hx hb dL_law_34 (by decide) (fun c_9 => ?_) (fun c_9 => ?_)
      · skip
        have c_9 : 0 < 4 := (nI_ltI (a := 0) (b := 4) (by omega) (by omega)).mp c_9
        refine lv_iconst (v := nI 1) hx hb dL_law_1742 (by decide) ?_
        refine va_forget (fun q hq => hA2 _ (hS.2.2 q hq)) ?_
        refine W.widen (k := 607190) (n := 7280494) (Nat.le_of_ble_eq_true rfl) (Nat.le_of_ble_eq_true rfl) ?_
        exact lw_ret (d0 := s.drawn) (Drawn.sameBut.refl s.drawn lw_cs) hx hb hr hlocks dL_law_1743
      · skip
        have c_9 : ¬ 0 < 4 := fun z => c_9 ((nI_ltI (a := 0) (b := 4) (by omega) (by omega)).mpr z)
        exact absurd c_9 (by decide)
    · skip
      have c_8 : 1 = 0 := (nI_eq (a := 1) (b := 0) (by omega) (by omega)).mp c_8
      exact absurd c_8 (by decide)
  · skip
    have c_7 : ¬ 1 = 1 := fun z => c_7 ((nI_eq (a := 1) (b := 1) (by omega) (by omega)).mpr z)
    exact absurd c_7 (by decide)
set_option maxHeartbeats 4000000 in
set_option maxRecDepth 100000 in
theorem law_make_ok {p : Program} {e : Env} {s : State} {m : MethodId} {below : List Frame} {meth : Method} {c : Code} (l : Launch) (hst : l.stackTraces = false) {scr : Nat} {xs : Nat → Int32} (C0 : lw_At p s m meth c scr 4 xs) (G : GG) (A : Nat → Prop) (hA : ∀ q : Nat, s.heap.size ≤ q → A q) (hA2 : ∀ q : Nat, A q → s.heap.size ≤ q) (hK : va_K (gD G) vwCl (gT G) s) (hE : EV G A s s.heap) (ho al ts pb sv b mm sr se mo al2 pf ou od : Nat) (f g hh pff : Nat → Int32) (sd : Nat) (hi : Nat) (hsd : sd ≤ 9999) (hh1 : 1 ≤ hi) (hh2 : hi ≤ 3) (hv1 : xs 1 = nI sd) (hv2 : xs 2 = nI hi) (H : Heap) (locs : List Loc) (hP : va_P (gD G) vwCl [(ho, .inr (11, [.ref al, .ref sv, .ref ts, .ref pb, .null, .int (nI 0)])), (al, .inr (4, [.int (nI 0), .ref (gE G), .int (nI 0)])), (sv, .inr (10, [.ref b, .ref sr, .ref se, .int (nI 0), .int (nI 0), .int (nI 110)])), (b, .inr (5, [.ref mm])), (mm, .inl (gyI G, 16, .inl f)), (sr, .inl (gyI G, 64, .inl g)), (se, .inl (gyI G, 16, .inl hh)), (mo, .inr (15, [.int (nI 0), .ref al2, .long (lN 0), .null, .ref pf, .int (nI 0)])), (al2, .inr (4, [.int (nI 0), .ref (gE G), .int (nI 0)])), (pf, .inl (gyI G, 16, .inl pff)), (ou, .inl (gyL G, 1, .inr (.inl (fun _ => 0)))), (od, .inl (gyD G, 1, .inr (.inr (.inr (.inl (fun _ => 0))))))] H) (hD : va_D A [(ho, .inr (11, [.ref al, .ref sv, .ref ts, .ref pb, .null, .int (nI 0)])), (al, .inr (4, [.int (nI 0), .ref (gE G), .int (nI 0)])), (sv, .inr (10, [.ref b, .ref sr, .ref se, .int (nI 0), .int (nI 0), .int (nI 110)])), (b, .inr (5, [.ref mm])), (mm, .inl (gyI G, 16, .inl f)), (sr, .inl (gyI G, 64, .inl g)), (se, .inl (gyI G, 16, .inl hh)), (mo, .inr (15, [.int (nI 0), .ref al2, .long (lN 0), .null, .ref pf, .int (nI 0)])), (al2, .inr (4, [.int (nI 0), .ref (gE G), .int (nI 0)])), (pf, .inl (gyI G, 16, .inl pff)), (ou, .inl (gyL G, 1, .inr (.inl (fun _ => 0)))), (od, .inl (gyD G, 1, .inr (.inr (.inr (.inl (fun _ => 0))))))]) (hS : va_S A s.heap H locs) (ls : Array Slot) (hl : lv_has ls 9 [(0, .ref scr), (1, .ref ho), (2, .ref mo), (3, .ref ou), (4, .ref od), (5, .int (nI 0))]) : W p l e room_1 s m #[Value.ref scr] below meth c H locs 17 191 (lw_Z below #[Value.ref scr] s) (F0 m 372 ls []) := by
  obtain ⟨hx, hb, hr, hml, hown, hts0, hX, hbl, hlocks, hgv⟩ := C0
  have hown : s.vm.findClass "PegboardryLaw" = some m.cls := hown
  have hts : ∀ w ∈ WW, w.before #[Value.ref scr] s = true := fun w hw => hts0 w (List.mem_filter.mp hw).1
  have hbA : ¬ A scr := fun z => Nat.not_le.mpr hbl (hA2 _ z)
  refine lv_aload_n hx hb dL_law_372 rfl (lv_at hl 1 rfl) ?_
  refine lv_aload_n hx hb dL_law_373 rfl (lv_at hl 0 rfl) ?_
  refine lv_iload hx hb dL_law_374 (lv_at hl 5 rfl) ?_
  refine lv_iconst (v := nI 1) hx hb dL_law_376 (by decide) ?_
  refine lv_iadd hx hb dL_law_377 ?_
  refine lv_toe (nI_add 0 1) ?_
  refine va_sld hx hb hX hbl hbA hS (vp_in_nI (n := 1) (N := 4) (by omega) (by omega)) dL_law_378 ?_
  refine lv_toe (show xs (nI (1)).toNatClampNeg = nI sd by rw [nI_clamp (by omega)]; exact hv1) ?_
  refine lv_aload_n hx hb dL_law_379 rfl (lv_at hl 0 rfl) ?_
  refine lv_iload hx hb dL_law_380 (lv_at hl 5 rfl) ?_
  refine lv_iconst (v := nI 2) hx hb dL_law_382 (by decide) ?_
  refine lv_iadd hx hb dL_law_383 ?_
  refine lv_toe (nI_add 0 2) ?_
  refine va_sld hx hb hX hbl hbA hS (vp_in_nI (n := 2) (N := 4) (by omega) (by omega)) dL_law_384 ?_
  refine lv_toe (show xs (nI (2)).toNatClampNeg = nI hi by rw [nI_clamp (by omega)]; exact hv2) ?_
  refine lv_aload_n hx hb dL_law_385 rfl (lv_at hl 3 rfl) ?_
  refine fin_i hP hD hS hA [0, 1, 2, 3, 4, 5, 6, 10] [7, 8, 9, 11] (wr := [(mo, .inr (15, [.int (nI 0), .ref al2, .long (lN 0), .null, .ref pf, .int (nI 0)])), (al2, .inr (4, [.int (nI 0), .ref (gE G), .int (nI 0)])), (pf, .inl (gyI G, 16, .inl pff)), (od, .inl (gyD G, 1, .inr (.inr (.inr (.inl (fun _ => 0))))))]) rfl rfl (by decide) (by decide) (vx_runSW (As := [.ref ho, .int (nI sd), .int (nI hi), .ref ou]) (rest := []) ⟨hx, hb, hml, hown, hts⟩ (l_make_ok l G ho al ts pb (nI 0) (nI 0) sv b mm sr se f g hh 0 0 (nI 110) sd hi ou (fun _ => 0) (by omega) (by omega) (by omega) (by omega) (by omega) hst H.size) (vx_cwSW 4 hts (gSt q657 q658 q44 q659) rfl rfl rfl (by decide +kernel) ⟨Nat.le_of_ble_eq_true rfl, Nat.le_of_ble_eq_true rfl⟩) (preS hK hE hP hD hS hA [0, 1, 2, 3, 4, 5, 6, 10] rfl (by decide)) rfl rfl hl.1 rfl (lv_room (Nat.le_of_ble_eq_true rfl)) dL_law_386 ⟨Nat.le_of_ble_eq_true rfl, Nat.le_of_ble_eq_true rfl⟩) (fun r_3 u9 hw_2 H locs hP hD hS => ?_)
  obtain ⟨fo2_1, rfl⟩ : ∃ z, z = u9 := ⟨_, rfl⟩
  obtain ⟨rfl, hfo_4⟩ := hw_2
  have hfo_4 : fo2_1 0 = lN 0 := hfo_4
  have hP : va_P (gD G) vwCl [(mo, .inr (15, [.int (nI 0), .ref al2, .long (lN 0), .null, .ref pf, .int (nI 0)])), (al2, .inr (4, [.int (nI 0), .ref (gE G), .int (nI 0)])), (pf, .inl (gyI G, 16, .inl pff)), (od, .inl (gyD G, 1, .inr (.inr (.inr (.inl (fun _ => 0)))))), (ou, .inl (gyL G, 1, .inr (.inl fo2_1)))] H := hP
  have hD : va_D A [(mo, .inr (15, [.int (nI 0), .ref al2, .long (lN 0), .null, .ref pf, .int (nI 0)])), (al2, .inr (4, [.int (nI 0), .ref (gE G), .int (nI 0)])), (pf, .inl (gyI G, 16, .inl pff)), (od, .inl (gyD G, 1, .inr (.inr (.inr (.inl (fun _ => 0)))))), (ou, .inl (gyL G, 1, .inr (.inl fo2_1)))] := hD
  refine lv_istore (lv' := [(6, .int (nI 0)), (0, .ref scr), (1, .ref ho), (2, .ref mo), (3, .ref ou), (4, .ref od), (5, .int (nI 0))]) hx hb dL_law_389 hl (by decide) rfl (fun ls hl => ?_)
  refine lv_aload_n hx hb dL_law_391 rfl (lv_at hl 3 rfl) ?_
  refine lv_aload_n hx hb dL_law_392 rfl (lv_at hl 1 rfl) ?_
  refine lv_iload hx hb dL_law_393 (lv_at hl 6 rfl) ?_
  refine lv_iconst (v := nI 1) hx hb dL_law_395 (by decide) ?_
  refine lv_iadd hx hb dL_law_396 ?_
  refine lv_toe (nI_add 0 1) ?_
  refine va_sld hx hb hX hbl hbA hS (vp_in_nI (n := 1) (N := 4) (by omega) (by omega)) dL_law_397 ?_
  refine lv_toe (show xs (nI (1)).toNatClampNeg = nI sd by rw [nI_clamp (by omega)]; exact hv1) ?_
  refine lv_aload_n hx hb dL_law_398 rfl (lv_at hl 1 rfl) ?_
  refine lv_iload hx hb dL_law_399 (lv_at hl 6 rfl) ?_
  refine lv_iconst (v := nI 2) hx hb dL_law_401 (by decide) ?_
  refine lv_iadd hx hb dL_law_402 ?_
  refine lv_toe (nI_add 0 2) ?_
  refine va_sld hx hb hX hbl hbA hS (vp_in_nI (n := 2) (N := 4) (by omega) (by omega)) dL_law_403 ?_
  refine lv_toe (show xs (nI (2)).toNatClampNeg = nI hi by rw [nI_clamp (by omega)]; exact hv2) ?_
  refine fin_i hP hD hS hA [0, 1] [2, 3, 4] (wr := [(pf, .inl (gyI G, 16, .inl pff)), (od, .inl (gyD G, 1, .inr (.inr (.inr (.inl (fun _ => 0)))))), (ou, .inl (gyL G, 1, .inr (.inl fo2_1)))]) rfl rfl (by decide) (by decide) (va_runV (As := [.int (nI sd), .int (nI hi)]) (rest := []) ⟨hx, hb, hml, hown, hts⟩ (c_mmake_ok l G mo (nI 0) al2 0 pf (nI 0) (nI 0) sd hi (by omega) (by omega) (by omega) H.size) (cwV 2 hts (gV q1039 q1040 q1041 q52 q1042) rfl rfl rfl (by decide +kernel) ⟨Nat.le_of_ble_eq_true rfl, Nat.le_of_ble_eq_true rfl⟩) (preV (q0 := 0) (ci := 15) hK hE hP hD hS hA [0, 1] rfl (by decide) rfl rfl) rfl rfl hl.1 rfl (lv_room (Nat.le_of_ble_eq_true rfl)) dL_law_404 ⟨Nat.le_of_ble_eq_true rfl, Nat.le_of_ble_eq_true rfl⟩) (fun r_7 u9 hw_6 H locs hP hD hS => ?_)
  obtain ⟨z9_5, rfl⟩ : ∃ z, z = u9 := ⟨_, rfl⟩
  subst hw_6
  have hP : va_P (gD G) vwCl [(pf, .inl (gyI G, 16, .inl pff)), (od, .inl (gyD G, 1, .inr (.inr (.inr (.inl (fun _ => 0)))))), (ou, .inl (gyL G, 1, .inr (.inl fo2_1))), (mo, .inr (15, [.int (nI 0), .ref al2, .long (lN z9_5), .null, .ref pf, .int (nI 0)]))] H := hP
  have hD : va_D A [(pf, .inl (gyI G, 16, .inl pff)), (od, .inl (gyD G, 1, .inr (.inr (.inr (.inl (fun _ => 0)))))), (ou, .inl (gyL G, 1, .inr (.inl fo2_1))), (mo, .inr (15, [.int (nI 0), .ref al2, .long (lN z9_5), .null, .ref pf, .int (nI 0)]))] := hD
  refine lv_istore (lv' := [(7, .int (nI 0)), (6, .int (nI 0)), (0, .ref scr), (1, .ref ho), (2, .ref mo), (3, .ref ou), (4, .ref od), (5, .int (nI 0))]) hx hb dL_law_407 hl (by decide) rfl (fun ls hl => ?_)
  refine lv_aload_n hx hb dL_law_409 rfl (lv_at hl 4 rfl) ?_
  refine fin_i hP hD hS hA [3] [0, 1, 2] (wr := [(pf, .inl (gyI G, 16, .inl pff)), (od, .inl (gyD G, 1, .inr (.inr (.inr (.inl (fun _ => 0)))))), (ou, .inl (gyL G, 1, .inr (.inl fo2_1)))]) rfl rfl (by decide) (by decide) (va_runV (As := []) (rest := []) ⟨hx, hb, hml, hown, hts⟩ (c_X10_thrown l G mo 0 al2 z9_5 pf (nI 0) H.size) (cwV 0 hts (gV q946 q947 q948 q52 q949) rfl rfl rfl (by decide +kernel) ⟨Nat.le_of_ble_eq_true rfl, Nat.le_of_ble_eq_true rfl⟩) (preV (q0 := 3) (ci := 15) hK hE hP hD hS hA [3] rfl (by decide) rfl rfl) rfl rfl hl.1 rfl (lv_room (Nat.le_of_ble_eq_true rfl)) dL_law_410 ⟨Nat.le_of_ble_eq_true rfl, Nat.le_of_ble_eq_true rfl⟩) (fun r_9 u9 hw_8 H locs hP hD hS => ?_)
  subst hw_8
  have hP : va_P (gD G) vwCl [(pf, .inl (gyI G, 16, .inl pff)), (od, .inl (gyD G, 1, .inr (.inr (.inr (.inl (fun _ => 0)))))), (ou, .inl (gyL G, 1, .inr (.inl fo2_1))), (mo, .inr (15, [.int (nI 0), .ref al2, .long (lN z9_5), .null, .ref pf, .int (nI 0)]))] H := hP
  have hD : va_D A [(pf, .inl (gyI G, 16, .inl pff)), (od, .inl (gyD G, 1, .inr (.inr (.inr (.inl (fun _ => 0)))))), (ou, .inl (gyL G, 1, .inr (.inl fo2_1))), (mo, .inr (15, [.int (nI 0), .ref al2, .long (lN z9_5), .null, .ref pf, .int (nI 0)]))] := hD
  refine lv_iload hx hb dL_law_413 (lv_at hl 1 rfl) ?_
  refine lv_icmp_eq (tgt := 420) hx hb dL_law_415 (by decide) (fun c_10 => ?_) (fun c_10 => ?_)
  · skip
    have c_10 : 0 = 0 := (nI_eq (a := 0) (b := 0) (by omega) (by omega)).mp c_10
    refine lv_iload hx hb dL_law_420 (lv_at hl 1 rfl) ?_
    refine lv_if_ne (tgt := 437) hx hb dL_law_422 (by decide) (fun c_11 => ?_) (fun c_11 => ?_)
    · skip
      have c_11 : ¬ 0 = 0 := fun z => c_11 ((nI_eq (a := 0) (b := 0) (by omega) (by omega)).mpr z)
      exact absurd c_11 (by decide)
    · skip
      have c_11 : 0 = 0 := (nI_eq (a := 0) (b := 0) (by omega) (by omega)).mp c_11
      refine lv_aload_n hx hb dL_law_425 rfl (lv_at hl 5 rfl) ?_
      refine lv_iconst (v := nI 0) hx hb dL_law_426 (by decide) ?_
      refine va_lald (D := gD G) (cA := gyL G) (n := 1) (f := fo2_1) hx hb hK hP 2 2 rfl rfl (vp_in_nI (n := 0) (N := 1) (by omega) (by omega)) dL_law_427 ?_
      refine lv_tol (show fo2_1 (nI 0).toNatClampNeg = lN 0 by rw [nI_clamp (by omega)]; exact hfo_4) ?_
      refine lv_iload hx hb dL_law_428 (lv_at hl 0 rfl) ?_
      refine lv_i2l (v := lN 0) hx hb dL_law_430 (nI_l (by omega)) ?_
      refine W.lcmp hx hb dL_law_431 ?_
      refine lv_toe (show lg_cmp (lN 0) (lN 0) = nI 0 by decide) ?_
      refine lv_if_eq (tgt := 437) hx hb dL_law_432 (by decide) (fun c_12 => ?_) (fun c_12 => ?_)
      · skip
        have c_12 : 0 = 0 := (nI_eq (a := 0) (b := 0) (by omega) (by omega)).mp c_12
        refine lv_goto (tgt := 1736) hx hb dL_law_437 (by decide) ?_
        refine lv_iinc (v := nI 4) (lv' := [(5, .int (nI 4)), (7, .int (nI 0)), (6, .int (nI 0)), (0, .ref scr), (1, .ref ho), (2, .ref mo), (3, .ref ou), (4, .ref od)]) hx hb dL_law_1736 hl (k := 7) rfl (nI_add 0 4) (by decide) rfl (fun ls hl => ?_)
        refine lv_goto (tgt := 28) hx hb dL_law_1739 (by decide) ?_
        refine lv_iload hx hb dL_law_28 (lv_at hl 0 rfl) ?_
        refine lv_aload_n hx hb dL_law_30 rfl (lv_at hl 3 rfl) ?_
        refine va_slen hx hb hX hbl hbA hS dL_law_31 ?_
        refine lv_toe (show Int32.ofNat 4 = nI 4 from rfl) ?_
        refine lv_iconst (v := nI 4) hx hb dL_law_32 (by decide) ?_
        refine lv_isub hx hb dL_law_33 ?_
        refine lv_toe (pk_sub (a := 4) (b := 4) (by omega)) ?_
        refine lv_icmp_gt (tgt := 1742) hx hb dL_law_34 (by decide) (fun c_13 => ?_) (fun c_13 => ?_)
        · skip
          have c_13 : 0 < 4 := (nI_ltI (a := 0) (b := 4) (by omega) (by omega)).mp c_13
          refine lv_iconst (v := nI 1) hx hb dL_law_1742 (by decide) ?_
          refine va_forget (fun q hq => hA2 _ (hS.2.2 q hq)) ?_
          refine W.widen (k := 607190) (n := 7280494) (Nat.le_of_ble_eq_true rfl) (Nat.le_of_ble_eq_true rfl) ?_
          exact lw_ret (d0 := s.drawn) (Drawn.sameBut.refl s.drawn lw_cs) hx hb hr hlocks dL_law_1743
        · skip
          have c_13 : ¬ 0 < 4 := fun z => c_13 ((nI_ltI (a := 0) (b := 4) (by omega) (by omega)).mpr z)
          exact absurd c_13 (by decide)
      · skip
        have c_12 : ¬ 0 = 0 := fun z => c_12 ((nI_eq (a := 0) (b := 0) (by omega) (by omega)).mpr z)
        exact absurd c_12 (by decide)
  · skip
    have c_10 : ¬ 0 = 0 := fun z => c_10 ((nI_eq (a := 0) (b := 0) (by omega) (by omega)).mpr z)
    exact absurd c_10 (by decide)
set_option maxHeartbeats 4000000 in
set_option maxRecDepth 100000 in
theorem law_tell_1 {p : Program} {e : Env} {s : State} {m : MethodId} {below : List Frame} {meth : Method} {c : Code} (l : Launch) (hst : l.stackTraces = false) {scr : Nat} {xs : Nat → Int32} (C0 : lw_At p s m meth c scr 4 xs) (G : GG) (A : Nat → Prop) (hA : ∀ q : Nat, s.heap.size ≤ q → A q) (hA2 : ∀ q : Nat, A q → s.heap.size ≤ q) (hK : va_K (gD G) vwCl (gT G) s) (hE : EV G A s s.heap) (ho al ts pb sv b mm sr se mo al2 pf ou od : Nat) (f g hh pff : Nat → Int32) (hbad : xs 2 < nI 0 ∨ nI 15 < xs 2) (H : Heap) (locs : List Loc) (hP : va_P (gD G) vwCl [(ho, .inr (11, [.ref al, .ref sv, .ref ts, .ref pb, .null, .int (nI 0)])), (al, .inr (4, [.int (nI 0), .ref (gE G), .int (nI 0)])), (sv, .inr (10, [.ref b, .ref sr, .ref se, .int (nI 0), .int (nI 0), .int (nI 110)])), (b, .inr (5, [.ref mm])), (mm, .inl (gyI G, 16, .inl f)), (sr, .inl (gyI G, 64, .inl g)), (se, .inl (gyI G, 16, .inl hh)), (mo, .inr (15, [.int (nI 0), .ref al2, .long (lN 0), .null, .ref pf, .int (nI 0)])), (al2, .inr (4, [.int (nI 0), .ref (gE G), .int (nI 0)])), (pf, .inl (gyI G, 16, .inl pff)), (ou, .inl (gyL G, 1, .inr (.inl (fun _ => 0)))), (od, .inl (gyD G, 1, .inr (.inr (.inr (.inl (fun _ => 0))))))] H) (hD : va_D A [(ho, .inr (11, [.ref al, .ref sv, .ref ts, .ref pb, .null, .int (nI 0)])), (al, .inr (4, [.int (nI 0), .ref (gE G), .int (nI 0)])), (sv, .inr (10, [.ref b, .ref sr, .ref se, .int (nI 0), .int (nI 0), .int (nI 110)])), (b, .inr (5, [.ref mm])), (mm, .inl (gyI G, 16, .inl f)), (sr, .inl (gyI G, 64, .inl g)), (se, .inl (gyI G, 16, .inl hh)), (mo, .inr (15, [.int (nI 0), .ref al2, .long (lN 0), .null, .ref pf, .int (nI 0)])), (al2, .inr (4, [.int (nI 0), .ref (gE G), .int (nI 0)])), (pf, .inl (gyI G, 16, .inl pff)), (ou, .inl (gyL G, 1, .inr (.inl (fun _ => 0)))), (od, .inl (gyD G, 1, .inr (.inr (.inr (.inl (fun _ => 0))))))]) (hS : va_S A s.heap H locs) (ls : Array Slot) (hl : lv_has ls 9 [(0, .ref scr), (1, .ref ho), (2, .ref mo), (3, .ref ou), (4, .ref od), (5, .int (nI 0))]) : W p l e room_1 s m #[Value.ref scr] below meth c H locs 17 191 (lw_Z below #[Value.ref scr] s) (F0 m 1118 ls []) := by
  obtain ⟨hx, hb, hr, hml, hown, hts0, hX, hbl, hlocks, hgv⟩ := C0
  have hown : s.vm.findClass "PegboardryLaw" = some m.cls := hown
  have hts : ∀ w ∈ WW, w.before #[Value.ref scr] s = true := fun w hw => hts0 w (List.mem_filter.mp hw).1
  have hbA : ¬ A scr := fun z => Nat.not_le.mpr hbl (hA2 _ z)
  refine lv_aload_n hx hb dL_law_1118 rfl (lv_at hl 1 rfl) ?_
  refine lv_aload_n hx hb dL_law_1119 rfl (lv_at hl 0 rfl) ?_
  refine lv_iload hx hb dL_law_1120 (lv_at hl 5 rfl) ?_
  refine lv_iconst (v := nI 1) hx hb dL_law_1122 (by decide) ?_
  refine lv_iadd hx hb dL_law_1123 ?_
  refine lv_toe (nI_add 0 1) ?_
  refine va_sld hx hb hX hbl hbA hS (vp_in_nI (n := 1) (N := 4) (by omega) (by omega)) dL_law_1124 ?_
  refine lv_toe (show xs (nI (1)).toNatClampNeg = xs 1 by rw [nI_clamp (by omega)]) ?_
  refine lv_aload_n hx hb dL_law_1125 rfl (lv_at hl 0 rfl) ?_
  refine lv_iload hx hb dL_law_1126 (lv_at hl 5 rfl) ?_
  refine lv_iconst (v := nI 2) hx hb dL_law_1128 (by decide) ?_
  refine lv_iadd hx hb dL_law_1129 ?_
  refine lv_toe (nI_add 0 2) ?_
  refine va_sld hx hb hX hbl hbA hS (vp_in_nI (n := 2) (N := 4) (by omega) (by omega)) dL_law_1130 ?_
  refine lv_toe (show xs (nI (2)).toNatClampNeg = xs 2 by rw [nI_clamp (by omega)]) ?_
  refine lv_aload_n hx hb dL_law_1131 rfl (lv_at hl 0 rfl) ?_
  refine lv_iload hx hb dL_law_1132 (lv_at hl 5 rfl) ?_
  refine lv_iconst (v := nI 3) hx hb dL_law_1134 (by decide) ?_
  refine lv_iadd hx hb dL_law_1135 ?_
  refine lv_toe (nI_add 0 3) ?_
  refine va_sld hx hb hX hbl hbA hS (vp_in_nI (n := 3) (N := 4) (by omega) (by omega)) dL_law_1136 ?_
  refine lv_toe (show xs (nI (3)).toNatClampNeg = xs 3 by rw [nI_clamp (by omega)]) ?_
  refine lv_aload_n hx hb dL_law_1137 rfl (lv_at hl 3 rfl) ?_
  refine fin_i hP hD hS hA [0, 1, 10] [2, 3, 4, 5, 6, 7, 8, 9, 11] (wr := [(sv, .inr (10, [.ref b, .ref sr, .ref se, .int (nI 0), .int (nI 0), .int (nI 110)])), (b, .inr (5, [.ref mm])), (mm, .inl (gyI G, 16, .inl f)), (sr, .inl (gyI G, 64, .inl g)), (se, .inl (gyI G, 16, .inl hh)), (mo, .inr (15, [.int (nI 0), .ref al2, .long (lN 0), .null, .ref pf, .int (nI 0)])), (al2, .inr (4, [.int (nI 0), .ref (gE G), .int (nI 0)])), (pf, .inl (gyI G, 16, .inl pff)), (od, .inl (gyD G, 1, .inr (.inr (.inr (.inl (fun _ => 0))))))]) rfl rfl (by decide) (by decide) (vx_runSW (As := [.ref ho, .int (xs 1), .int (xs 2), .int (xs 3), .ref ou]) (rest := []) ⟨hx, hb, hml, hown, hts⟩ (l_tell_1 l G ho al ts pb (nI 0) sv (nI 0) (xs 1) (xs 2) (xs 3) ou (fun _ => 0) (by omega) hst H.size) (vx_cwSW 5 hts (gSt q813 q814 q44 q815) rfl rfl rfl (by decide +kernel) ⟨Nat.le_of_ble_eq_true rfl, Nat.le_of_ble_eq_true rfl⟩) (preS hK hE hP hD hS hA [0, 1, 10] rfl (by decide)) rfl rfl hl.1 rfl (lv_room (Nat.le_of_ble_eq_true rfl)) dL_law_1138 ⟨Nat.le_of_ble_eq_true rfl, Nat.le_of_ble_eq_true rfl⟩) (fun r_2 u9 hw_1 H locs hP hD hS => ?_)
  subst hw_1
  have hP : va_P (gD G) vwCl [(sv, .inr (10, [.ref b, .ref sr, .ref se, .int (nI 0), .int (nI 0), .int (nI 110)])), (b, .inr (5, [.ref mm])), (mm, .inl (gyI G, 16, .inl f)), (sr, .inl (gyI G, 64, .inl g)), (se, .inl (gyI G, 16, .inl hh)), (mo, .inr (15, [.int (nI 0), .ref al2, .long (lN 0), .null, .ref pf, .int (nI 0)])), (al2, .inr (4, [.int (nI 0), .ref (gE G), .int (nI 0)])), (pf, .inl (gyI G, 16, .inl pff)), (od, .inl (gyD G, 1, .inr (.inr (.inr (.inl (fun _ => 0)))))), (ho, .inr (11, [.ref al, .ref sv, .ref ts, .ref pb, .null, .int (nI 0)])), (al, .inr (4, [.int (nI 0), .ref (gE G), .int (nI 0)])), (ou, .inl (gyL G, 1, .inr (.inl (fun _ => 0))))] H := hP
  have hD : va_D A [(sv, .inr (10, [.ref b, .ref sr, .ref se, .int (nI 0), .int (nI 0), .int (nI 110)])), (b, .inr (5, [.ref mm])), (mm, .inl (gyI G, 16, .inl f)), (sr, .inl (gyI G, 64, .inl g)), (se, .inl (gyI G, 16, .inl hh)), (mo, .inr (15, [.int (nI 0), .ref al2, .long (lN 0), .null, .ref pf, .int (nI 0)])), (al2, .inr (4, [.int (nI 0), .ref (gE G), .int (nI 0)])), (pf, .inl (gyI G, 16, .inl pff)), (od, .inl (gyD G, 1, .inr (.inr (.inr (.inl (fun _ => 0)))))), (ho, .inr (11, [.ref al, .ref sv, .ref ts, .ref pb, .null, .int (nI 0)])), (al, .inr (4, [.int (nI 0), .ref (gE G), .int (nI 0)])), (ou, .inl (gyL G, 1, .inr (.inl (fun _ => 0))))] := hD
  refine lv_istore (lv' := [(6, .int (nI 1)), (0, .ref scr), (1, .ref ho), (2, .ref mo), (3, .ref ou), (4, .ref od), (5, .int (nI 0))]) hx hb dL_law_1141 hl (by decide) rfl (fun ls hl => ?_)
  refine lv_aload_n hx hb dL_law_1143 rfl (lv_at hl 3 rfl) ?_
  refine lv_aload_n hx hb dL_law_1144 rfl (lv_at hl 1 rfl) ?_
  refine lv_iload hx hb dL_law_1145 (lv_at hl 6 rfl) ?_
  refine lv_iconst (v := nI 1) hx hb dL_law_1147 (by decide) ?_
  refine lv_iadd hx hb dL_law_1148 ?_
  refine lv_toe (nI_add 0 1) ?_
  refine va_sld hx hb hX hbl hbA hS (vp_in_nI (n := 1) (N := 4) (by omega) (by omega)) dL_law_1149 ?_
  refine lv_toe (show xs (nI (1)).toNatClampNeg = xs 1 by rw [nI_clamp (by omega)]) ?_
  refine lv_aload_n hx hb dL_law_1150 rfl (lv_at hl 1 rfl) ?_
  refine lv_iload hx hb dL_law_1151 (lv_at hl 6 rfl) ?_
  refine lv_iconst (v := nI 2) hx hb dL_law_1153 (by decide) ?_
  refine lv_iadd hx hb dL_law_1154 ?_
  refine lv_toe (nI_add 0 2) ?_
  refine va_sld hx hb hX hbl hbA hS (vp_in_nI (n := 2) (N := 4) (by omega) (by omega)) dL_law_1155 ?_
  refine lv_toe (show xs (nI (2)).toNatClampNeg = xs 2 by rw [nI_clamp (by omega)]) ?_
  refine lv_aload_n hx hb dL_law_1156 rfl (lv_at hl 1 rfl) ?_
  refine lv_iload hx hb dL_law_1157 (lv_at hl 6 rfl) ?_
  refine lv_iconst (v := nI 3) hx hb dL_law_1159 (by decide) ?_
  refine lv_iadd hx hb dL_law_1160 ?_
  refine lv_toe (nI_add 0 3) ?_
  refine va_sld hx hb hX hbl hbA hS (vp_in_nI (n := 3) (N := 4) (by omega) (by omega)) dL_law_1161 ?_
  refine lv_toe (show xs (nI (3)).toNatClampNeg = xs 3 by rw [nI_clamp (by omega)]) ?_
  refine fin_i hP hD hS hA [5, 6] [0, 1, 2, 3, 4, 7, 8, 9, 10, 11] (wr := [(sv, .inr (10, [.ref b, .ref sr, .ref se, .int (nI 0), .int (nI 0), .int (nI 110)])), (b, .inr (5, [.ref mm])), (mm, .inl (gyI G, 16, .inl f)), (sr, .inl (gyI G, 64, .inl g)), (se, .inl (gyI G, 16, .inl hh)), (pf, .inl (gyI G, 16, .inl pff)), (od, .inl (gyD G, 1, .inr (.inr (.inr (.inl (fun _ => 0)))))), (ho, .inr (11, [.ref al, .ref sv, .ref ts, .ref pb, .null, .int (nI 0)])), (al, .inr (4, [.int (nI 0), .ref (gE G), .int (nI 0)])), (ou, .inl (gyL G, 1, .inr (.inl (fun _ => 0))))]) rfl rfl (by decide) (by decide) (va_runV (As := [.int (xs 1), .int (xs 2), .int (xs 3)]) (rest := []) ⟨hx, hb, hml, hown, hts⟩ (c_mtell_1 l G mo (nI 0) al2 0 pf (nI 0) (nI 0) (xs 1) (xs 2) (xs 3) (by omega) H.size) (cwV 3 hts (gV q1318 q1319 q1320 q52 q1321) rfl rfl rfl (by decide +kernel) ⟨Nat.le_of_ble_eq_true rfl, Nat.le_of_ble_eq_true rfl⟩) (preV (q0 := 5) (ci := 15) hK hE hP hD hS hA [5, 6] rfl (by decide) rfl rfl) rfl rfl hl.1 rfl (lv_room (Nat.le_of_ble_eq_true rfl)) dL_law_1162 ⟨Nat.le_of_ble_eq_true rfl, Nat.le_of_ble_eq_true rfl⟩) (fun r_4 u9 hw_3 H locs hP hD hS => ?_)
  have hP : va_P (gD G) vwCl [(sv, .inr (10, [.ref b, .ref sr, .ref se, .int (nI 0), .int (nI 0), .int (nI 110)])), (b, .inr (5, [.ref mm])), (mm, .inl (gyI G, 16, .inl f)), (sr, .inl (gyI G, 64, .inl g)), (se, .inl (gyI G, 16, .inl hh)), (pf, .inl (gyI G, 16, .inl pff)), (od, .inl (gyD G, 1, .inr (.inr (.inr (.inl (fun _ => 0)))))), (ho, .inr (11, [.ref al, .ref sv, .ref ts, .ref pb, .null, .int (nI 0)])), (al, .inr (4, [.int (nI 0), .ref (gE G), .int (nI 0)])), (ou, .inl (gyL G, 1, .inr (.inl (fun _ => 0)))), (mo, .inr (15, [.int (nI 1), .ref al2, .long (lN 0), .null, .ref pf, .int (nI 0)])), (al2, .inr (4, [.int (nI 0), .ref (gE G), .int (nI 0)]))] H := hP
  have hD : va_D A [(sv, .inr (10, [.ref b, .ref sr, .ref se, .int (nI 0), .int (nI 0), .int (nI 110)])), (b, .inr (5, [.ref mm])), (mm, .inl (gyI G, 16, .inl f)), (sr, .inl (gyI G, 64, .inl g)), (se, .inl (gyI G, 16, .inl hh)), (pf, .inl (gyI G, 16, .inl pff)), (od, .inl (gyD G, 1, .inr (.inr (.inr (.inl (fun _ => 0)))))), (ho, .inr (11, [.ref al, .ref sv, .ref ts, .ref pb, .null, .int (nI 0)])), (al, .inr (4, [.int (nI 0), .ref (gE G), .int (nI 0)])), (ou, .inl (gyL G, 1, .inr (.inl (fun _ => 0)))), (mo, .inr (15, [.int (nI 1), .ref al2, .long (lN 0), .null, .ref pf, .int (nI 0)])), (al2, .inr (4, [.int (nI 0), .ref (gE G), .int (nI 0)]))] := hD
  refine lv_istore (lv' := [(7, .int r_4), (6, .int (nI 1)), (0, .ref scr), (1, .ref ho), (2, .ref mo), (3, .ref ou), (4, .ref od), (5, .int (nI 0))]) hx hb dL_law_1165 hl (by decide) rfl (fun ls hl => ?_)
  refine lv_aload_n hx hb dL_law_1167 rfl (lv_at hl 4 rfl) ?_
  refine fin_i hP hD hS hA [10] [0, 1, 2, 3, 4, 5, 6, 7, 8, 9, 11] (wr := [(sv, .inr (10, [.ref b, .ref sr, .ref se, .int (nI 0), .int (nI 0), .int (nI 110)])), (b, .inr (5, [.ref mm])), (mm, .inl (gyI G, 16, .inl f)), (sr, .inl (gyI G, 64, .inl g)), (se, .inl (gyI G, 16, .inl hh)), (pf, .inl (gyI G, 16, .inl pff)), (od, .inl (gyD G, 1, .inr (.inr (.inr (.inl (fun _ => 0)))))), (ho, .inr (11, [.ref al, .ref sv, .ref ts, .ref pb, .null, .int (nI 0)])), (al, .inr (4, [.int (nI 0), .ref (gE G), .int (nI 0)])), (ou, .inl (gyL G, 1, .inr (.inl (fun _ => 0)))), (al2, .inr (4, [.int (nI 0), .ref (gE G), .int (nI 0)]))]) rfl rfl (by decide) (by decide) (va_runV (As := []) (rest := []) ⟨hx, hb, hml, hown, hts⟩ (c_X10_thrown l G mo 1 al2 0 pf (nI 0) H.size) (cwV 0 hts (gV q946 q947 q948 q52 q949) rfl rfl rfl (by decide +kernel) ⟨Nat.le_of_ble_eq_true rfl, Nat.le_of_ble_eq_true rfl⟩) (preV (q0 := 10) (ci := 15) hK hE hP hD hS hA [10] rfl (by decide) rfl rfl) rfl rfl hl.1 rfl (lv_room (Nat.le_of_ble_eq_true rfl)) dL_law_1168 ⟨Nat.le_of_ble_eq_true rfl, Nat.le_of_ble_eq_true rfl⟩) (fun r_6 u9 hw_5 H locs hP hD hS => ?_)
  subst hw_5
  have hP : va_P (gD G) vwCl [(sv, .inr (10, [.ref b, .ref sr, .ref se, .int (nI 0), .int (nI 0), .int (nI 110)])), (b, .inr (5, [.ref mm])), (mm, .inl (gyI G, 16, .inl f)), (sr, .inl (gyI G, 64, .inl g)), (se, .inl (gyI G, 16, .inl hh)), (pf, .inl (gyI G, 16, .inl pff)), (od, .inl (gyD G, 1, .inr (.inr (.inr (.inl (fun _ => 0)))))), (ho, .inr (11, [.ref al, .ref sv, .ref ts, .ref pb, .null, .int (nI 0)])), (al, .inr (4, [.int (nI 0), .ref (gE G), .int (nI 0)])), (ou, .inl (gyL G, 1, .inr (.inl (fun _ => 0)))), (al2, .inr (4, [.int (nI 0), .ref (gE G), .int (nI 0)])), (mo, .inr (15, [.int (nI 1), .ref al2, .long (lN 0), .null, .ref pf, .int (nI 0)]))] H := hP
  have hD : va_D A [(sv, .inr (10, [.ref b, .ref sr, .ref se, .int (nI 0), .int (nI 0), .int (nI 110)])), (b, .inr (5, [.ref mm])), (mm, .inl (gyI G, 16, .inl f)), (sr, .inl (gyI G, 64, .inl g)), (se, .inl (gyI G, 16, .inl hh)), (pf, .inl (gyI G, 16, .inl pff)), (od, .inl (gyD G, 1, .inr (.inr (.inr (.inl (fun _ => 0)))))), (ho, .inr (11, [.ref al, .ref sv, .ref ts, .ref pb, .null, .int (nI 0)])), (al, .inr (4, [.int (nI 0), .ref (gE G), .int (nI 0)])), (ou, .inl (gyL G, 1, .inr (.inl (fun _ => 0)))), (al2, .inr (4, [.int (nI 0), .ref (gE G), .int (nI 0)])), (mo, .inr (15, [.int (nI 1), .ref al2, .long (lN 0), .null, .ref pf, .int (nI 0)]))] := hD
  refine lv_iload hx hb dL_law_1171 (lv_at hl 1 rfl) ?_
  refine lv_icmp_eq (tgt := 1178) hx hb dL_law_1173 (by decide) (fun c_7 => ?_) (fun c_7 => ?_)
  · skip
    have c_7 : 1 = 1 := (nI_eq (a := 1) (b := 1) (by omega) (by omega)).mp c_7
    refine lv_iload hx hb dL_law_1178 (lv_at hl 1 rfl) ?_
    refine lv_if_ne (tgt := 1195) hx hb dL_law_1180 (by decide) (fun c_8 => ?_) (fun c_8 => ?_)
    · skip
      have c_8 : ¬ 1 = 0 := fun z => c_8 ((nI_eq (a := 1) (b := 0) (by omega) (by omega)).mpr z)
      refine lv_goto (tgt := 1736) hx hb dL_law_1195 (by decide) ?_
      refine lv_iinc (v := nI 4) (lv' := [(5, .int (nI 4)), (7, .int r_4), (6, .int (nI 1)), (0, .ref scr), (1, .ref ho), (2, .ref mo), (3, .ref ou), (4, .ref od)]) hx hb dL_law_1736 hl (k := 7) rfl (nI_add 0 4) (by decide) rfl (fun ls hl => ?_)
      refine lv_goto (tgt := 28) hx hb dL_law_1739 (by decide) ?_
      refine lv_iload hx hb dL_law_28 (lv_at hl 0 rfl) ?_
      refine lv_aload_n hx hb dL_law_30 rfl (lv_at hl 3 rfl) ?_
      refine va_slen hx hb hX hbl hbA hS dL_law_31 ?_
      refine lv_toe (show Int32.ofNat 4 = nI 4 from rfl) ?_
      refine lv_iconst (v := nI 4) hx hb dL_law_32 (by decide) ?_
      refine lv_isub hx hb dL_law_33 ?_
      refine lv_toe (pk_sub (a := 4) (b := 4) (by omega)) ?_
      refine lv_icmp_gt (tgt := 1742) hx hb dL_law_34 (by decide) (fun c_9 => ?_) (fun c_9 => ?_)
      · skip
        have c_9 : 0 < 4 := (nI_ltI (a := 0) (b := 4) (by omega) (by omega)).mp c_9
        refine lv_iconst (v := nI 1) hx hb dL_law_1742 (by decide) ?_
        refine va_forget (fun q hq => hA2 _ (hS.2.2 q hq)) ?_
        refine W.widen (k := 607190) (n := 7280494) (Nat.le_of_ble_eq_true rfl) (Nat.le_of_ble_eq_true rfl) ?_
        exact lw_ret (d0 := s.drawn) (Drawn.sameBut.refl s.drawn lw_cs) hx hb hr hlocks dL_law_1743
      · skip
        have c_9 : ¬ 0 < 4 := fun z => c_9 ((nI_ltI (a := 0) (b := 4) (by omega) (by omega)).mpr z)
        exact absurd c_9 (by decide)
    · skip
      have c_8 : 1 = 0 := (nI_eq (a := 1) (b := 0) (by omega) (by omega)).mp c_8
      exact absurd c_8 (by decide)
  · skip
    have c_7 : ¬ 1 = 1 := fun z => c_7 ((nI_eq (a := 1) (b := 1) (by omega) (by omega)).mpr z)
    exact absurd c_7 (by decide)
set_option maxHeartbeats 4000000 in
set_option maxRecDepth 100000 in
theorem law_tell_2a {p : Program} {e : Env} {s : State} {m : MethodId} {below : List Frame} {meth : Method} {c : Code} (l : Launch) (hst : l.stackTraces = false) {scr : Nat} {xs : Nat → Int32} (C0 : lw_At p s m meth c scr 4 xs) (G : GG) (A : Nat → Prop) (hA : ∀ q : Nat, s.heap.size ≤ q → A q) (hA2 : ∀ q : Nat, A q → s.heap.size ≤ q) (hK : va_K (gD G) vwCl (gT G) s) (hE : EV G A s s.heap) (ho al ts pb sv b mm sr se mo al2 pf ou od : Nat) (f g hh pff : Nat → Int32) (k : Nat) (hk : k < 16) (hv2 : xs 2 = nI k) (hbad : xs 1 < nI 0 ∨ nI 4 < xs 1) (H : Heap) (locs : List Loc) (hP : va_P (gD G) vwCl [(ho, .inr (11, [.ref al, .ref sv, .ref ts, .ref pb, .null, .int (nI 0)])), (al, .inr (4, [.int (nI 0), .ref (gE G), .int (nI 0)])), (sv, .inr (10, [.ref b, .ref sr, .ref se, .int (nI 0), .int (nI 0), .int (nI 110)])), (b, .inr (5, [.ref mm])), (mm, .inl (gyI G, 16, .inl f)), (sr, .inl (gyI G, 64, .inl g)), (se, .inl (gyI G, 16, .inl hh)), (mo, .inr (15, [.int (nI 0), .ref al2, .long (lN 0), .null, .ref pf, .int (nI 0)])), (al2, .inr (4, [.int (nI 0), .ref (gE G), .int (nI 0)])), (pf, .inl (gyI G, 16, .inl pff)), (ou, .inl (gyL G, 1, .inr (.inl (fun _ => 0)))), (od, .inl (gyD G, 1, .inr (.inr (.inr (.inl (fun _ => 0))))))] H) (hD : va_D A [(ho, .inr (11, [.ref al, .ref sv, .ref ts, .ref pb, .null, .int (nI 0)])), (al, .inr (4, [.int (nI 0), .ref (gE G), .int (nI 0)])), (sv, .inr (10, [.ref b, .ref sr, .ref se, .int (nI 0), .int (nI 0), .int (nI 110)])), (b, .inr (5, [.ref mm])), (mm, .inl (gyI G, 16, .inl f)), (sr, .inl (gyI G, 64, .inl g)), (se, .inl (gyI G, 16, .inl hh)), (mo, .inr (15, [.int (nI 0), .ref al2, .long (lN 0), .null, .ref pf, .int (nI 0)])), (al2, .inr (4, [.int (nI 0), .ref (gE G), .int (nI 0)])), (pf, .inl (gyI G, 16, .inl pff)), (ou, .inl (gyL G, 1, .inr (.inl (fun _ => 0)))), (od, .inl (gyD G, 1, .inr (.inr (.inr (.inl (fun _ => 0))))))]) (hS : va_S A s.heap H locs) (ls : Array Slot) (hl : lv_has ls 9 [(0, .ref scr), (1, .ref ho), (2, .ref mo), (3, .ref ou), (4, .ref od), (5, .int (nI 0))]) : W p l e room_1 s m #[Value.ref scr] below meth c H locs 17 191 (lw_Z below #[Value.ref scr] s) (F0 m 1118 ls []) := by
  obtain ⟨hx, hb, hr, hml, hown, hts0, hX, hbl, hlocks, hgv⟩ := C0
  have hown : s.vm.findClass "PegboardryLaw" = some m.cls := hown
  have hts : ∀ w ∈ WW, w.before #[Value.ref scr] s = true := fun w hw => hts0 w (List.mem_filter.mp hw).1
  have hbA : ¬ A scr := fun z => Nat.not_le.mpr hbl (hA2 _ z)
  refine lv_aload_n hx hb dL_law_1118 rfl (lv_at hl 1 rfl) ?_
  refine lv_aload_n hx hb dL_law_1119 rfl (lv_at hl 0 rfl) ?_
  refine lv_iload hx hb dL_law_1120 (lv_at hl 5 rfl) ?_
  refine lv_iconst (v := nI 1) hx hb dL_law_1122 (by decide) ?_
  refine lv_iadd hx hb dL_law_1123 ?_
  refine lv_toe (nI_add 0 1) ?_
  refine va_sld hx hb hX hbl hbA hS (vp_in_nI (n := 1) (N := 4) (by omega) (by omega)) dL_law_1124 ?_
  refine lv_toe (show xs (nI (1)).toNatClampNeg = xs 1 by rw [nI_clamp (by omega)]) ?_
  refine lv_aload_n hx hb dL_law_1125 rfl (lv_at hl 0 rfl) ?_
  refine lv_iload hx hb dL_law_1126 (lv_at hl 5 rfl) ?_
  refine lv_iconst (v := nI 2) hx hb dL_law_1128 (by decide) ?_
  refine lv_iadd hx hb dL_law_1129 ?_
  refine lv_toe (nI_add 0 2) ?_
  refine va_sld hx hb hX hbl hbA hS (vp_in_nI (n := 2) (N := 4) (by omega) (by omega)) dL_law_1130 ?_
  refine lv_toe (show xs (nI (2)).toNatClampNeg = nI k by rw [nI_clamp (by omega)]; exact hv2) ?_
  refine lv_aload_n hx hb dL_law_1131 rfl (lv_at hl 0 rfl) ?_
  refine lv_iload hx hb dL_law_1132 (lv_at hl 5 rfl) ?_
  refine lv_iconst (v := nI 3) hx hb dL_law_1134 (by decide) ?_
  refine lv_iadd hx hb dL_law_1135 ?_
  refine lv_toe (nI_add 0 3) ?_
  refine va_sld hx hb hX hbl hbA hS (vp_in_nI (n := 3) (N := 4) (by omega) (by omega)) dL_law_1136 ?_
  refine lv_toe (show xs (nI (3)).toNatClampNeg = xs 3 by rw [nI_clamp (by omega)]) ?_
  refine lv_aload_n hx hb dL_law_1137 rfl (lv_at hl 3 rfl) ?_
  refine fin_i hP hD hS hA [0, 1, 10] [2, 3, 4, 5, 6, 7, 8, 9, 11] (wr := [(sv, .inr (10, [.ref b, .ref sr, .ref se, .int (nI 0), .int (nI 0), .int (nI 110)])), (b, .inr (5, [.ref mm])), (mm, .inl (gyI G, 16, .inl f)), (sr, .inl (gyI G, 64, .inl g)), (se, .inl (gyI G, 16, .inl hh)), (mo, .inr (15, [.int (nI 0), .ref al2, .long (lN 0), .null, .ref pf, .int (nI 0)])), (al2, .inr (4, [.int (nI 0), .ref (gE G), .int (nI 0)])), (pf, .inl (gyI G, 16, .inl pff)), (od, .inl (gyD G, 1, .inr (.inr (.inr (.inl (fun _ => 0))))))]) rfl rfl (by decide) (by decide) (vx_runSW (As := [.ref ho, .int (xs 1), .int (nI k), .int (xs 3), .ref ou]) (rest := []) ⟨hx, hb, hml, hown, hts⟩ (l_tell_2a l G ho al ts pb (nI 0) sv (nI 0) (xs 1) k (xs 3) ou (fun _ => 0) (by omega) (by omega) hst H.size) (vx_cwSW 5 hts (gSt q813 q814 q44 q815) rfl rfl rfl (by decide +kernel) ⟨Nat.le_of_ble_eq_true rfl, Nat.le_of_ble_eq_true rfl⟩) (preS hK hE hP hD hS hA [0, 1, 10] rfl (by decide)) rfl rfl hl.1 rfl (lv_room (Nat.le_of_ble_eq_true rfl)) dL_law_1138 ⟨Nat.le_of_ble_eq_true rfl, Nat.le_of_ble_eq_true rfl⟩) (fun r_2 u9 hw_1 H locs hP hD hS => ?_)
  subst hw_1
  have hP : va_P (gD G) vwCl [(sv, .inr (10, [.ref b, .ref sr, .ref se, .int (nI 0), .int (nI 0), .int (nI 110)])), (b, .inr (5, [.ref mm])), (mm, .inl (gyI G, 16, .inl f)), (sr, .inl (gyI G, 64, .inl g)), (se, .inl (gyI G, 16, .inl hh)), (mo, .inr (15, [.int (nI 0), .ref al2, .long (lN 0), .null, .ref pf, .int (nI 0)])), (al2, .inr (4, [.int (nI 0), .ref (gE G), .int (nI 0)])), (pf, .inl (gyI G, 16, .inl pff)), (od, .inl (gyD G, 1, .inr (.inr (.inr (.inl (fun _ => 0)))))), (ho, .inr (11, [.ref al, .ref sv, .ref ts, .ref pb, .null, .int (nI 0)])), (al, .inr (4, [.int (nI 0), .ref (gE G), .int (nI 0)])), (ou, .inl (gyL G, 1, .inr (.inl (fun _ => 0))))] H := hP
  have hD : va_D A [(sv, .inr (10, [.ref b, .ref sr, .ref se, .int (nI 0), .int (nI 0), .int (nI 110)])), (b, .inr (5, [.ref mm])), (mm, .inl (gyI G, 16, .inl f)), (sr, .inl (gyI G, 64, .inl g)), (se, .inl (gyI G, 16, .inl hh)), (mo, .inr (15, [.int (nI 0), .ref al2, .long (lN 0), .null, .ref pf, .int (nI 0)])), (al2, .inr (4, [.int (nI 0), .ref (gE G), .int (nI 0)])), (pf, .inl (gyI G, 16, .inl pff)), (od, .inl (gyD G, 1, .inr (.inr (.inr (.inl (fun _ => 0)))))), (ho, .inr (11, [.ref al, .ref sv, .ref ts, .ref pb, .null, .int (nI 0)])), (al, .inr (4, [.int (nI 0), .ref (gE G), .int (nI 0)])), (ou, .inl (gyL G, 1, .inr (.inl (fun _ => 0))))] := hD
  refine lv_istore (lv' := [(6, .int (nI 2)), (0, .ref scr), (1, .ref ho), (2, .ref mo), (3, .ref ou), (4, .ref od), (5, .int (nI 0))]) hx hb dL_law_1141 hl (by decide) rfl (fun ls hl => ?_)
  refine lv_aload_n hx hb dL_law_1143 rfl (lv_at hl 3 rfl) ?_
  refine lv_aload_n hx hb dL_law_1144 rfl (lv_at hl 1 rfl) ?_
  refine lv_iload hx hb dL_law_1145 (lv_at hl 6 rfl) ?_
  refine lv_iconst (v := nI 1) hx hb dL_law_1147 (by decide) ?_
  refine lv_iadd hx hb dL_law_1148 ?_
  refine lv_toe (nI_add 0 1) ?_
  refine va_sld hx hb hX hbl hbA hS (vp_in_nI (n := 1) (N := 4) (by omega) (by omega)) dL_law_1149 ?_
  refine lv_toe (show xs (nI (1)).toNatClampNeg = xs 1 by rw [nI_clamp (by omega)]) ?_
  refine lv_aload_n hx hb dL_law_1150 rfl (lv_at hl 1 rfl) ?_
  refine lv_iload hx hb dL_law_1151 (lv_at hl 6 rfl) ?_
  refine lv_iconst (v := nI 2) hx hb dL_law_1153 (by decide) ?_
  refine lv_iadd hx hb dL_law_1154 ?_
  refine lv_toe (nI_add 0 2) ?_
  refine va_sld hx hb hX hbl hbA hS (vp_in_nI (n := 2) (N := 4) (by omega) (by omega)) dL_law_1155 ?_
  refine lv_toe (show xs (nI (2)).toNatClampNeg = nI k by rw [nI_clamp (by omega)]; exact hv2) ?_
  refine lv_aload_n hx hb dL_law_1156 rfl (lv_at hl 1 rfl) ?_
  refine lv_iload hx hb dL_law_1157 (lv_at hl 6 rfl) ?_
  refine lv_iconst (v := nI 3) hx hb dL_law_1159 (by decide) ?_
  refine lv_iadd hx hb dL_law_1160 ?_
  refine lv_toe (nI_add 0 3) ?_
  refine va_sld hx hb hX hbl hbA hS (vp_in_nI (n := 3) (N := 4) (by omega) (by omega)) dL_law_1161 ?_
  refine lv_toe (show xs (nI (3)).toNatClampNeg = xs 3 by rw [nI_clamp (by omega)]) ?_
  refine fin_i hP hD hS hA [5, 6] [0, 1, 2, 3, 4, 7, 8, 9, 10, 11] (wr := [(sv, .inr (10, [.ref b, .ref sr, .ref se, .int (nI 0), .int (nI 0), .int (nI 110)])), (b, .inr (5, [.ref mm])), (mm, .inl (gyI G, 16, .inl f)), (sr, .inl (gyI G, 64, .inl g)), (se, .inl (gyI G, 16, .inl hh)), (pf, .inl (gyI G, 16, .inl pff)), (od, .inl (gyD G, 1, .inr (.inr (.inr (.inl (fun _ => 0)))))), (ho, .inr (11, [.ref al, .ref sv, .ref ts, .ref pb, .null, .int (nI 0)])), (al, .inr (4, [.int (nI 0), .ref (gE G), .int (nI 0)])), (ou, .inl (gyL G, 1, .inr (.inl (fun _ => 0))))]) rfl rfl (by decide) (by decide) (va_runV (As := [.int (xs 1), .int (nI k), .int (xs 3)]) (rest := []) ⟨hx, hb, hml, hown, hts⟩ (c_mtell_2a l G mo (nI 0) al2 0 pf (nI 0) (nI 0) (xs 1) k (xs 3) (by omega) (by omega) H.size) (cwV 3 hts (gV q1318 q1319 q1320 q52 q1321) rfl rfl rfl (by decide +kernel) ⟨Nat.le_of_ble_eq_true rfl, Nat.le_of_ble_eq_true rfl⟩) (preV (q0 := 5) (ci := 15) hK hE hP hD hS hA [5, 6] rfl (by decide) rfl rfl) rfl rfl hl.1 rfl (lv_room (Nat.le_of_ble_eq_true rfl)) dL_law_1162 ⟨Nat.le_of_ble_eq_true rfl, Nat.le_of_ble_eq_true rfl⟩) (fun r_4 u9 hw_3 H locs hP hD hS => ?_)
  have hP : va_P (gD G) vwCl [(sv, .inr (10, [.ref b, .ref sr, .ref se, .int (nI 0), .int (nI 0), .int (nI 110)])), (b, .inr (5, [.ref mm])), (mm, .inl (gyI G, 16, .inl f)), (sr, .inl (gyI G, 64, .inl g)), (se, .inl (gyI G, 16, .inl hh)), (pf, .inl (gyI G, 16, .inl pff)), (od, .inl (gyD G, 1, .inr (.inr (.inr (.inl (fun _ => 0)))))), (ho, .inr (11, [.ref al, .ref sv, .ref ts, .ref pb, .null, .int (nI 0)])), (al, .inr (4, [.int (nI 0), .ref (gE G), .int (nI 0)])), (ou, .inl (gyL G, 1, .inr (.inl (fun _ => 0)))), (mo, .inr (15, [.int (nI 2), .ref al2, .long (lN 0), .null, .ref pf, .int (nI 0)])), (al2, .inr (4, [.int (nI 0), .ref (gE G), .int (nI 0)]))] H := hP
  have hD : va_D A [(sv, .inr (10, [.ref b, .ref sr, .ref se, .int (nI 0), .int (nI 0), .int (nI 110)])), (b, .inr (5, [.ref mm])), (mm, .inl (gyI G, 16, .inl f)), (sr, .inl (gyI G, 64, .inl g)), (se, .inl (gyI G, 16, .inl hh)), (pf, .inl (gyI G, 16, .inl pff)), (od, .inl (gyD G, 1, .inr (.inr (.inr (.inl (fun _ => 0)))))), (ho, .inr (11, [.ref al, .ref sv, .ref ts, .ref pb, .null, .int (nI 0)])), (al, .inr (4, [.int (nI 0), .ref (gE G), .int (nI 0)])), (ou, .inl (gyL G, 1, .inr (.inl (fun _ => 0)))), (mo, .inr (15, [.int (nI 2), .ref al2, .long (lN 0), .null, .ref pf, .int (nI 0)])), (al2, .inr (4, [.int (nI 0), .ref (gE G), .int (nI 0)]))] := hD
  refine lv_istore (lv' := [(7, .int r_4), (6, .int (nI 2)), (0, .ref scr), (1, .ref ho), (2, .ref mo), (3, .ref ou), (4, .ref od), (5, .int (nI 0))]) hx hb dL_law_1165 hl (by decide) rfl (fun ls hl => ?_)
  refine lv_aload_n hx hb dL_law_1167 rfl (lv_at hl 4 rfl) ?_
  refine fin_i hP hD hS hA [10] [0, 1, 2, 3, 4, 5, 6, 7, 8, 9, 11] (wr := [(sv, .inr (10, [.ref b, .ref sr, .ref se, .int (nI 0), .int (nI 0), .int (nI 110)])), (b, .inr (5, [.ref mm])), (mm, .inl (gyI G, 16, .inl f)), (sr, .inl (gyI G, 64, .inl g)), (se, .inl (gyI G, 16, .inl hh)), (pf, .inl (gyI G, 16, .inl pff)), (od, .inl (gyD G, 1, .inr (.inr (.inr (.inl (fun _ => 0)))))), (ho, .inr (11, [.ref al, .ref sv, .ref ts, .ref pb, .null, .int (nI 0)])), (al, .inr (4, [.int (nI 0), .ref (gE G), .int (nI 0)])), (ou, .inl (gyL G, 1, .inr (.inl (fun _ => 0)))), (al2, .inr (4, [.int (nI 0), .ref (gE G), .int (nI 0)]))]) rfl rfl (by decide) (by decide) (va_runV (As := []) (rest := []) ⟨hx, hb, hml, hown, hts⟩ (c_X10_thrown l G mo 2 al2 0 pf (nI 0) H.size) (cwV 0 hts (gV q946 q947 q948 q52 q949) rfl rfl rfl (by decide +kernel) ⟨Nat.le_of_ble_eq_true rfl, Nat.le_of_ble_eq_true rfl⟩) (preV (q0 := 10) (ci := 15) hK hE hP hD hS hA [10] rfl (by decide) rfl rfl) rfl rfl hl.1 rfl (lv_room (Nat.le_of_ble_eq_true rfl)) dL_law_1168 ⟨Nat.le_of_ble_eq_true rfl, Nat.le_of_ble_eq_true rfl⟩) (fun r_6 u9 hw_5 H locs hP hD hS => ?_)
  subst hw_5
  have hP : va_P (gD G) vwCl [(sv, .inr (10, [.ref b, .ref sr, .ref se, .int (nI 0), .int (nI 0), .int (nI 110)])), (b, .inr (5, [.ref mm])), (mm, .inl (gyI G, 16, .inl f)), (sr, .inl (gyI G, 64, .inl g)), (se, .inl (gyI G, 16, .inl hh)), (pf, .inl (gyI G, 16, .inl pff)), (od, .inl (gyD G, 1, .inr (.inr (.inr (.inl (fun _ => 0)))))), (ho, .inr (11, [.ref al, .ref sv, .ref ts, .ref pb, .null, .int (nI 0)])), (al, .inr (4, [.int (nI 0), .ref (gE G), .int (nI 0)])), (ou, .inl (gyL G, 1, .inr (.inl (fun _ => 0)))), (al2, .inr (4, [.int (nI 0), .ref (gE G), .int (nI 0)])), (mo, .inr (15, [.int (nI 2), .ref al2, .long (lN 0), .null, .ref pf, .int (nI 0)]))] H := hP
  have hD : va_D A [(sv, .inr (10, [.ref b, .ref sr, .ref se, .int (nI 0), .int (nI 0), .int (nI 110)])), (b, .inr (5, [.ref mm])), (mm, .inl (gyI G, 16, .inl f)), (sr, .inl (gyI G, 64, .inl g)), (se, .inl (gyI G, 16, .inl hh)), (pf, .inl (gyI G, 16, .inl pff)), (od, .inl (gyD G, 1, .inr (.inr (.inr (.inl (fun _ => 0)))))), (ho, .inr (11, [.ref al, .ref sv, .ref ts, .ref pb, .null, .int (nI 0)])), (al, .inr (4, [.int (nI 0), .ref (gE G), .int (nI 0)])), (ou, .inl (gyL G, 1, .inr (.inl (fun _ => 0)))), (al2, .inr (4, [.int (nI 0), .ref (gE G), .int (nI 0)])), (mo, .inr (15, [.int (nI 2), .ref al2, .long (lN 0), .null, .ref pf, .int (nI 0)]))] := hD
  refine lv_iload hx hb dL_law_1171 (lv_at hl 1 rfl) ?_
  refine lv_icmp_eq (tgt := 1178) hx hb dL_law_1173 (by decide) (fun c_7 => ?_) (fun c_7 => ?_)
  · skip
    have c_7 : 2 = 2 := (nI_eq (a := 2) (b := 2) (by omega) (by omega)).mp c_7
    refine lv_iload hx hb dL_law_1178 (lv_at hl 1 rfl) ?_
    refine lv_if_ne (tgt := 1195) hx hb dL_law_1180 (by decide) (fun c_8 => ?_) (fun c_8 => ?_)
    · skip
      have c_8 : ¬ 2 = 0 := fun z => c_8 ((nI_eq (a := 2) (b := 0) (by omega) (by omega)).mpr z)
      refine lv_goto (tgt := 1736) hx hb dL_law_1195 (by decide) ?_
      refine lv_iinc (v := nI 4) (lv' := [(5, .int (nI 4)), (7, .int r_4), (6, .int (nI 2)), (0, .ref scr), (1, .ref ho), (2, .ref mo), (3, .ref ou), (4, .ref od)]) hx hb dL_law_1736 hl (k := 7) rfl (nI_add 0 4) (by decide) rfl (fun ls hl => ?_)
      refine lv_goto (tgt := 28) hx hb dL_law_1739 (by decide) ?_
      refine lv_iload hx hb dL_law_28 (lv_at hl 0 rfl) ?_
      refine lv_aload_n hx hb dL_law_30 rfl (lv_at hl 3 rfl) ?_
      refine va_slen hx hb hX hbl hbA hS dL_law_31 ?_
      refine lv_toe (show Int32.ofNat 4 = nI 4 from rfl) ?_
      refine lv_iconst (v := nI 4) hx hb dL_law_32 (by decide) ?_
      refine lv_isub hx hb dL_law_33 ?_
      refine lv_toe (pk_sub (a := 4) (b := 4) (by omega)) ?_
      refine lv_icmp_gt (tgt := 1742) hx hb dL_law_34 (by decide) (fun c_9 => ?_) (fun c_9 => ?_)
      · skip
        have c_9 : 0 < 4 := (nI_ltI (a := 0) (b := 4) (by omega) (by omega)).mp c_9
        refine lv_iconst (v := nI 1) hx hb dL_law_1742 (by decide) ?_
        refine va_forget (fun q hq => hA2 _ (hS.2.2 q hq)) ?_
        refine W.widen (k := 607190) (n := 7280494) (Nat.le_of_ble_eq_true rfl) (Nat.le_of_ble_eq_true rfl) ?_
        exact lw_ret (d0 := s.drawn) (Drawn.sameBut.refl s.drawn lw_cs) hx hb hr hlocks dL_law_1743
      · skip
        have c_9 : ¬ 0 < 4 := fun z => c_9 ((nI_ltI (a := 0) (b := 4) (by omega) (by omega)).mpr z)
        exact absurd c_9 (by decide)
    · skip
      have c_8 : 2 = 0 := (nI_eq (a := 2) (b := 0) (by omega) (by omega)).mp c_8
      exact absurd c_8 (by decide)
  · skip
    have c_7 : ¬ 2 = 2 := fun z => c_7 ((nI_eq (a := 2) (b := 2) (by omega) (by omega)).mpr z)
    exact absurd c_7 (by decide)
set_option maxHeartbeats 4000000 in
set_option maxRecDepth 100000 in
theorem law_tell_2b {p : Program} {e : Env} {s : State} {m : MethodId} {below : List Frame} {meth : Method} {c : Code} (l : Launch) (hst : l.stackTraces = false) {scr : Nat} {xs : Nat → Int32} (C0 : lw_At p s m meth c scr 4 xs) (G : GG) (A : Nat → Prop) (hA : ∀ q : Nat, s.heap.size ≤ q → A q) (hA2 : ∀ q : Nat, A q → s.heap.size ≤ q) (hK : va_K (gD G) vwCl (gT G) s) (hE : EV G A s s.heap) (ho al ts pb sv b mm sr se mo al2 pf ou od : Nat) (f g hh pff : Nat → Int32) (rl : Nat) (k : Nat) (hrl : rl < 5) (hk : k < 16) (hv1 : xs 1 = nI rl) (hv2 : xs 2 = nI k) (hbad : xs 3 < nI 1 ∨ nI 4 < xs 3) (H : Heap) (locs : List Loc) (hP : va_P (gD G) vwCl [(ho, .inr (11, [.ref al, .ref sv, .ref ts, .ref pb, .null, .int (nI 0)])), (al, .inr (4, [.int (nI 0), .ref (gE G), .int (nI 0)])), (sv, .inr (10, [.ref b, .ref sr, .ref se, .int (nI 0), .int (nI 0), .int (nI 110)])), (b, .inr (5, [.ref mm])), (mm, .inl (gyI G, 16, .inl f)), (sr, .inl (gyI G, 64, .inl g)), (se, .inl (gyI G, 16, .inl hh)), (mo, .inr (15, [.int (nI 0), .ref al2, .long (lN 0), .null, .ref pf, .int (nI 0)])), (al2, .inr (4, [.int (nI 0), .ref (gE G), .int (nI 0)])), (pf, .inl (gyI G, 16, .inl pff)), (ou, .inl (gyL G, 1, .inr (.inl (fun _ => 0)))), (od, .inl (gyD G, 1, .inr (.inr (.inr (.inl (fun _ => 0))))))] H) (hD : va_D A [(ho, .inr (11, [.ref al, .ref sv, .ref ts, .ref pb, .null, .int (nI 0)])), (al, .inr (4, [.int (nI 0), .ref (gE G), .int (nI 0)])), (sv, .inr (10, [.ref b, .ref sr, .ref se, .int (nI 0), .int (nI 0), .int (nI 110)])), (b, .inr (5, [.ref mm])), (mm, .inl (gyI G, 16, .inl f)), (sr, .inl (gyI G, 64, .inl g)), (se, .inl (gyI G, 16, .inl hh)), (mo, .inr (15, [.int (nI 0), .ref al2, .long (lN 0), .null, .ref pf, .int (nI 0)])), (al2, .inr (4, [.int (nI 0), .ref (gE G), .int (nI 0)])), (pf, .inl (gyI G, 16, .inl pff)), (ou, .inl (gyL G, 1, .inr (.inl (fun _ => 0)))), (od, .inl (gyD G, 1, .inr (.inr (.inr (.inl (fun _ => 0))))))]) (hS : va_S A s.heap H locs) (ls : Array Slot) (hl : lv_has ls 9 [(0, .ref scr), (1, .ref ho), (2, .ref mo), (3, .ref ou), (4, .ref od), (5, .int (nI 0))]) : W p l e room_1 s m #[Value.ref scr] below meth c H locs 17 191 (lw_Z below #[Value.ref scr] s) (F0 m 1118 ls []) := by
  obtain ⟨hx, hb, hr, hml, hown, hts0, hX, hbl, hlocks, hgv⟩ := C0
  have hown : s.vm.findClass "PegboardryLaw" = some m.cls := hown
  have hts : ∀ w ∈ WW, w.before #[Value.ref scr] s = true := fun w hw => hts0 w (List.mem_filter.mp hw).1
  have hbA : ¬ A scr := fun z => Nat.not_le.mpr hbl (hA2 _ z)
  refine lv_aload_n hx hb dL_law_1118 rfl (lv_at hl 1 rfl) ?_
  refine lv_aload_n hx hb dL_law_1119 rfl (lv_at hl 0 rfl) ?_
  refine lv_iload hx hb dL_law_1120 (lv_at hl 5 rfl) ?_
  refine lv_iconst (v := nI 1) hx hb dL_law_1122 (by decide) ?_
  refine lv_iadd hx hb dL_law_1123 ?_
  refine lv_toe (nI_add 0 1) ?_
  refine va_sld hx hb hX hbl hbA hS (vp_in_nI (n := 1) (N := 4) (by omega) (by omega)) dL_law_1124 ?_
  refine lv_toe (show xs (nI (1)).toNatClampNeg = nI rl by rw [nI_clamp (by omega)]; exact hv1) ?_
  refine lv_aload_n hx hb dL_law_1125 rfl (lv_at hl 0 rfl) ?_
  refine lv_iload hx hb dL_law_1126 (lv_at hl 5 rfl) ?_
  refine lv_iconst (v := nI 2) hx hb dL_law_1128 (by decide) ?_
  refine lv_iadd hx hb dL_law_1129 ?_
  refine lv_toe (nI_add 0 2) ?_
  refine va_sld hx hb hX hbl hbA hS (vp_in_nI (n := 2) (N := 4) (by omega) (by omega)) dL_law_1130 ?_
  refine lv_toe (show xs (nI (2)).toNatClampNeg = nI k by rw [nI_clamp (by omega)]; exact hv2) ?_
  refine lv_aload_n hx hb dL_law_1131 rfl (lv_at hl 0 rfl) ?_
  refine lv_iload hx hb dL_law_1132 (lv_at hl 5 rfl) ?_
  refine lv_iconst (v := nI 3) hx hb dL_law_1134 (by decide) ?_
  refine lv_iadd hx hb dL_law_1135 ?_
  refine lv_toe (nI_add 0 3) ?_
  refine va_sld hx hb hX hbl hbA hS (vp_in_nI (n := 3) (N := 4) (by omega) (by omega)) dL_law_1136 ?_
  refine lv_toe (show xs (nI (3)).toNatClampNeg = xs 3 by rw [nI_clamp (by omega)]) ?_
  refine lv_aload_n hx hb dL_law_1137 rfl (lv_at hl 3 rfl) ?_
  refine fin_i hP hD hS hA [0, 1, 10] [2, 3, 4, 5, 6, 7, 8, 9, 11] (wr := [(sv, .inr (10, [.ref b, .ref sr, .ref se, .int (nI 0), .int (nI 0), .int (nI 110)])), (b, .inr (5, [.ref mm])), (mm, .inl (gyI G, 16, .inl f)), (sr, .inl (gyI G, 64, .inl g)), (se, .inl (gyI G, 16, .inl hh)), (mo, .inr (15, [.int (nI 0), .ref al2, .long (lN 0), .null, .ref pf, .int (nI 0)])), (al2, .inr (4, [.int (nI 0), .ref (gE G), .int (nI 0)])), (pf, .inl (gyI G, 16, .inl pff)), (od, .inl (gyD G, 1, .inr (.inr (.inr (.inl (fun _ => 0))))))]) rfl rfl (by decide) (by decide) (vx_runSW (As := [.ref ho, .int (nI rl), .int (nI k), .int (xs 3), .ref ou]) (rest := []) ⟨hx, hb, hml, hown, hts⟩ (l_tell_2b l G ho al ts pb (nI 0) sv (nI 0) rl k (xs 3) ou (fun _ => 0) (by omega) (by omega) (by omega) hst H.size) (vx_cwSW 5 hts (gSt q813 q814 q44 q815) rfl rfl rfl (by decide +kernel) ⟨Nat.le_of_ble_eq_true rfl, Nat.le_of_ble_eq_true rfl⟩) (preS hK hE hP hD hS hA [0, 1, 10] rfl (by decide)) rfl rfl hl.1 rfl (lv_room (Nat.le_of_ble_eq_true rfl)) dL_law_1138 ⟨Nat.le_of_ble_eq_true rfl, Nat.le_of_ble_eq_true rfl⟩) (fun r_2 u9 hw_1 H locs hP hD hS => ?_)
  subst hw_1
  have hP : va_P (gD G) vwCl [(sv, .inr (10, [.ref b, .ref sr, .ref se, .int (nI 0), .int (nI 0), .int (nI 110)])), (b, .inr (5, [.ref mm])), (mm, .inl (gyI G, 16, .inl f)), (sr, .inl (gyI G, 64, .inl g)), (se, .inl (gyI G, 16, .inl hh)), (mo, .inr (15, [.int (nI 0), .ref al2, .long (lN 0), .null, .ref pf, .int (nI 0)])), (al2, .inr (4, [.int (nI 0), .ref (gE G), .int (nI 0)])), (pf, .inl (gyI G, 16, .inl pff)), (od, .inl (gyD G, 1, .inr (.inr (.inr (.inl (fun _ => 0)))))), (ho, .inr (11, [.ref al, .ref sv, .ref ts, .ref pb, .null, .int (nI 0)])), (al, .inr (4, [.int (nI 0), .ref (gE G), .int (nI 0)])), (ou, .inl (gyL G, 1, .inr (.inl (fun _ => 0))))] H := hP
  have hD : va_D A [(sv, .inr (10, [.ref b, .ref sr, .ref se, .int (nI 0), .int (nI 0), .int (nI 110)])), (b, .inr (5, [.ref mm])), (mm, .inl (gyI G, 16, .inl f)), (sr, .inl (gyI G, 64, .inl g)), (se, .inl (gyI G, 16, .inl hh)), (mo, .inr (15, [.int (nI 0), .ref al2, .long (lN 0), .null, .ref pf, .int (nI 0)])), (al2, .inr (4, [.int (nI 0), .ref (gE G), .int (nI 0)])), (pf, .inl (gyI G, 16, .inl pff)), (od, .inl (gyD G, 1, .inr (.inr (.inr (.inl (fun _ => 0)))))), (ho, .inr (11, [.ref al, .ref sv, .ref ts, .ref pb, .null, .int (nI 0)])), (al, .inr (4, [.int (nI 0), .ref (gE G), .int (nI 0)])), (ou, .inl (gyL G, 1, .inr (.inl (fun _ => 0))))] := hD
  refine lv_istore (lv' := [(6, .int (nI 2)), (0, .ref scr), (1, .ref ho), (2, .ref mo), (3, .ref ou), (4, .ref od), (5, .int (nI 0))]) hx hb dL_law_1141 hl (by decide) rfl (fun ls hl => ?_)
  refine lv_aload_n hx hb dL_law_1143 rfl (lv_at hl 3 rfl) ?_
  refine lv_aload_n hx hb dL_law_1144 rfl (lv_at hl 1 rfl) ?_
  refine lv_iload hx hb dL_law_1145 (lv_at hl 6 rfl) ?_
  refine lv_iconst (v := nI 1) hx hb dL_law_1147 (by decide) ?_
  refine lv_iadd hx hb dL_law_1148 ?_
  refine lv_toe (nI_add 0 1) ?_
  refine va_sld hx hb hX hbl hbA hS (vp_in_nI (n := 1) (N := 4) (by omega) (by omega)) dL_law_1149 ?_
  refine lv_toe (show xs (nI (1)).toNatClampNeg = nI rl by rw [nI_clamp (by omega)]; exact hv1) ?_
  refine lv_aload_n hx hb dL_law_1150 rfl (lv_at hl 1 rfl) ?_
  refine lv_iload hx hb dL_law_1151 (lv_at hl 6 rfl) ?_
  refine lv_iconst (v := nI 2) hx hb dL_law_1153 (by decide) ?_
  refine lv_iadd hx hb dL_law_1154 ?_
  refine lv_toe (nI_add 0 2) ?_
  refine va_sld hx hb hX hbl hbA hS (vp_in_nI (n := 2) (N := 4) (by omega) (by omega)) dL_law_1155 ?_
  refine lv_toe (show xs (nI (2)).toNatClampNeg = nI k by rw [nI_clamp (by omega)]; exact hv2) ?_
  refine lv_aload_n hx hb dL_law_1156 rfl (lv_at hl 1 rfl) ?_
  refine lv_iload hx hb dL_law_1157 (lv_at hl 6 rfl) ?_
  refine lv_iconst (v := nI 3) hx hb dL_law_1159 (by decide) ?_
  refine lv_iadd hx hb dL_law_1160 ?_
  refine lv_toe (nI_add 0 3) ?_
  refine va_sld hx hb hX hbl hbA hS (vp_in_nI (n := 3) (N := 4) (by omega) (by omega)) dL_law_1161 ?_
  refine lv_toe (show xs (nI (3)).toNatClampNeg = xs 3 by rw [nI_clamp (by omega)]) ?_
  refine fin_i hP hD hS hA [5, 6] [0, 1, 2, 3, 4, 7, 8, 9, 10, 11] (wr := [(sv, .inr (10, [.ref b, .ref sr, .ref se, .int (nI 0), .int (nI 0), .int (nI 110)])), (b, .inr (5, [.ref mm])), (mm, .inl (gyI G, 16, .inl f)), (sr, .inl (gyI G, 64, .inl g)), (se, .inl (gyI G, 16, .inl hh)), (pf, .inl (gyI G, 16, .inl pff)), (od, .inl (gyD G, 1, .inr (.inr (.inr (.inl (fun _ => 0)))))), (ho, .inr (11, [.ref al, .ref sv, .ref ts, .ref pb, .null, .int (nI 0)])), (al, .inr (4, [.int (nI 0), .ref (gE G), .int (nI 0)])), (ou, .inl (gyL G, 1, .inr (.inl (fun _ => 0))))]) rfl rfl (by decide) (by decide) (va_runV (As := [.int (nI rl), .int (nI k), .int (xs 3)]) (rest := []) ⟨hx, hb, hml, hown, hts⟩ (c_mtell_2b l G mo (nI 0) al2 0 pf (nI 0) (nI 0) rl k (xs 3) (by omega) (by omega) (by omega) H.size) (cwV 3 hts (gV q1318 q1319 q1320 q52 q1321) rfl rfl rfl (by decide +kernel) ⟨Nat.le_of_ble_eq_true rfl, Nat.le_of_ble_eq_true rfl⟩) (preV (q0 := 5) (ci := 15) hK hE hP hD hS hA [5, 6] rfl (by decide) rfl rfl) rfl rfl hl.1 rfl (lv_room (Nat.le_of_ble_eq_true rfl)) dL_law_1162 ⟨Nat.le_of_ble_eq_true rfl, Nat.le_of_ble_eq_true rfl⟩) (fun r_4 u9 hw_3 H locs hP hD hS => ?_)
  have hP : va_P (gD G) vwCl [(sv, .inr (10, [.ref b, .ref sr, .ref se, .int (nI 0), .int (nI 0), .int (nI 110)])), (b, .inr (5, [.ref mm])), (mm, .inl (gyI G, 16, .inl f)), (sr, .inl (gyI G, 64, .inl g)), (se, .inl (gyI G, 16, .inl hh)), (pf, .inl (gyI G, 16, .inl pff)), (od, .inl (gyD G, 1, .inr (.inr (.inr (.inl (fun _ => 0)))))), (ho, .inr (11, [.ref al, .ref sv, .ref ts, .ref pb, .null, .int (nI 0)])), (al, .inr (4, [.int (nI 0), .ref (gE G), .int (nI 0)])), (ou, .inl (gyL G, 1, .inr (.inl (fun _ => 0)))), (mo, .inr (15, [.int (nI 2), .ref al2, .long (lN 0), .null, .ref pf, .int (nI 0)])), (al2, .inr (4, [.int (nI 0), .ref (gE G), .int (nI 0)]))] H := hP
  have hD : va_D A [(sv, .inr (10, [.ref b, .ref sr, .ref se, .int (nI 0), .int (nI 0), .int (nI 110)])), (b, .inr (5, [.ref mm])), (mm, .inl (gyI G, 16, .inl f)), (sr, .inl (gyI G, 64, .inl g)), (se, .inl (gyI G, 16, .inl hh)), (pf, .inl (gyI G, 16, .inl pff)), (od, .inl (gyD G, 1, .inr (.inr (.inr (.inl (fun _ => 0)))))), (ho, .inr (11, [.ref al, .ref sv, .ref ts, .ref pb, .null, .int (nI 0)])), (al, .inr (4, [.int (nI 0), .ref (gE G), .int (nI 0)])), (ou, .inl (gyL G, 1, .inr (.inl (fun _ => 0)))), (mo, .inr (15, [.int (nI 2), .ref al2, .long (lN 0), .null, .ref pf, .int (nI 0)])), (al2, .inr (4, [.int (nI 0), .ref (gE G), .int (nI 0)]))] := hD
  refine lv_istore (lv' := [(7, .int r_4), (6, .int (nI 2)), (0, .ref scr), (1, .ref ho), (2, .ref mo), (3, .ref ou), (4, .ref od), (5, .int (nI 0))]) hx hb dL_law_1165 hl (by decide) rfl (fun ls hl => ?_)
  refine lv_aload_n hx hb dL_law_1167 rfl (lv_at hl 4 rfl) ?_
  refine fin_i hP hD hS hA [10] [0, 1, 2, 3, 4, 5, 6, 7, 8, 9, 11] (wr := [(sv, .inr (10, [.ref b, .ref sr, .ref se, .int (nI 0), .int (nI 0), .int (nI 110)])), (b, .inr (5, [.ref mm])), (mm, .inl (gyI G, 16, .inl f)), (sr, .inl (gyI G, 64, .inl g)), (se, .inl (gyI G, 16, .inl hh)), (pf, .inl (gyI G, 16, .inl pff)), (od, .inl (gyD G, 1, .inr (.inr (.inr (.inl (fun _ => 0)))))), (ho, .inr (11, [.ref al, .ref sv, .ref ts, .ref pb, .null, .int (nI 0)])), (al, .inr (4, [.int (nI 0), .ref (gE G), .int (nI 0)])), (ou, .inl (gyL G, 1, .inr (.inl (fun _ => 0)))), (al2, .inr (4, [.int (nI 0), .ref (gE G), .int (nI 0)]))]) rfl rfl (by decide) (by decide) (va_runV (As := []) (rest := []) ⟨hx, hb, hml, hown, hts⟩ (c_X10_thrown l G mo 2 al2 0 pf (nI 0) H.size) (cwV 0 hts (gV q946 q947 q948 q52 q949) rfl rfl rfl (by decide +kernel) ⟨Nat.le_of_ble_eq_true rfl, Nat.le_of_ble_eq_true rfl⟩) (preV (q0 := 10) (ci := 15) hK hE hP hD hS hA [10] rfl (by decide) rfl rfl) rfl rfl hl.1 rfl (lv_room (Nat.le_of_ble_eq_true rfl)) dL_law_1168 ⟨Nat.le_of_ble_eq_true rfl, Nat.le_of_ble_eq_true rfl⟩) (fun r_6 u9 hw_5 H locs hP hD hS => ?_)
  subst hw_5
  have hP : va_P (gD G) vwCl [(sv, .inr (10, [.ref b, .ref sr, .ref se, .int (nI 0), .int (nI 0), .int (nI 110)])), (b, .inr (5, [.ref mm])), (mm, .inl (gyI G, 16, .inl f)), (sr, .inl (gyI G, 64, .inl g)), (se, .inl (gyI G, 16, .inl hh)), (pf, .inl (gyI G, 16, .inl pff)), (od, .inl (gyD G, 1, .inr (.inr (.inr (.inl (fun _ => 0)))))), (ho, .inr (11, [.ref al, .ref sv, .ref ts, .ref pb, .null, .int (nI 0)])), (al, .inr (4, [.int (nI 0), .ref (gE G), .int (nI 0)])), (ou, .inl (gyL G, 1, .inr (.inl (fun _ => 0)))), (al2, .inr (4, [.int (nI 0), .ref (gE G), .int (nI 0)])), (mo, .inr (15, [.int (nI 2), .ref al2, .long (lN 0), .null, .ref pf, .int (nI 0)]))] H := hP
  have hD : va_D A [(sv, .inr (10, [.ref b, .ref sr, .ref se, .int (nI 0), .int (nI 0), .int (nI 110)])), (b, .inr (5, [.ref mm])), (mm, .inl (gyI G, 16, .inl f)), (sr, .inl (gyI G, 64, .inl g)), (se, .inl (gyI G, 16, .inl hh)), (pf, .inl (gyI G, 16, .inl pff)), (od, .inl (gyD G, 1, .inr (.inr (.inr (.inl (fun _ => 0)))))), (ho, .inr (11, [.ref al, .ref sv, .ref ts, .ref pb, .null, .int (nI 0)])), (al, .inr (4, [.int (nI 0), .ref (gE G), .int (nI 0)])), (ou, .inl (gyL G, 1, .inr (.inl (fun _ => 0)))), (al2, .inr (4, [.int (nI 0), .ref (gE G), .int (nI 0)])), (mo, .inr (15, [.int (nI 2), .ref al2, .long (lN 0), .null, .ref pf, .int (nI 0)]))] := hD
  refine lv_iload hx hb dL_law_1171 (lv_at hl 1 rfl) ?_
  refine lv_icmp_eq (tgt := 1178) hx hb dL_law_1173 (by decide) (fun c_7 => ?_) (fun c_7 => ?_)
  · skip
    have c_7 : 2 = 2 := (nI_eq (a := 2) (b := 2) (by omega) (by omega)).mp c_7
    refine lv_iload hx hb dL_law_1178 (lv_at hl 1 rfl) ?_
    refine lv_if_ne (tgt := 1195) hx hb dL_law_1180 (by decide) (fun c_8 => ?_) (fun c_8 => ?_)
    · skip
      have c_8 : ¬ 2 = 0 := fun z => c_8 ((nI_eq (a := 2) (b := 0) (by omega) (by omega)).mpr z)
      refine lv_goto (tgt := 1736) hx hb dL_law_1195 (by decide) ?_
      refine lv_iinc (v := nI 4) (lv' := [(5, .int (nI 4)), (7, .int r_4), (6, .int (nI 2)), (0, .ref scr), (1, .ref ho), (2, .ref mo), (3, .ref ou), (4, .ref od)]) hx hb dL_law_1736 hl (k := 7) rfl (nI_add 0 4) (by decide) rfl (fun ls hl => ?_)
      refine lv_goto (tgt := 28) hx hb dL_law_1739 (by decide) ?_
      refine lv_iload hx hb dL_law_28 (lv_at hl 0 rfl) ?_
      refine lv_aload_n hx hb dL_law_30 rfl (lv_at hl 3 rfl) ?_
      refine va_slen hx hb hX hbl hbA hS dL_law_31 ?_
      refine lv_toe (show Int32.ofNat 4 = nI 4 from rfl) ?_
      refine lv_iconst (v := nI 4) hx hb dL_law_32 (by decide) ?_
      refine lv_isub hx hb dL_law_33 ?_
      refine lv_toe (pk_sub (a := 4) (b := 4) (by omega)) ?_
      refine lv_icmp_gt (tgt := 1742) hx hb dL_law_34 (by decide) (fun c_9 => ?_) (fun c_9 => ?_)
      · skip
        have c_9 : 0 < 4 := (nI_ltI (a := 0) (b := 4) (by omega) (by omega)).mp c_9
        refine lv_iconst (v := nI 1) hx hb dL_law_1742 (by decide) ?_
        refine va_forget (fun q hq => hA2 _ (hS.2.2 q hq)) ?_
        refine W.widen (k := 607190) (n := 7280494) (Nat.le_of_ble_eq_true rfl) (Nat.le_of_ble_eq_true rfl) ?_
        exact lw_ret (d0 := s.drawn) (Drawn.sameBut.refl s.drawn lw_cs) hx hb hr hlocks dL_law_1743
      · skip
        have c_9 : ¬ 0 < 4 := fun z => c_9 ((nI_ltI (a := 0) (b := 4) (by omega) (by omega)).mpr z)
        exact absurd c_9 (by decide)
    · skip
      have c_8 : 2 = 0 := (nI_eq (a := 2) (b := 0) (by omega) (by omega)).mp c_8
      exact absurd c_8 (by decide)
  · skip
    have c_7 : ¬ 2 = 2 := fun z => c_7 ((nI_eq (a := 2) (b := 2) (by omega) (by omega)).mpr z)
    exact absurd c_7 (by decide)
set_option maxHeartbeats 4000000 in
set_option maxRecDepth 100000 in
theorem law_tell_3 {p : Program} {e : Env} {s : State} {m : MethodId} {below : List Frame} {meth : Method} {c : Code} (l : Launch) (hst : l.stackTraces = false) {scr : Nat} {xs : Nat → Int32} (C0 : lw_At p s m meth c scr 4 xs) (G : GG) (A : Nat → Prop) (hA : ∀ q : Nat, s.heap.size ≤ q → A q) (hA2 : ∀ q : Nat, A q → s.heap.size ≤ q) (hK : va_K (gD G) vwCl (gT G) s) (hE : EV G A s s.heap) (ho al ts pb sv b mm sr se mo al2 pf ou od : Nat) (f g hh pff : Nat → Int32) (rl : Nat) (k : Nat) (x : Nat) (hrl : rl < 5) (hk : k < 16) (hx1 : 1 ≤ x) (hx4 : x ≤ 4) (hv1 : xs 1 = nI rl) (hv2 : xs 2 = nI k) (hv3 : xs 3 = nI x) (H : Heap) (locs : List Loc) (hP : va_P (gD G) vwCl [(ho, .inr (11, [.ref al, .ref sv, .ref ts, .ref pb, .null, .int (nI 0)])), (al, .inr (4, [.int (nI 0), .ref (gE G), .int (nI 0)])), (sv, .inr (10, [.ref b, .ref sr, .ref se, .int (nI 0), .int (nI 0), .int (nI 110)])), (b, .inr (5, [.ref mm])), (mm, .inl (gyI G, 16, .inl f)), (sr, .inl (gyI G, 64, .inl g)), (se, .inl (gyI G, 16, .inl hh)), (mo, .inr (15, [.int (nI 0), .ref al2, .long (lN 0), .null, .ref pf, .int (nI 0)])), (al2, .inr (4, [.int (nI 0), .ref (gE G), .int (nI 0)])), (pf, .inl (gyI G, 16, .inl pff)), (ou, .inl (gyL G, 1, .inr (.inl (fun _ => 0)))), (od, .inl (gyD G, 1, .inr (.inr (.inr (.inl (fun _ => 0))))))] H) (hD : va_D A [(ho, .inr (11, [.ref al, .ref sv, .ref ts, .ref pb, .null, .int (nI 0)])), (al, .inr (4, [.int (nI 0), .ref (gE G), .int (nI 0)])), (sv, .inr (10, [.ref b, .ref sr, .ref se, .int (nI 0), .int (nI 0), .int (nI 110)])), (b, .inr (5, [.ref mm])), (mm, .inl (gyI G, 16, .inl f)), (sr, .inl (gyI G, 64, .inl g)), (se, .inl (gyI G, 16, .inl hh)), (mo, .inr (15, [.int (nI 0), .ref al2, .long (lN 0), .null, .ref pf, .int (nI 0)])), (al2, .inr (4, [.int (nI 0), .ref (gE G), .int (nI 0)])), (pf, .inl (gyI G, 16, .inl pff)), (ou, .inl (gyL G, 1, .inr (.inl (fun _ => 0)))), (od, .inl (gyD G, 1, .inr (.inr (.inr (.inl (fun _ => 0))))))]) (hS : va_S A s.heap H locs) (ls : Array Slot) (hl : lv_has ls 9 [(0, .ref scr), (1, .ref ho), (2, .ref mo), (3, .ref ou), (4, .ref od), (5, .int (nI 0))]) : W p l e room_1 s m #[Value.ref scr] below meth c H locs 17 191 (lw_Z below #[Value.ref scr] s) (F0 m 1118 ls []) := by
  obtain ⟨hx, hb, hr, hml, hown, hts0, hX, hbl, hlocks, hgv⟩ := C0
  have hown : s.vm.findClass "PegboardryLaw" = some m.cls := hown
  have hts : ∀ w ∈ WW, w.before #[Value.ref scr] s = true := fun w hw => hts0 w (List.mem_filter.mp hw).1
  have hbA : ¬ A scr := fun z => Nat.not_le.mpr hbl (hA2 _ z)
  refine lv_aload_n hx hb dL_law_1118 rfl (lv_at hl 1 rfl) ?_
  refine lv_aload_n hx hb dL_law_1119 rfl (lv_at hl 0 rfl) ?_
  refine lv_iload hx hb dL_law_1120 (lv_at hl 5 rfl) ?_
  refine lv_iconst (v := nI 1) hx hb dL_law_1122 (by decide) ?_
  refine lv_iadd hx hb dL_law_1123 ?_
  refine lv_toe (nI_add 0 1) ?_
  refine va_sld hx hb hX hbl hbA hS (vp_in_nI (n := 1) (N := 4) (by omega) (by omega)) dL_law_1124 ?_
  refine lv_toe (show xs (nI (1)).toNatClampNeg = nI rl by rw [nI_clamp (by omega)]; exact hv1) ?_
  refine lv_aload_n hx hb dL_law_1125 rfl (lv_at hl 0 rfl) ?_
  refine lv_iload hx hb dL_law_1126 (lv_at hl 5 rfl) ?_
  refine lv_iconst (v := nI 2) hx hb dL_law_1128 (by decide) ?_
  refine lv_iadd hx hb dL_law_1129 ?_
  refine lv_toe (nI_add 0 2) ?_
  refine va_sld hx hb hX hbl hbA hS (vp_in_nI (n := 2) (N := 4) (by omega) (by omega)) dL_law_1130 ?_
  refine lv_toe (show xs (nI (2)).toNatClampNeg = nI k by rw [nI_clamp (by omega)]; exact hv2) ?_
  refine lv_aload_n hx hb dL_law_1131 rfl (lv_at hl 0 rfl) ?_
  refine lv_iload hx hb dL_law_1132 (lv_at hl 5 rfl) ?_
  refine lv_iconst (v := nI 3) hx hb dL_law_1134 (by decide) ?_
  refine lv_iadd hx hb dL_law_1135 ?_
  refine lv_toe (nI_add 0 3) ?_
  refine va_sld hx hb hX hbl hbA hS (vp_in_nI (n := 3) (N := 4) (by omega) (by omega)) dL_law_1136 ?_
  refine lv_toe (show xs (nI (3)).toNatClampNeg = nI x by rw [nI_clamp (by omega)]; exact hv3) ?_
  refine lv_aload_n hx hb dL_law_1137 rfl (lv_at hl 3 rfl) ?_
  refine fin_i hP hD hS hA [0, 1, 10] [2, 3, 4, 5, 6, 7, 8, 9, 11] (wr := [(sv, .inr (10, [.ref b, .ref sr, .ref se, .int (nI 0), .int (nI 0), .int (nI 110)])), (b, .inr (5, [.ref mm])), (mm, .inl (gyI G, 16, .inl f)), (sr, .inl (gyI G, 64, .inl g)), (se, .inl (gyI G, 16, .inl hh)), (mo, .inr (15, [.int (nI 0), .ref al2, .long (lN 0), .null, .ref pf, .int (nI 0)])), (al2, .inr (4, [.int (nI 0), .ref (gE G), .int (nI 0)])), (pf, .inl (gyI G, 16, .inl pff)), (od, .inl (gyD G, 1, .inr (.inr (.inr (.inl (fun _ => 0))))))]) rfl rfl (by decide) (by decide) (vx_runSW (As := [.ref ho, .int (nI rl), .int (nI k), .int (nI x), .ref ou]) (rest := []) ⟨hx, hb, hml, hown, hts⟩ (l_tell_3 l G ho al ts pb (nI 0) sv (nI 0) rl k x ou (fun _ => 0) (by omega) (by omega) (by omega) (by omega) hst H.size) (vx_cwSW 5 hts (gSt q813 q814 q44 q815) rfl rfl rfl (by decide +kernel) ⟨Nat.le_of_ble_eq_true rfl, Nat.le_of_ble_eq_true rfl⟩) (preS hK hE hP hD hS hA [0, 1, 10] rfl (by decide)) rfl rfl hl.1 rfl (lv_room (Nat.le_of_ble_eq_true rfl)) dL_law_1138 ⟨Nat.le_of_ble_eq_true rfl, Nat.le_of_ble_eq_true rfl⟩) (fun r_2 u9 hw_1 H locs hP hD hS => ?_)
  subst hw_1
  have hP : va_P (gD G) vwCl [(sv, .inr (10, [.ref b, .ref sr, .ref se, .int (nI 0), .int (nI 0), .int (nI 110)])), (b, .inr (5, [.ref mm])), (mm, .inl (gyI G, 16, .inl f)), (sr, .inl (gyI G, 64, .inl g)), (se, .inl (gyI G, 16, .inl hh)), (mo, .inr (15, [.int (nI 0), .ref al2, .long (lN 0), .null, .ref pf, .int (nI 0)])), (al2, .inr (4, [.int (nI 0), .ref (gE G), .int (nI 0)])), (pf, .inl (gyI G, 16, .inl pff)), (od, .inl (gyD G, 1, .inr (.inr (.inr (.inl (fun _ => 0)))))), (ho, .inr (11, [.ref al, .ref sv, .ref ts, .ref pb, .null, .int (nI 0)])), (al, .inr (4, [.int (nI 0), .ref (gE G), .int (nI 0)])), (ou, .inl (gyL G, 1, .inr (.inl (fun _ => 0))))] H := hP
  have hD : va_D A [(sv, .inr (10, [.ref b, .ref sr, .ref se, .int (nI 0), .int (nI 0), .int (nI 110)])), (b, .inr (5, [.ref mm])), (mm, .inl (gyI G, 16, .inl f)), (sr, .inl (gyI G, 64, .inl g)), (se, .inl (gyI G, 16, .inl hh)), (mo, .inr (15, [.int (nI 0), .ref al2, .long (lN 0), .null, .ref pf, .int (nI 0)])), (al2, .inr (4, [.int (nI 0), .ref (gE G), .int (nI 0)])), (pf, .inl (gyI G, 16, .inl pff)), (od, .inl (gyD G, 1, .inr (.inr (.inr (.inl (fun _ => 0)))))), (ho, .inr (11, [.ref al, .ref sv, .ref ts, .ref pb, .null, .int (nI 0)])), (al, .inr (4, [.int (nI 0), .ref (gE G), .int (nI 0)])), (ou, .inl (gyL G, 1, .inr (.inl (fun _ => 0))))] := hD
  refine lv_istore (lv' := [(6, .int (nI 3)), (0, .ref scr), (1, .ref ho), (2, .ref mo), (3, .ref ou), (4, .ref od), (5, .int (nI 0))]) hx hb dL_law_1141 hl (by decide) rfl (fun ls hl => ?_)
  refine lv_aload_n hx hb dL_law_1143 rfl (lv_at hl 3 rfl) ?_
  refine lv_aload_n hx hb dL_law_1144 rfl (lv_at hl 1 rfl) ?_
  refine lv_iload hx hb dL_law_1145 (lv_at hl 6 rfl) ?_
  refine lv_iconst (v := nI 1) hx hb dL_law_1147 (by decide) ?_
  refine lv_iadd hx hb dL_law_1148 ?_
  refine lv_toe (nI_add 0 1) ?_
  refine va_sld hx hb hX hbl hbA hS (vp_in_nI (n := 1) (N := 4) (by omega) (by omega)) dL_law_1149 ?_
  refine lv_toe (show xs (nI (1)).toNatClampNeg = nI rl by rw [nI_clamp (by omega)]; exact hv1) ?_
  refine lv_aload_n hx hb dL_law_1150 rfl (lv_at hl 1 rfl) ?_
  refine lv_iload hx hb dL_law_1151 (lv_at hl 6 rfl) ?_
  refine lv_iconst (v := nI 2) hx hb dL_law_1153 (by decide) ?_
  refine lv_iadd hx hb dL_law_1154 ?_
  refine lv_toe (nI_add 0 2) ?_
  refine va_sld hx hb hX hbl hbA hS (vp_in_nI (n := 2) (N := 4) (by omega) (by omega)) dL_law_1155 ?_
  refine lv_toe (show xs (nI (2)).toNatClampNeg = nI k by rw [nI_clamp (by omega)]; exact hv2) ?_
  refine lv_aload_n hx hb dL_law_1156 rfl (lv_at hl 1 rfl) ?_
  refine lv_iload hx hb dL_law_1157 (lv_at hl 6 rfl) ?_
  refine lv_iconst (v := nI 3) hx hb dL_law_1159 (by decide) ?_
  refine lv_iadd hx hb dL_law_1160 ?_
  refine lv_toe (nI_add 0 3) ?_
  refine va_sld hx hb hX hbl hbA hS (vp_in_nI (n := 3) (N := 4) (by omega) (by omega)) dL_law_1161 ?_
  refine lv_toe (show xs (nI (3)).toNatClampNeg = nI x by rw [nI_clamp (by omega)]; exact hv3) ?_
  refine fin_i hP hD hS hA [5, 6] [0, 1, 2, 3, 4, 7, 8, 9, 10, 11] (wr := [(sv, .inr (10, [.ref b, .ref sr, .ref se, .int (nI 0), .int (nI 0), .int (nI 110)])), (b, .inr (5, [.ref mm])), (mm, .inl (gyI G, 16, .inl f)), (sr, .inl (gyI G, 64, .inl g)), (se, .inl (gyI G, 16, .inl hh)), (pf, .inl (gyI G, 16, .inl pff)), (od, .inl (gyD G, 1, .inr (.inr (.inr (.inl (fun _ => 0)))))), (ho, .inr (11, [.ref al, .ref sv, .ref ts, .ref pb, .null, .int (nI 0)])), (al, .inr (4, [.int (nI 0), .ref (gE G), .int (nI 0)])), (ou, .inl (gyL G, 1, .inr (.inl (fun _ => 0))))]) rfl rfl (by decide) (by decide) (va_runV (As := [.int (nI rl), .int (nI k), .int (nI x)]) (rest := []) ⟨hx, hb, hml, hown, hts⟩ (c_mtell_3 l G mo (nI 0) al2 0 pf (nI 0) (nI 0) rl k x (by omega) (by omega) (by omega) (by omega) H.size) (cwV 3 hts (gV q1318 q1319 q1320 q52 q1321) rfl rfl rfl (by decide +kernel) ⟨Nat.le_of_ble_eq_true rfl, Nat.le_of_ble_eq_true rfl⟩) (preV (q0 := 5) (ci := 15) hK hE hP hD hS hA [5, 6] rfl (by decide) rfl rfl) rfl rfl hl.1 rfl (lv_room (Nat.le_of_ble_eq_true rfl)) dL_law_1162 ⟨Nat.le_of_ble_eq_true rfl, Nat.le_of_ble_eq_true rfl⟩) (fun r_4 u9 hw_3 H locs hP hD hS => ?_)
  have hP : va_P (gD G) vwCl [(sv, .inr (10, [.ref b, .ref sr, .ref se, .int (nI 0), .int (nI 0), .int (nI 110)])), (b, .inr (5, [.ref mm])), (mm, .inl (gyI G, 16, .inl f)), (sr, .inl (gyI G, 64, .inl g)), (se, .inl (gyI G, 16, .inl hh)), (pf, .inl (gyI G, 16, .inl pff)), (od, .inl (gyD G, 1, .inr (.inr (.inr (.inl (fun _ => 0)))))), (ho, .inr (11, [.ref al, .ref sv, .ref ts, .ref pb, .null, .int (nI 0)])), (al, .inr (4, [.int (nI 0), .ref (gE G), .int (nI 0)])), (ou, .inl (gyL G, 1, .inr (.inl (fun _ => 0)))), (mo, .inr (15, [.int (nI 3), .ref al2, .long (lN 0), .null, .ref pf, .int (nI 0)])), (al2, .inr (4, [.int (nI 0), .ref (gE G), .int (nI 0)]))] H := hP
  have hD : va_D A [(sv, .inr (10, [.ref b, .ref sr, .ref se, .int (nI 0), .int (nI 0), .int (nI 110)])), (b, .inr (5, [.ref mm])), (mm, .inl (gyI G, 16, .inl f)), (sr, .inl (gyI G, 64, .inl g)), (se, .inl (gyI G, 16, .inl hh)), (pf, .inl (gyI G, 16, .inl pff)), (od, .inl (gyD G, 1, .inr (.inr (.inr (.inl (fun _ => 0)))))), (ho, .inr (11, [.ref al, .ref sv, .ref ts, .ref pb, .null, .int (nI 0)])), (al, .inr (4, [.int (nI 0), .ref (gE G), .int (nI 0)])), (ou, .inl (gyL G, 1, .inr (.inl (fun _ => 0)))), (mo, .inr (15, [.int (nI 3), .ref al2, .long (lN 0), .null, .ref pf, .int (nI 0)])), (al2, .inr (4, [.int (nI 0), .ref (gE G), .int (nI 0)]))] := hD
  refine lv_istore (lv' := [(7, .int r_4), (6, .int (nI 3)), (0, .ref scr), (1, .ref ho), (2, .ref mo), (3, .ref ou), (4, .ref od), (5, .int (nI 0))]) hx hb dL_law_1165 hl (by decide) rfl (fun ls hl => ?_)
  refine lv_aload_n hx hb dL_law_1167 rfl (lv_at hl 4 rfl) ?_
  refine fin_i hP hD hS hA [10] [0, 1, 2, 3, 4, 5, 6, 7, 8, 9, 11] (wr := [(sv, .inr (10, [.ref b, .ref sr, .ref se, .int (nI 0), .int (nI 0), .int (nI 110)])), (b, .inr (5, [.ref mm])), (mm, .inl (gyI G, 16, .inl f)), (sr, .inl (gyI G, 64, .inl g)), (se, .inl (gyI G, 16, .inl hh)), (pf, .inl (gyI G, 16, .inl pff)), (od, .inl (gyD G, 1, .inr (.inr (.inr (.inl (fun _ => 0)))))), (ho, .inr (11, [.ref al, .ref sv, .ref ts, .ref pb, .null, .int (nI 0)])), (al, .inr (4, [.int (nI 0), .ref (gE G), .int (nI 0)])), (ou, .inl (gyL G, 1, .inr (.inl (fun _ => 0)))), (al2, .inr (4, [.int (nI 0), .ref (gE G), .int (nI 0)]))]) rfl rfl (by decide) (by decide) (va_runV (As := []) (rest := []) ⟨hx, hb, hml, hown, hts⟩ (c_X10_thrown l G mo 3 al2 0 pf (nI 0) H.size) (cwV 0 hts (gV q946 q947 q948 q52 q949) rfl rfl rfl (by decide +kernel) ⟨Nat.le_of_ble_eq_true rfl, Nat.le_of_ble_eq_true rfl⟩) (preV (q0 := 10) (ci := 15) hK hE hP hD hS hA [10] rfl (by decide) rfl rfl) rfl rfl hl.1 rfl (lv_room (Nat.le_of_ble_eq_true rfl)) dL_law_1168 ⟨Nat.le_of_ble_eq_true rfl, Nat.le_of_ble_eq_true rfl⟩) (fun r_6 u9 hw_5 H locs hP hD hS => ?_)
  subst hw_5
  have hP : va_P (gD G) vwCl [(sv, .inr (10, [.ref b, .ref sr, .ref se, .int (nI 0), .int (nI 0), .int (nI 110)])), (b, .inr (5, [.ref mm])), (mm, .inl (gyI G, 16, .inl f)), (sr, .inl (gyI G, 64, .inl g)), (se, .inl (gyI G, 16, .inl hh)), (pf, .inl (gyI G, 16, .inl pff)), (od, .inl (gyD G, 1, .inr (.inr (.inr (.inl (fun _ => 0)))))), (ho, .inr (11, [.ref al, .ref sv, .ref ts, .ref pb, .null, .int (nI 0)])), (al, .inr (4, [.int (nI 0), .ref (gE G), .int (nI 0)])), (ou, .inl (gyL G, 1, .inr (.inl (fun _ => 0)))), (al2, .inr (4, [.int (nI 0), .ref (gE G), .int (nI 0)])), (mo, .inr (15, [.int (nI 3), .ref al2, .long (lN 0), .null, .ref pf, .int (nI 0)]))] H := hP
  have hD : va_D A [(sv, .inr (10, [.ref b, .ref sr, .ref se, .int (nI 0), .int (nI 0), .int (nI 110)])), (b, .inr (5, [.ref mm])), (mm, .inl (gyI G, 16, .inl f)), (sr, .inl (gyI G, 64, .inl g)), (se, .inl (gyI G, 16, .inl hh)), (pf, .inl (gyI G, 16, .inl pff)), (od, .inl (gyD G, 1, .inr (.inr (.inr (.inl (fun _ => 0)))))), (ho, .inr (11, [.ref al, .ref sv, .ref ts, .ref pb, .null, .int (nI 0)])), (al, .inr (4, [.int (nI 0), .ref (gE G), .int (nI 0)])), (ou, .inl (gyL G, 1, .inr (.inl (fun _ => 0)))), (al2, .inr (4, [.int (nI 0), .ref (gE G), .int (nI 0)])), (mo, .inr (15, [.int (nI 3), .ref al2, .long (lN 0), .null, .ref pf, .int (nI 0)]))] := hD
  refine lv_iload hx hb dL_law_1171 (lv_at hl 1 rfl) ?_
  refine lv_icmp_eq (tgt := 1178) hx hb dL_law_1173 (by decide) (fun c_7 => ?_) (fun c_7 => ?_)
  · skip
    have c_7 : 3 = 3 := (nI_eq (a := 3) (b := 3) (by omega) (by omega)).mp c_7
    refine lv_iload hx hb dL_law_1178 (lv_at hl 1 rfl) ?_
    refine lv_if_ne (tgt := 1195) hx hb dL_law_1180 (by decide) (fun c_8 => ?_) (fun c_8 => ?_)
    · skip
      have c_8 : ¬ 3 = 0 := fun z => c_8 ((nI_eq (a := 3) (b := 0) (by omega) (by omega)).mpr z)
      refine lv_goto (tgt := 1736) hx hb dL_law_1195 (by decide) ?_
      refine lv_iinc (v := nI 4) (lv' := [(5, .int (nI 4)), (7, .int r_4), (6, .int (nI 3)), (0, .ref scr), (1, .ref ho), (2, .ref mo), (3, .ref ou), (4, .ref od)]) hx hb dL_law_1736 hl (k := 7) rfl (nI_add 0 4) (by decide) rfl (fun ls hl => ?_)
      refine lv_goto (tgt := 28) hx hb dL_law_1739 (by decide) ?_
      refine lv_iload hx hb dL_law_28 (lv_at hl 0 rfl) ?_
      refine lv_aload_n hx hb dL_law_30 rfl (lv_at hl 3 rfl) ?_
      refine va_slen hx hb hX hbl hbA hS dL_law_31 ?_
      refine lv_toe (show Int32.ofNat 4 = nI 4 from rfl) ?_
      refine lv_iconst (v := nI 4) hx hb dL_law_32 (by decide) ?_
      refine lv_isub hx hb dL_law_33 ?_
      refine lv_toe (pk_sub (a := 4) (b := 4) (by omega)) ?_
      refine lv_icmp_gt (tgt := 1742) hx hb dL_law_34 (by decide) (fun c_9 => ?_) (fun c_9 => ?_)
      · skip
        have c_9 : 0 < 4 := (nI_ltI (a := 0) (b := 4) (by omega) (by omega)).mp c_9
        refine lv_iconst (v := nI 1) hx hb dL_law_1742 (by decide) ?_
        refine va_forget (fun q hq => hA2 _ (hS.2.2 q hq)) ?_
        refine W.widen (k := 607190) (n := 7280494) (Nat.le_of_ble_eq_true rfl) (Nat.le_of_ble_eq_true rfl) ?_
        exact lw_ret (d0 := s.drawn) (Drawn.sameBut.refl s.drawn lw_cs) hx hb hr hlocks dL_law_1743
      · skip
        have c_9 : ¬ 0 < 4 := fun z => c_9 ((nI_ltI (a := 0) (b := 4) (by omega) (by omega)).mpr z)
        exact absurd c_9 (by decide)
    · skip
      have c_8 : 3 = 0 := (nI_eq (a := 3) (b := 0) (by omega) (by omega)).mp c_8
      exact absurd c_8 (by decide)
  · skip
    have c_7 : ¬ 3 = 3 := fun z => c_7 ((nI_eq (a := 3) (b := 3) (by omega) (by omega)).mpr z)
    exact absurd c_7 (by decide)
set_option maxHeartbeats 4000000 in
set_option maxRecDepth 100000 in
theorem law_cand_1 {p : Program} {e : Env} {s : State} {m : MethodId} {below : List Frame} {meth : Method} {c : Code} (l : Launch) (hst : l.stackTraces = false) {scr : Nat} {xs : Nat → Int32} (C0 : lw_At p s m meth c scr 4 xs) (G : GG) (A : Nat → Prop) (hA : ∀ q : Nat, s.heap.size ≤ q → A q) (hA2 : ∀ q : Nat, A q → s.heap.size ≤ q) (hK : va_K (gD G) vwCl (gT G) s) (hE : EV G A s s.heap) (ho al ts pb sv b mm sr se mo al2 pf ou od : Nat) (f g hh pff : Nat → Int32) (hbad : xs 1 < nI 0 ∨ nI 15 < xs 1) (H : Heap) (locs : List Loc) (hP : va_P (gD G) vwCl [(ho, .inr (11, [.ref al, .ref sv, .ref ts, .ref pb, .null, .int (nI 0)])), (al, .inr (4, [.int (nI 0), .ref (gE G), .int (nI 0)])), (sv, .inr (10, [.ref b, .ref sr, .ref se, .int (nI 0), .int (nI 0), .int (nI 110)])), (b, .inr (5, [.ref mm])), (mm, .inl (gyI G, 16, .inl f)), (sr, .inl (gyI G, 64, .inl g)), (se, .inl (gyI G, 16, .inl hh)), (mo, .inr (15, [.int (nI 0), .ref al2, .long (lN 0), .null, .ref pf, .int (nI 0)])), (al2, .inr (4, [.int (nI 0), .ref (gE G), .int (nI 0)])), (pf, .inl (gyI G, 16, .inl pff)), (ou, .inl (gyL G, 1, .inr (.inl (fun _ => 0)))), (od, .inl (gyD G, 1, .inr (.inr (.inr (.inl (fun _ => 0))))))] H) (hD : va_D A [(ho, .inr (11, [.ref al, .ref sv, .ref ts, .ref pb, .null, .int (nI 0)])), (al, .inr (4, [.int (nI 0), .ref (gE G), .int (nI 0)])), (sv, .inr (10, [.ref b, .ref sr, .ref se, .int (nI 0), .int (nI 0), .int (nI 110)])), (b, .inr (5, [.ref mm])), (mm, .inl (gyI G, 16, .inl f)), (sr, .inl (gyI G, 64, .inl g)), (se, .inl (gyI G, 16, .inl hh)), (mo, .inr (15, [.int (nI 0), .ref al2, .long (lN 0), .null, .ref pf, .int (nI 0)])), (al2, .inr (4, [.int (nI 0), .ref (gE G), .int (nI 0)])), (pf, .inl (gyI G, 16, .inl pff)), (ou, .inl (gyL G, 1, .inr (.inl (fun _ => 0)))), (od, .inl (gyD G, 1, .inr (.inr (.inr (.inl (fun _ => 0))))))]) (hS : va_S A s.heap H locs) (ls : Array Slot) (hl : lv_has ls 9 [(0, .ref scr), (1, .ref ho), (2, .ref mo), (3, .ref ou), (4, .ref od), (5, .int (nI 0))]) : W p l e room_1 s m #[Value.ref scr] below meth c H locs 17 191 (lw_Z below #[Value.ref scr] s) (F0 m 1211 ls []) := by
  obtain ⟨hx, hb, hr, hml, hown, hts0, hX, hbl, hlocks, hgv⟩ := C0
  have hown : s.vm.findClass "PegboardryLaw" = some m.cls := hown
  have hts : ∀ w ∈ WW, w.before #[Value.ref scr] s = true := fun w hw => hts0 w (List.mem_filter.mp hw).1
  have hbA : ¬ A scr := fun z => Nat.not_le.mpr hbl (hA2 _ z)
  refine lv_aload_n hx hb dL_law_1211 rfl (lv_at hl 1 rfl) ?_
  refine lv_aload_n hx hb dL_law_1212 rfl (lv_at hl 0 rfl) ?_
  refine lv_iload hx hb dL_law_1213 (lv_at hl 5 rfl) ?_
  refine lv_iconst (v := nI 1) hx hb dL_law_1215 (by decide) ?_
  refine lv_iadd hx hb dL_law_1216 ?_
  refine lv_toe (nI_add 0 1) ?_
  refine va_sld hx hb hX hbl hbA hS (vp_in_nI (n := 1) (N := 4) (by omega) (by omega)) dL_law_1217 ?_
  refine lv_toe (show xs (nI (1)).toNatClampNeg = xs 1 by rw [nI_clamp (by omega)]) ?_
  refine lv_aload_n hx hb dL_law_1218 rfl (lv_at hl 3 rfl) ?_
  refine fin_i hP hD hS hA [0, 1, 10] [2, 3, 4, 5, 6, 7, 8, 9, 11] (wr := [(sv, .inr (10, [.ref b, .ref sr, .ref se, .int (nI 0), .int (nI 0), .int (nI 110)])), (b, .inr (5, [.ref mm])), (mm, .inl (gyI G, 16, .inl f)), (sr, .inl (gyI G, 64, .inl g)), (se, .inl (gyI G, 16, .inl hh)), (mo, .inr (15, [.int (nI 0), .ref al2, .long (lN 0), .null, .ref pf, .int (nI 0)])), (al2, .inr (4, [.int (nI 0), .ref (gE G), .int (nI 0)])), (pf, .inl (gyI G, 16, .inl pff)), (od, .inl (gyD G, 1, .inr (.inr (.inr (.inl (fun _ => 0))))))]) rfl rfl (by decide) (by decide) (vx_runSW (As := [.ref ho, .int (xs 1), .ref ou]) (rest := []) ⟨hx, hb, hml, hown, hts⟩ (l_cand_1 l G ho al ts pb (nI 0) sv (nI 0) (xs 1) ou (fun _ => 0) (by omega) hst H.size) (vx_cwSW 3 hts (gSt q827 q828 q44 q829) rfl rfl rfl (by decide +kernel) ⟨Nat.le_of_ble_eq_true rfl, Nat.le_of_ble_eq_true rfl⟩) (preS hK hE hP hD hS hA [0, 1, 10] rfl (by decide)) rfl rfl hl.1 rfl (lv_room (Nat.le_of_ble_eq_true rfl)) dL_law_1219 ⟨Nat.le_of_ble_eq_true rfl, Nat.le_of_ble_eq_true rfl⟩) (fun r_2 u9 hw_1 H locs hP hD hS => ?_)
  subst hw_1
  have hP : va_P (gD G) vwCl [(sv, .inr (10, [.ref b, .ref sr, .ref se, .int (nI 0), .int (nI 0), .int (nI 110)])), (b, .inr (5, [.ref mm])), (mm, .inl (gyI G, 16, .inl f)), (sr, .inl (gyI G, 64, .inl g)), (se, .inl (gyI G, 16, .inl hh)), (mo, .inr (15, [.int (nI 0), .ref al2, .long (lN 0), .null, .ref pf, .int (nI 0)])), (al2, .inr (4, [.int (nI 0), .ref (gE G), .int (nI 0)])), (pf, .inl (gyI G, 16, .inl pff)), (od, .inl (gyD G, 1, .inr (.inr (.inr (.inl (fun _ => 0)))))), (ho, .inr (11, [.ref al, .ref sv, .ref ts, .ref pb, .null, .int (nI 0)])), (al, .inr (4, [.int (nI 0), .ref (gE G), .int (nI 0)])), (ou, .inl (gyL G, 1, .inr (.inl (fun _ => 0))))] H := hP
  have hD : va_D A [(sv, .inr (10, [.ref b, .ref sr, .ref se, .int (nI 0), .int (nI 0), .int (nI 110)])), (b, .inr (5, [.ref mm])), (mm, .inl (gyI G, 16, .inl f)), (sr, .inl (gyI G, 64, .inl g)), (se, .inl (gyI G, 16, .inl hh)), (mo, .inr (15, [.int (nI 0), .ref al2, .long (lN 0), .null, .ref pf, .int (nI 0)])), (al2, .inr (4, [.int (nI 0), .ref (gE G), .int (nI 0)])), (pf, .inl (gyI G, 16, .inl pff)), (od, .inl (gyD G, 1, .inr (.inr (.inr (.inl (fun _ => 0)))))), (ho, .inr (11, [.ref al, .ref sv, .ref ts, .ref pb, .null, .int (nI 0)])), (al, .inr (4, [.int (nI 0), .ref (gE G), .int (nI 0)])), (ou, .inl (gyL G, 1, .inr (.inl (fun _ => 0))))] := hD
  refine lv_istore (lv' := [(6, .int (nI 1)), (0, .ref scr), (1, .ref ho), (2, .ref mo), (3, .ref ou), (4, .ref od), (5, .int (nI 0))]) hx hb dL_law_1222 hl (by decide) rfl (fun ls hl => ?_)
  refine lv_aload_n hx hb dL_law_1224 rfl (lv_at hl 3 rfl) ?_
  refine lv_aload_n hx hb dL_law_1225 rfl (lv_at hl 1 rfl) ?_
  refine lv_iload hx hb dL_law_1226 (lv_at hl 6 rfl) ?_
  refine lv_iconst (v := nI 1) hx hb dL_law_1228 (by decide) ?_
  refine lv_iadd hx hb dL_law_1229 ?_
  refine lv_toe (nI_add 0 1) ?_
  refine va_sld hx hb hX hbl hbA hS (vp_in_nI (n := 1) (N := 4) (by omega) (by omega)) dL_law_1230 ?_
  refine lv_toe (show xs (nI (1)).toNatClampNeg = xs 1 by rw [nI_clamp (by omega)]) ?_
  refine fin_i hP hD hS hA [5, 6] [0, 1, 2, 3, 4, 7, 8, 9, 10, 11] (wr := [(sv, .inr (10, [.ref b, .ref sr, .ref se, .int (nI 0), .int (nI 0), .int (nI 110)])), (b, .inr (5, [.ref mm])), (mm, .inl (gyI G, 16, .inl f)), (sr, .inl (gyI G, 64, .inl g)), (se, .inl (gyI G, 16, .inl hh)), (pf, .inl (gyI G, 16, .inl pff)), (od, .inl (gyD G, 1, .inr (.inr (.inr (.inl (fun _ => 0)))))), (ho, .inr (11, [.ref al, .ref sv, .ref ts, .ref pb, .null, .int (nI 0)])), (al, .inr (4, [.int (nI 0), .ref (gE G), .int (nI 0)])), (ou, .inl (gyL G, 1, .inr (.inl (fun _ => 0))))]) rfl rfl (by decide) (by decide) (va_runV (As := [.int (xs 1)]) (rest := []) ⟨hx, hb, hml, hown, hts⟩ (c_mcand_1 l G mo (nI 0) al2 0 pf (nI 0) (nI 0) (xs 1) (by omega) H.size) (cwV 1 hts (gV q1328 q1329 q1330 q52 q1331) rfl rfl rfl (by decide +kernel) ⟨Nat.le_of_ble_eq_true rfl, Nat.le_of_ble_eq_true rfl⟩) (preV (q0 := 5) (ci := 15) hK hE hP hD hS hA [5, 6] rfl (by decide) rfl rfl) rfl rfl hl.1 rfl (lv_room (Nat.le_of_ble_eq_true rfl)) dL_law_1231 ⟨Nat.le_of_ble_eq_true rfl, Nat.le_of_ble_eq_true rfl⟩) (fun r_4 u9 hw_3 H locs hP hD hS => ?_)
  have hP : va_P (gD G) vwCl [(sv, .inr (10, [.ref b, .ref sr, .ref se, .int (nI 0), .int (nI 0), .int (nI 110)])), (b, .inr (5, [.ref mm])), (mm, .inl (gyI G, 16, .inl f)), (sr, .inl (gyI G, 64, .inl g)), (se, .inl (gyI G, 16, .inl hh)), (pf, .inl (gyI G, 16, .inl pff)), (od, .inl (gyD G, 1, .inr (.inr (.inr (.inl (fun _ => 0)))))), (ho, .inr (11, [.ref al, .ref sv, .ref ts, .ref pb, .null, .int (nI 0)])), (al, .inr (4, [.int (nI 0), .ref (gE G), .int (nI 0)])), (ou, .inl (gyL G, 1, .inr (.inl (fun _ => 0)))), (mo, .inr (15, [.int (nI 1), .ref al2, .long (lN 0), .null, .ref pf, .int (nI 0)])), (al2, .inr (4, [.int (nI 0), .ref (gE G), .int (nI 0)]))] H := hP
  have hD : va_D A [(sv, .inr (10, [.ref b, .ref sr, .ref se, .int (nI 0), .int (nI 0), .int (nI 110)])), (b, .inr (5, [.ref mm])), (mm, .inl (gyI G, 16, .inl f)), (sr, .inl (gyI G, 64, .inl g)), (se, .inl (gyI G, 16, .inl hh)), (pf, .inl (gyI G, 16, .inl pff)), (od, .inl (gyD G, 1, .inr (.inr (.inr (.inl (fun _ => 0)))))), (ho, .inr (11, [.ref al, .ref sv, .ref ts, .ref pb, .null, .int (nI 0)])), (al, .inr (4, [.int (nI 0), .ref (gE G), .int (nI 0)])), (ou, .inl (gyL G, 1, .inr (.inl (fun _ => 0)))), (mo, .inr (15, [.int (nI 1), .ref al2, .long (lN 0), .null, .ref pf, .int (nI 0)])), (al2, .inr (4, [.int (nI 0), .ref (gE G), .int (nI 0)]))] := hD
  refine lv_istore (lv' := [(7, .int r_4), (6, .int (nI 1)), (0, .ref scr), (1, .ref ho), (2, .ref mo), (3, .ref ou), (4, .ref od), (5, .int (nI 0))]) hx hb dL_law_1234 hl (by decide) rfl (fun ls hl => ?_)
  refine lv_aload_n hx hb dL_law_1236 rfl (lv_at hl 4 rfl) ?_
  refine fin_i hP hD hS hA [10] [0, 1, 2, 3, 4, 5, 6, 7, 8, 9, 11] (wr := [(sv, .inr (10, [.ref b, .ref sr, .ref se, .int (nI 0), .int (nI 0), .int (nI 110)])), (b, .inr (5, [.ref mm])), (mm, .inl (gyI G, 16, .inl f)), (sr, .inl (gyI G, 64, .inl g)), (se, .inl (gyI G, 16, .inl hh)), (pf, .inl (gyI G, 16, .inl pff)), (od, .inl (gyD G, 1, .inr (.inr (.inr (.inl (fun _ => 0)))))), (ho, .inr (11, [.ref al, .ref sv, .ref ts, .ref pb, .null, .int (nI 0)])), (al, .inr (4, [.int (nI 0), .ref (gE G), .int (nI 0)])), (ou, .inl (gyL G, 1, .inr (.inl (fun _ => 0)))), (al2, .inr (4, [.int (nI 0), .ref (gE G), .int (nI 0)]))]) rfl rfl (by decide) (by decide) (va_runV (As := []) (rest := []) ⟨hx, hb, hml, hown, hts⟩ (c_X10_thrown l G mo 1 al2 0 pf (nI 0) H.size) (cwV 0 hts (gV q946 q947 q948 q52 q949) rfl rfl rfl (by decide +kernel) ⟨Nat.le_of_ble_eq_true rfl, Nat.le_of_ble_eq_true rfl⟩) (preV (q0 := 10) (ci := 15) hK hE hP hD hS hA [10] rfl (by decide) rfl rfl) rfl rfl hl.1 rfl (lv_room (Nat.le_of_ble_eq_true rfl)) dL_law_1237 ⟨Nat.le_of_ble_eq_true rfl, Nat.le_of_ble_eq_true rfl⟩) (fun r_6 u9 hw_5 H locs hP hD hS => ?_)
  subst hw_5
  have hP : va_P (gD G) vwCl [(sv, .inr (10, [.ref b, .ref sr, .ref se, .int (nI 0), .int (nI 0), .int (nI 110)])), (b, .inr (5, [.ref mm])), (mm, .inl (gyI G, 16, .inl f)), (sr, .inl (gyI G, 64, .inl g)), (se, .inl (gyI G, 16, .inl hh)), (pf, .inl (gyI G, 16, .inl pff)), (od, .inl (gyD G, 1, .inr (.inr (.inr (.inl (fun _ => 0)))))), (ho, .inr (11, [.ref al, .ref sv, .ref ts, .ref pb, .null, .int (nI 0)])), (al, .inr (4, [.int (nI 0), .ref (gE G), .int (nI 0)])), (ou, .inl (gyL G, 1, .inr (.inl (fun _ => 0)))), (al2, .inr (4, [.int (nI 0), .ref (gE G), .int (nI 0)])), (mo, .inr (15, [.int (nI 1), .ref al2, .long (lN 0), .null, .ref pf, .int (nI 0)]))] H := hP
  have hD : va_D A [(sv, .inr (10, [.ref b, .ref sr, .ref se, .int (nI 0), .int (nI 0), .int (nI 110)])), (b, .inr (5, [.ref mm])), (mm, .inl (gyI G, 16, .inl f)), (sr, .inl (gyI G, 64, .inl g)), (se, .inl (gyI G, 16, .inl hh)), (pf, .inl (gyI G, 16, .inl pff)), (od, .inl (gyD G, 1, .inr (.inr (.inr (.inl (fun _ => 0)))))), (ho, .inr (11, [.ref al, .ref sv, .ref ts, .ref pb, .null, .int (nI 0)])), (al, .inr (4, [.int (nI 0), .ref (gE G), .int (nI 0)])), (ou, .inl (gyL G, 1, .inr (.inl (fun _ => 0)))), (al2, .inr (4, [.int (nI 0), .ref (gE G), .int (nI 0)])), (mo, .inr (15, [.int (nI 1), .ref al2, .long (lN 0), .null, .ref pf, .int (nI 0)]))] := hD
  refine lv_iload hx hb dL_law_1240 (lv_at hl 1 rfl) ?_
  refine lv_icmp_eq (tgt := 1247) hx hb dL_law_1242 (by decide) (fun c_7 => ?_) (fun c_7 => ?_)
  · skip
    have c_7 : 1 = 1 := (nI_eq (a := 1) (b := 1) (by omega) (by omega)).mp c_7
    refine lv_iload hx hb dL_law_1247 (lv_at hl 1 rfl) ?_
    refine lv_if_ne (tgt := 1264) hx hb dL_law_1249 (by decide) (fun c_8 => ?_) (fun c_8 => ?_)
    · skip
      have c_8 : ¬ 1 = 0 := fun z => c_8 ((nI_eq (a := 1) (b := 0) (by omega) (by omega)).mpr z)
      refine lv_goto (tgt := 1736) hx hb dL_law_1264 (by decide) ?_
      refine lv_iinc (v := nI 4) (lv' := [(5, .int (nI 4)), (7, .int r_4), (6, .int (nI 1)), (0, .ref scr), (1, .ref ho), (2, .ref mo), (3, .ref ou), (4, .ref od)]) hx hb dL_law_1736 hl (k := 7) rfl (nI_add 0 4) (by decide) rfl (fun ls hl => ?_)
      refine lv_goto (tgt := 28) hx hb dL_law_1739 (by decide) ?_
      refine lv_iload hx hb dL_law_28 (lv_at hl 0 rfl) ?_
      refine lv_aload_n hx hb dL_law_30 rfl (lv_at hl 3 rfl) ?_
      refine va_slen hx hb hX hbl hbA hS dL_law_31 ?_
      refine lv_toe (show Int32.ofNat 4 = nI 4 from rfl) ?_
      refine lv_iconst (v := nI 4) hx hb dL_law_32 (by decide) ?_
      refine lv_isub hx hb dL_law_33 ?_
      refine lv_toe (pk_sub (a := 4) (b := 4) (by omega)) ?_
      refine lv_icmp_gt (tgt := 1742) hx hb dL_law_34 (by decide) (fun c_9 => ?_) (fun c_9 => ?_)
      · skip
        have c_9 : 0 < 4 := (nI_ltI (a := 0) (b := 4) (by omega) (by omega)).mp c_9
        refine lv_iconst (v := nI 1) hx hb dL_law_1742 (by decide) ?_
        refine va_forget (fun q hq => hA2 _ (hS.2.2 q hq)) ?_
        refine W.widen (k := 607190) (n := 7280494) (Nat.le_of_ble_eq_true rfl) (Nat.le_of_ble_eq_true rfl) ?_
        exact lw_ret (d0 := s.drawn) (Drawn.sameBut.refl s.drawn lw_cs) hx hb hr hlocks dL_law_1743
      · skip
        have c_9 : ¬ 0 < 4 := fun z => c_9 ((nI_ltI (a := 0) (b := 4) (by omega) (by omega)).mpr z)
        exact absurd c_9 (by decide)
    · skip
      have c_8 : 1 = 0 := (nI_eq (a := 1) (b := 0) (by omega) (by omega)).mp c_8
      exact absurd c_8 (by decide)
  · skip
    have c_7 : ¬ 1 = 1 := fun z => c_7 ((nI_eq (a := 1) (b := 1) (by omega) (by omega)).mpr z)
    exact absurd c_7 (by decide)
set_option maxHeartbeats 4000000 in
set_option maxRecDepth 100000 in
theorem law_cand_2 {p : Program} {e : Env} {s : State} {m : MethodId} {below : List Frame} {meth : Method} {c : Code} (l : Launch) (hst : l.stackTraces = false) {scr : Nat} {xs : Nat → Int32} (C0 : lw_At p s m meth c scr 4 xs) (G : GG) (A : Nat → Prop) (hA : ∀ q : Nat, s.heap.size ≤ q → A q) (hA2 : ∀ q : Nat, A q → s.heap.size ≤ q) (hK : va_K (gD G) vwCl (gT G) s) (hE : EV G A s s.heap) (ho al ts pb sv b mm sr se mo al2 pf ou od : Nat) (f g hh pff : Nat → Int32) (k : Nat) (hk : k < 16) (hv1 : xs 1 = nI k) (H : Heap) (locs : List Loc) (hP : va_P (gD G) vwCl [(ho, .inr (11, [.ref al, .ref sv, .ref ts, .ref pb, .null, .int (nI 0)])), (al, .inr (4, [.int (nI 0), .ref (gE G), .int (nI 0)])), (sv, .inr (10, [.ref b, .ref sr, .ref se, .int (nI 0), .int (nI 0), .int (nI 110)])), (b, .inr (5, [.ref mm])), (mm, .inl (gyI G, 16, .inl f)), (sr, .inl (gyI G, 64, .inl g)), (se, .inl (gyI G, 16, .inl hh)), (mo, .inr (15, [.int (nI 0), .ref al2, .long (lN 0), .null, .ref pf, .int (nI 0)])), (al2, .inr (4, [.int (nI 0), .ref (gE G), .int (nI 0)])), (pf, .inl (gyI G, 16, .inl pff)), (ou, .inl (gyL G, 1, .inr (.inl (fun _ => 0)))), (od, .inl (gyD G, 1, .inr (.inr (.inr (.inl (fun _ => 0))))))] H) (hD : va_D A [(ho, .inr (11, [.ref al, .ref sv, .ref ts, .ref pb, .null, .int (nI 0)])), (al, .inr (4, [.int (nI 0), .ref (gE G), .int (nI 0)])), (sv, .inr (10, [.ref b, .ref sr, .ref se, .int (nI 0), .int (nI 0), .int (nI 110)])), (b, .inr (5, [.ref mm])), (mm, .inl (gyI G, 16, .inl f)), (sr, .inl (gyI G, 64, .inl g)), (se, .inl (gyI G, 16, .inl hh)), (mo, .inr (15, [.int (nI 0), .ref al2, .long (lN 0), .null, .ref pf, .int (nI 0)])), (al2, .inr (4, [.int (nI 0), .ref (gE G), .int (nI 0)])), (pf, .inl (gyI G, 16, .inl pff)), (ou, .inl (gyL G, 1, .inr (.inl (fun _ => 0)))), (od, .inl (gyD G, 1, .inr (.inr (.inr (.inl (fun _ => 0))))))]) (hS : va_S A s.heap H locs) (ls : Array Slot) (hl : lv_has ls 9 [(0, .ref scr), (1, .ref ho), (2, .ref mo), (3, .ref ou), (4, .ref od), (5, .int (nI 0))]) : W p l e room_1 s m #[Value.ref scr] below meth c H locs 17 191 (lw_Z below #[Value.ref scr] s) (F0 m 1211 ls []) := by
  obtain ⟨hx, hb, hr, hml, hown, hts0, hX, hbl, hlocks, hgv⟩ := C0
  have hown : s.vm.findClass "PegboardryLaw" = some m.cls := hown
  have hts : ∀ w ∈ WW, w.before #[Value.ref scr] s = true := fun w hw => hts0 w (List.mem_filter.mp hw).1
  have hbA : ¬ A scr := fun z => Nat.not_le.mpr hbl (hA2 _ z)
  refine lv_aload_n hx hb dL_law_1211 rfl (lv_at hl 1 rfl) ?_
  refine lv_aload_n hx hb dL_law_1212 rfl (lv_at hl 0 rfl) ?_
  refine lv_iload hx hb dL_law_1213 (lv_at hl 5 rfl) ?_
  refine lv_iconst (v := nI 1) hx hb dL_law_1215 (by decide) ?_
  refine lv_iadd hx hb dL_law_1216 ?_
  refine lv_toe (nI_add 0 1) ?_
  refine va_sld hx hb hX hbl hbA hS (vp_in_nI (n := 1) (N := 4) (by omega) (by omega)) dL_law_1217 ?_
  refine lv_toe (show xs (nI (1)).toNatClampNeg = nI k by rw [nI_clamp (by omega)]; exact hv1) ?_
  refine lv_aload_n hx hb dL_law_1218 rfl (lv_at hl 3 rfl) ?_
  refine fin_i hP hD hS hA [0, 1, 10] [2, 3, 4, 5, 6, 7, 8, 9, 11] (wr := [(sv, .inr (10, [.ref b, .ref sr, .ref se, .int (nI 0), .int (nI 0), .int (nI 110)])), (b, .inr (5, [.ref mm])), (mm, .inl (gyI G, 16, .inl f)), (sr, .inl (gyI G, 64, .inl g)), (se, .inl (gyI G, 16, .inl hh)), (mo, .inr (15, [.int (nI 0), .ref al2, .long (lN 0), .null, .ref pf, .int (nI 0)])), (al2, .inr (4, [.int (nI 0), .ref (gE G), .int (nI 0)])), (pf, .inl (gyI G, 16, .inl pff)), (od, .inl (gyD G, 1, .inr (.inr (.inr (.inl (fun _ => 0))))))]) rfl rfl (by decide) (by decide) (vx_runSW (As := [.ref ho, .int (nI k), .ref ou]) (rest := []) ⟨hx, hb, hml, hown, hts⟩ (l_cand_2 l G ho al ts pb (nI 0) sv (nI 0) k ou (fun _ => 0) (by omega) hst H.size) (vx_cwSW 3 hts (gSt q827 q828 q44 q829) rfl rfl rfl (by decide +kernel) ⟨Nat.le_of_ble_eq_true rfl, Nat.le_of_ble_eq_true rfl⟩) (preS hK hE hP hD hS hA [0, 1, 10] rfl (by decide)) rfl rfl hl.1 rfl (lv_room (Nat.le_of_ble_eq_true rfl)) dL_law_1219 ⟨Nat.le_of_ble_eq_true rfl, Nat.le_of_ble_eq_true rfl⟩) (fun r_2 u9 hw_1 H locs hP hD hS => ?_)
  subst hw_1
  have hP : va_P (gD G) vwCl [(sv, .inr (10, [.ref b, .ref sr, .ref se, .int (nI 0), .int (nI 0), .int (nI 110)])), (b, .inr (5, [.ref mm])), (mm, .inl (gyI G, 16, .inl f)), (sr, .inl (gyI G, 64, .inl g)), (se, .inl (gyI G, 16, .inl hh)), (mo, .inr (15, [.int (nI 0), .ref al2, .long (lN 0), .null, .ref pf, .int (nI 0)])), (al2, .inr (4, [.int (nI 0), .ref (gE G), .int (nI 0)])), (pf, .inl (gyI G, 16, .inl pff)), (od, .inl (gyD G, 1, .inr (.inr (.inr (.inl (fun _ => 0)))))), (ho, .inr (11, [.ref al, .ref sv, .ref ts, .ref pb, .null, .int (nI 0)])), (al, .inr (4, [.int (nI 0), .ref (gE G), .int (nI 0)])), (ou, .inl (gyL G, 1, .inr (.inl (fun _ => 0))))] H := hP
  have hD : va_D A [(sv, .inr (10, [.ref b, .ref sr, .ref se, .int (nI 0), .int (nI 0), .int (nI 110)])), (b, .inr (5, [.ref mm])), (mm, .inl (gyI G, 16, .inl f)), (sr, .inl (gyI G, 64, .inl g)), (se, .inl (gyI G, 16, .inl hh)), (mo, .inr (15, [.int (nI 0), .ref al2, .long (lN 0), .null, .ref pf, .int (nI 0)])), (al2, .inr (4, [.int (nI 0), .ref (gE G), .int (nI 0)])), (pf, .inl (gyI G, 16, .inl pff)), (od, .inl (gyD G, 1, .inr (.inr (.inr (.inl (fun _ => 0)))))), (ho, .inr (11, [.ref al, .ref sv, .ref ts, .ref pb, .null, .int (nI 0)])), (al, .inr (4, [.int (nI 0), .ref (gE G), .int (nI 0)])), (ou, .inl (gyL G, 1, .inr (.inl (fun _ => 0))))] := hD
  refine lv_istore (lv' := [(6, .int (nI 2)), (0, .ref scr), (1, .ref ho), (2, .ref mo), (3, .ref ou), (4, .ref od), (5, .int (nI 0))]) hx hb dL_law_1222 hl (by decide) rfl (fun ls hl => ?_)
  refine lv_aload_n hx hb dL_law_1224 rfl (lv_at hl 3 rfl) ?_
  refine lv_aload_n hx hb dL_law_1225 rfl (lv_at hl 1 rfl) ?_
  refine lv_iload hx hb dL_law_1226 (lv_at hl 6 rfl) ?_
  refine lv_iconst (v := nI 1) hx hb dL_law_1228 (by decide) ?_
  refine lv_iadd hx hb dL_law_1229 ?_
  refine lv_toe (nI_add 0 1) ?_
  refine va_sld hx hb hX hbl hbA hS (vp_in_nI (n := 1) (N := 4) (by omega) (by omega)) dL_law_1230 ?_
  refine lv_toe (show xs (nI (1)).toNatClampNeg = nI k by rw [nI_clamp (by omega)]; exact hv1) ?_
  refine fin_i hP hD hS hA [5, 6] [0, 1, 2, 3, 4, 7, 8, 9, 10, 11] (wr := [(sv, .inr (10, [.ref b, .ref sr, .ref se, .int (nI 0), .int (nI 0), .int (nI 110)])), (b, .inr (5, [.ref mm])), (mm, .inl (gyI G, 16, .inl f)), (sr, .inl (gyI G, 64, .inl g)), (se, .inl (gyI G, 16, .inl hh)), (pf, .inl (gyI G, 16, .inl pff)), (od, .inl (gyD G, 1, .inr (.inr (.inr (.inl (fun _ => 0)))))), (ho, .inr (11, [.ref al, .ref sv, .ref ts, .ref pb, .null, .int (nI 0)])), (al, .inr (4, [.int (nI 0), .ref (gE G), .int (nI 0)])), (ou, .inl (gyL G, 1, .inr (.inl (fun _ => 0))))]) rfl rfl (by decide) (by decide) (va_runV (As := [.int (nI k)]) (rest := []) ⟨hx, hb, hml, hown, hts⟩ (c_mcand_2 l G mo (nI 0) al2 0 pf (nI 0) (nI 0) k (by omega) H.size) (cwV 1 hts (gV q1328 q1329 q1330 q52 q1331) rfl rfl rfl (by decide +kernel) ⟨Nat.le_of_ble_eq_true rfl, Nat.le_of_ble_eq_true rfl⟩) (preV (q0 := 5) (ci := 15) hK hE hP hD hS hA [5, 6] rfl (by decide) rfl rfl) rfl rfl hl.1 rfl (lv_room (Nat.le_of_ble_eq_true rfl)) dL_law_1231 ⟨Nat.le_of_ble_eq_true rfl, Nat.le_of_ble_eq_true rfl⟩) (fun r_4 u9 hw_3 H locs hP hD hS => ?_)
  have hP : va_P (gD G) vwCl [(sv, .inr (10, [.ref b, .ref sr, .ref se, .int (nI 0), .int (nI 0), .int (nI 110)])), (b, .inr (5, [.ref mm])), (mm, .inl (gyI G, 16, .inl f)), (sr, .inl (gyI G, 64, .inl g)), (se, .inl (gyI G, 16, .inl hh)), (pf, .inl (gyI G, 16, .inl pff)), (od, .inl (gyD G, 1, .inr (.inr (.inr (.inl (fun _ => 0)))))), (ho, .inr (11, [.ref al, .ref sv, .ref ts, .ref pb, .null, .int (nI 0)])), (al, .inr (4, [.int (nI 0), .ref (gE G), .int (nI 0)])), (ou, .inl (gyL G, 1, .inr (.inl (fun _ => 0)))), (mo, .inr (15, [.int (nI 2), .ref al2, .long (lN 0), .null, .ref pf, .int (nI 0)])), (al2, .inr (4, [.int (nI 0), .ref (gE G), .int (nI 0)]))] H := hP
  have hD : va_D A [(sv, .inr (10, [.ref b, .ref sr, .ref se, .int (nI 0), .int (nI 0), .int (nI 110)])), (b, .inr (5, [.ref mm])), (mm, .inl (gyI G, 16, .inl f)), (sr, .inl (gyI G, 64, .inl g)), (se, .inl (gyI G, 16, .inl hh)), (pf, .inl (gyI G, 16, .inl pff)), (od, .inl (gyD G, 1, .inr (.inr (.inr (.inl (fun _ => 0)))))), (ho, .inr (11, [.ref al, .ref sv, .ref ts, .ref pb, .null, .int (nI 0)])), (al, .inr (4, [.int (nI 0), .ref (gE G), .int (nI 0)])), (ou, .inl (gyL G, 1, .inr (.inl (fun _ => 0)))), (mo, .inr (15, [.int (nI 2), .ref al2, .long (lN 0), .null, .ref pf, .int (nI 0)])), (al2, .inr (4, [.int (nI 0), .ref (gE G), .int (nI 0)]))] := hD
  refine lv_istore (lv' := [(7, .int r_4), (6, .int (nI 2)), (0, .ref scr), (1, .ref ho), (2, .ref mo), (3, .ref ou), (4, .ref od), (5, .int (nI 0))]) hx hb dL_law_1234 hl (by decide) rfl (fun ls hl => ?_)
  refine lv_aload_n hx hb dL_law_1236 rfl (lv_at hl 4 rfl) ?_
  refine fin_i hP hD hS hA [10] [0, 1, 2, 3, 4, 5, 6, 7, 8, 9, 11] (wr := [(sv, .inr (10, [.ref b, .ref sr, .ref se, .int (nI 0), .int (nI 0), .int (nI 110)])), (b, .inr (5, [.ref mm])), (mm, .inl (gyI G, 16, .inl f)), (sr, .inl (gyI G, 64, .inl g)), (se, .inl (gyI G, 16, .inl hh)), (pf, .inl (gyI G, 16, .inl pff)), (od, .inl (gyD G, 1, .inr (.inr (.inr (.inl (fun _ => 0)))))), (ho, .inr (11, [.ref al, .ref sv, .ref ts, .ref pb, .null, .int (nI 0)])), (al, .inr (4, [.int (nI 0), .ref (gE G), .int (nI 0)])), (ou, .inl (gyL G, 1, .inr (.inl (fun _ => 0)))), (al2, .inr (4, [.int (nI 0), .ref (gE G), .int (nI 0)]))]) rfl rfl (by decide) (by decide) (va_runV (As := []) (rest := []) ⟨hx, hb, hml, hown, hts⟩ (c_X10_thrown l G mo 2 al2 0 pf (nI 0) H.size) (cwV 0 hts (gV q946 q947 q948 q52 q949) rfl rfl rfl (by decide +kernel) ⟨Nat.le_of_ble_eq_true rfl, Nat.le_of_ble_eq_true rfl⟩) (preV (q0 := 10) (ci := 15) hK hE hP hD hS hA [10] rfl (by decide) rfl rfl) rfl rfl hl.1 rfl (lv_room (Nat.le_of_ble_eq_true rfl)) dL_law_1237 ⟨Nat.le_of_ble_eq_true rfl, Nat.le_of_ble_eq_true rfl⟩) (fun r_6 u9 hw_5 H locs hP hD hS => ?_)
  subst hw_5
  have hP : va_P (gD G) vwCl [(sv, .inr (10, [.ref b, .ref sr, .ref se, .int (nI 0), .int (nI 0), .int (nI 110)])), (b, .inr (5, [.ref mm])), (mm, .inl (gyI G, 16, .inl f)), (sr, .inl (gyI G, 64, .inl g)), (se, .inl (gyI G, 16, .inl hh)), (pf, .inl (gyI G, 16, .inl pff)), (od, .inl (gyD G, 1, .inr (.inr (.inr (.inl (fun _ => 0)))))), (ho, .inr (11, [.ref al, .ref sv, .ref ts, .ref pb, .null, .int (nI 0)])), (al, .inr (4, [.int (nI 0), .ref (gE G), .int (nI 0)])), (ou, .inl (gyL G, 1, .inr (.inl (fun _ => 0)))), (al2, .inr (4, [.int (nI 0), .ref (gE G), .int (nI 0)])), (mo, .inr (15, [.int (nI 2), .ref al2, .long (lN 0), .null, .ref pf, .int (nI 0)]))] H := hP
  have hD : va_D A [(sv, .inr (10, [.ref b, .ref sr, .ref se, .int (nI 0), .int (nI 0), .int (nI 110)])), (b, .inr (5, [.ref mm])), (mm, .inl (gyI G, 16, .inl f)), (sr, .inl (gyI G, 64, .inl g)), (se, .inl (gyI G, 16, .inl hh)), (pf, .inl (gyI G, 16, .inl pff)), (od, .inl (gyD G, 1, .inr (.inr (.inr (.inl (fun _ => 0)))))), (ho, .inr (11, [.ref al, .ref sv, .ref ts, .ref pb, .null, .int (nI 0)])), (al, .inr (4, [.int (nI 0), .ref (gE G), .int (nI 0)])), (ou, .inl (gyL G, 1, .inr (.inl (fun _ => 0)))), (al2, .inr (4, [.int (nI 0), .ref (gE G), .int (nI 0)])), (mo, .inr (15, [.int (nI 2), .ref al2, .long (lN 0), .null, .ref pf, .int (nI 0)]))] := hD
  refine lv_iload hx hb dL_law_1240 (lv_at hl 1 rfl) ?_
  refine lv_icmp_eq (tgt := 1247) hx hb dL_law_1242 (by decide) (fun c_7 => ?_) (fun c_7 => ?_)
  · skip
    have c_7 : 2 = 2 := (nI_eq (a := 2) (b := 2) (by omega) (by omega)).mp c_7
    refine lv_iload hx hb dL_law_1247 (lv_at hl 1 rfl) ?_
    refine lv_if_ne (tgt := 1264) hx hb dL_law_1249 (by decide) (fun c_8 => ?_) (fun c_8 => ?_)
    · skip
      have c_8 : ¬ 2 = 0 := fun z => c_8 ((nI_eq (a := 2) (b := 0) (by omega) (by omega)).mpr z)
      refine lv_goto (tgt := 1736) hx hb dL_law_1264 (by decide) ?_
      refine lv_iinc (v := nI 4) (lv' := [(5, .int (nI 4)), (7, .int r_4), (6, .int (nI 2)), (0, .ref scr), (1, .ref ho), (2, .ref mo), (3, .ref ou), (4, .ref od)]) hx hb dL_law_1736 hl (k := 7) rfl (nI_add 0 4) (by decide) rfl (fun ls hl => ?_)
      refine lv_goto (tgt := 28) hx hb dL_law_1739 (by decide) ?_
      refine lv_iload hx hb dL_law_28 (lv_at hl 0 rfl) ?_
      refine lv_aload_n hx hb dL_law_30 rfl (lv_at hl 3 rfl) ?_
      refine va_slen hx hb hX hbl hbA hS dL_law_31 ?_
      refine lv_toe (show Int32.ofNat 4 = nI 4 from rfl) ?_
      refine lv_iconst (v := nI 4) hx hb dL_law_32 (by decide) ?_
      refine lv_isub hx hb dL_law_33 ?_
      refine lv_toe (pk_sub (a := 4) (b := 4) (by omega)) ?_
      refine lv_icmp_gt (tgt := 1742) hx hb dL_law_34 (by decide) (fun c_9 => ?_) (fun c_9 => ?_)
      · skip
        have c_9 : 0 < 4 := (nI_ltI (a := 0) (b := 4) (by omega) (by omega)).mp c_9
        refine lv_iconst (v := nI 1) hx hb dL_law_1742 (by decide) ?_
        refine va_forget (fun q hq => hA2 _ (hS.2.2 q hq)) ?_
        refine W.widen (k := 607190) (n := 7280494) (Nat.le_of_ble_eq_true rfl) (Nat.le_of_ble_eq_true rfl) ?_
        exact lw_ret (d0 := s.drawn) (Drawn.sameBut.refl s.drawn lw_cs) hx hb hr hlocks dL_law_1743
      · skip
        have c_9 : ¬ 0 < 4 := fun z => c_9 ((nI_ltI (a := 0) (b := 4) (by omega) (by omega)).mpr z)
        exact absurd c_9 (by decide)
    · skip
      have c_8 : 2 = 0 := (nI_eq (a := 2) (b := 0) (by omega) (by omega)).mp c_8
      exact absurd c_8 (by decide)
  · skip
    have c_7 : ¬ 2 = 2 := fun z => c_7 ((nI_eq (a := 2) (b := 2) (by omega) (by omega)).mpr z)
    exact absurd c_7 (by decide)
