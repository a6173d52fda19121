theorem q352 : (Jvm.Cond.classLink "PegboardryLaw" (13 : Nat) "java/lang/IllegalStateException") ∈ WW := inW 352 (by decide +kernel) rfl
theorem q353 : (Jvm.Cond.methodLink "PegboardryLaw" (7 : Nat) ({ cls := "Pegboardry", name := "puzzle", desc := "()I" } : Jvm.MethodName)) ∈ WW := inW 353 (by decide +kernel) rfl
theorem q354 : (Jvm.Cond.instanceMethod ({ cls := "Pegboardry", name := "puzzle", desc := "()I" } : Jvm.MethodName)) ∈ WW := inW 354 (by decide +kernel) rfl
theorem q355 : (Jvm.Cond.selects "Pegboardry" ({ cls := "Pegboardry", name := "puzzle", desc := "()I" } : Jvm.MethodName) ({ cls := "Pegboardry", name := "puzzle", desc := "()I" } : Jvm.MethodName)) ∈ WW := inW 355 (by decide +kernel) rfl
theorem q356 : (Jvm.Cond.code ({ cls := "Pegboardry", name := "puzzle", desc := "()I" } : Jvm.MethodName) prog_1_method_2_code (1 : Nat) (Option.some Jvm.ClassFile.FieldType.int)) ∈ WW := inW 356 (by decide +kernel) rfl
theorem nq359 : (Jvm.Cond.castable "java/lang/IllegalStateException" "java/lang/IllegalStateException") ∈ NWs := inN 359 (by decide +kernel) rfl
theorem q537 : (Jvm.Cond.classLink "PegboardryLaw" (19 : Nat) "java/lang/IndexOutOfBoundsException") ∈ WW := inW 537 (by decide +kernel) rfl
theorem q561 : (Jvm.Cond.classLink "PegboardryLaw" (21 : Nat) "java/lang/IllegalArgumentException") ∈ WW := inW 561 (by decide +kernel) rfl
theorem q562 : (Jvm.Cond.methodLink "PegboardryLaw" (15 : Nat) ({ cls := "Pegboardry", name := "give", desc := "(III)I" } : Jvm.MethodName)) ∈ WW := inW 562 (by decide +kernel) rfl
theorem q563 : (Jvm.Cond.instanceMethod ({ cls := "Pegboardry", name := "give", desc := "(III)I" } : Jvm.MethodName)) ∈ WW := inW 563 (by decide +kernel) rfl
theorem q564 : (Jvm.Cond.selects "Pegboardry" ({ cls := "Pegboardry", name := "give", desc := "(III)I" } : Jvm.MethodName) ({ cls := "Pegboardry", name := "give", desc := "(III)I" } : Jvm.MethodName)) ∈ WW := inW 564 (by decide +kernel) rfl
theorem q565 : (Jvm.Cond.code ({ cls := "Pegboardry", name := "give", desc := "(III)I" } : Jvm.MethodName) prog_1_method_3_code (6 : Nat) (Option.some Jvm.ClassFile.FieldType.int)) ∈ WW := inW 565 (by decide +kernel) rfl
theorem nq572 : (Jvm.Cond.castable "java/lang/IndexOutOfBoundsException" "java/lang/IndexOutOfBoundsException") ∈ NWs := inN 572 (by decide +kernel) rfl
theorem nq592 : (Jvm.Cond.castable "java/lang/IllegalArgumentException" "java/lang/IllegalArgumentException") ∈ NWs := inN 592 (by decide +kernel) rfl
theorem q614 : (Jvm.Cond.methodLink "PegboardryLaw" (23 : Nat) ({ cls := "Pegboardry", name := "addCage", desc := "(III)I" } : Jvm.MethodName)) ∈ WW := inW 614 (by decide +kernel) rfl
theorem q615 : (Jvm.Cond.instanceMethod ({ cls := "Pegboardry", name := "addCage", desc := "(III)I" } : Jvm.MethodName)) ∈ WW := inW 615 (by decide +kernel) rfl
theorem q616 : (Jvm.Cond.selects "Pegboardry" ({ cls := "Pegboardry", name := "addCage", desc := "(III)I" } : Jvm.MethodName) ({ cls := "Pegboardry", name := "addCage", desc := "(III)I" } : Jvm.MethodName)) ∈ WW := inW 616 (by decide +kernel) rfl
theorem q617 : (Jvm.Cond.code ({ cls := "Pegboardry", name := "addCage", desc := "(III)I" } : Jvm.MethodName) prog_1_method_4_code (5 : Nat) (Option.some Jvm.ClassFile.FieldType.int)) ∈ WW := inW 617 (by decide +kernel) rfl
theorem q660 : (Jvm.Cond.methodLink "PegboardryLaw" (28 : Nat) ({ cls := "Pegboardry", name := "make", desc := "(II)I" } : Jvm.MethodName)) ∈ WW := inW 660 (by decide +kernel) rfl
theorem q661 : (Jvm.Cond.instanceMethod ({ cls := "Pegboardry", name := "make", desc := "(II)I" } : Jvm.MethodName)) ∈ WW := inW 661 (by decide +kernel) rfl
theorem q662 : (Jvm.Cond.selects "Pegboardry" ({ cls := "Pegboardry", name := "make", desc := "(II)I" } : Jvm.MethodName) ({ cls := "Pegboardry", name := "make", desc := "(II)I" } : Jvm.MethodName)) ∈ WW := inW 662 (by decide +kernel) rfl
theorem q663 : (Jvm.Cond.code ({ cls := "Pegboardry", name := "make", desc := "(II)I" } : Jvm.MethodName) prog_1_method_5_code (5 : Nat) (Option.some Jvm.ClassFile.FieldType.int)) ∈ WW := inW 663 (by decide +kernel) rfl
theorem q699 : (Jvm.Cond.methodLink "PegboardryLaw" (32 : Nat) ({ cls := "Pegboardry", name := "given", desc := "(II)I" } : Jvm.MethodName)) ∈ WW := inW 699 (by decide +kernel) rfl
theorem q700 : (Jvm.Cond.instanceMethod ({ cls := "Pegboardry", name := "given", desc := "(II)I" } : Jvm.MethodName)) ∈ WW := inW 700 (by decide +kernel) rfl
theorem q701 : (Jvm.Cond.selects "Pegboardry" ({ cls := "Pegboardry", name := "given", desc := "(II)I" } : Jvm.MethodName) ({ cls := "Pegboardry", name := "given", desc := "(II)I" } : Jvm.MethodName)) ∈ WW := inW 701 (by decide +kernel) rfl
theorem q702 : (Jvm.Cond.code ({ cls := "Pegboardry", name := "given", desc := "(II)I" } : Jvm.MethodName) prog_1_method_6_code (4 : Nat) (Option.some Jvm.ClassFile.FieldType.int)) ∈ WW := inW 702 (by decide +kernel) rfl
theorem q706 : (Jvm.Cond.methodLink "PegboardryLaw" (35 : Nat) ({ cls := "Pegboardry", name := "givens", desc := "(I)I" } : Jvm.MethodName)) ∈ WW := inW 706 (by decide +kernel) rfl
theorem q707 : (Jvm.Cond.instanceMethod ({ cls := "Pegboardry", name := "givens", desc := "(I)I" } : Jvm.MethodName)) ∈ WW := inW 707 (by decide +kernel) rfl
theorem q708 : (Jvm.Cond.selects "Pegboardry" ({ cls := "Pegboardry", name := "givens", desc := "(I)I" } : Jvm.MethodName) ({ cls := "Pegboardry", name := "givens", desc := "(I)I" } : Jvm.MethodName)) ∈ WW := inW 708 (by decide +kernel) rfl
theorem q709 : (Jvm.Cond.code ({ cls := "Pegboardry", name := "givens", desc := "(I)I" } : Jvm.MethodName) prog_1_method_7_code (2 : Nat) (Option.some Jvm.ClassFile.FieldType.int)) ∈ WW := inW 709 (by decide +kernel) rfl
theorem q717 : (Jvm.Cond.methodLink "PegboardryLaw" (39 : Nat) ({ cls := "Pegboardry", name := "solutions", desc := "(I)I" } : Jvm.MethodName)) ∈ WW := inW 717 (by decide +kernel) rfl
theorem q718 : (Jvm.Cond.instanceMethod ({ cls := "Pegboardry", name := "solutions", desc := "(I)I" } : Jvm.MethodName)) ∈ WW := inW 718 (by decide +kernel) rfl
theorem q719 : (Jvm.Cond.selects "Pegboardry" ({ cls := "Pegboardry", name := "solutions", desc := "(I)I" } : Jvm.MethodName) ({ cls := "Pegboardry", name := "solutions", desc := "(I)I" } : Jvm.MethodName)) ∈ WW := inW 719 (by decide +kernel) rfl
theorem q720 : (Jvm.Cond.code ({ cls := "Pegboardry", name := "solutions", desc := "(I)I" } : Jvm.MethodName) prog_1_method_8_code (2 : Nat) (Option.some Jvm.ClassFile.FieldType.int)) ∈ WW := inW 720 (by decide +kernel) rfl
theorem q725 : (Jvm.Cond.methodLink "PegboardryLaw" (42 : Nat) ({ cls := "Pegboardry", name := "solution", desc := "(II)I" } : Jvm.MethodName)) ∈ WW := inW 725 (by decide +kernel) rfl
theorem q726 : (Jvm.Cond.instanceMethod ({ cls := "Pegboardry", name := "solution", desc := "(II)I" } : Jvm.MethodName)) ∈ WW := inW 726 (by decide +kernel) rfl
theorem q727 : (Jvm.Cond.selects "Pegboardry" ({ cls := "Pegboardry", name := "solution", desc := "(II)I" } : Jvm.MethodName) ({ cls := "Pegboardry", name := "solution", desc := "(II)I" } : Jvm.MethodName)) ∈ WW := inW 727 (by decide +kernel) rfl
theorem q728 : (Jvm.Cond.code ({ cls := "Pegboardry", name := "solution", desc := "(II)I" } : Jvm.MethodName) prog_1_method_9_code (5 : Nat) (Option.some Jvm.ClassFile.FieldType.int)) ∈ WW := inW 728 (by decide +kernel) rfl
theorem q748 : (Jvm.Cond.methodLink "PegboardryLaw" (47 : Nat) ({ cls := "Pegboardry", name := "solve", desc := "(I)C" } : Jvm.MethodName)) ∈ WW := inW 748 (by decide +kernel) rfl
theorem q749 : (Jvm.Cond.instanceMethod ({ cls := "Pegboardry", name := "solve", desc := "(I)C" } : Jvm.MethodName)) ∈ WW := inW 749 (by decide +kernel) rfl
theorem q750 : (Jvm.Cond.selects "Pegboardry" ({ cls := "Pegboardry", name := "solve", desc := "(I)C" } : Jvm.MethodName) ({ cls := "Pegboardry", name := "solve", desc := "(I)C" } : Jvm.MethodName)) ∈ WW := inW 750 (by decide +kernel) rfl
theorem q751 : (Jvm.Cond.code ({ cls := "Pegboardry", name := "solve", desc := "(I)C" } : Jvm.MethodName) prog_1_method_10_code (2 : Nat) (Option.some Jvm.ClassFile.FieldType.char)) ∈ WW := inW 751 (by decide +kernel) rfl
theorem q755 : (Jvm.Cond.methodLink "PegboardryLaw" (51 : Nat) ({ cls := "Pegboardry", name := "steps", desc := "(I)I" } : Jvm.MethodName)) ∈ WW := inW 755 (by decide +kernel) rfl
theorem q756 : (Jvm.Cond.instanceMethod ({ cls := "Pegboardry", name := "steps", desc := "(I)I" } : Jvm.MethodName)) ∈ WW := inW 756 (by decide +kernel) rfl
theorem q757 : (Jvm.Cond.selects "Pegboardry" ({ cls := "Pegboardry", name := "steps", desc := "(I)I" } : Jvm.MethodName) ({ cls := "Pegboardry", name := "steps", desc := "(I)I" } : Jvm.MethodName)) ∈ WW := inW 757 (by decide +kernel) rfl
theorem q758 : (Jvm.Cond.code ({ cls := "Pegboardry", name := "steps", desc := "(I)I" } : Jvm.MethodName) prog_1_method_11_code (2 : Nat) (Option.some Jvm.ClassFile.FieldType.int)) ∈ WW := inW 758 (by decide +kernel) rfl
theorem q762 : (Jvm.Cond.methodLink "PegboardryLaw" (54 : Nat) ({ cls := "Pegboardry", name := "stepAt", desc := "(II)I" } : Jvm.MethodName)) ∈ WW := inW 762 (by decide +kernel) rfl
theorem q763 : (Jvm.Cond.instanceMethod ({ cls := "Pegboardry", name := "stepAt", desc := "(II)I" } : Jvm.MethodName)) ∈ WW := inW 763 (by decide +kernel) rfl
theorem q764 : (Jvm.Cond.selects "Pegboardry" ({ cls := "Pegboardry", name := "stepAt", desc := "(II)I" } : Jvm.MethodName) ({ cls := "Pegboardry", name := "stepAt", desc := "(II)I" } : Jvm.MethodName)) ∈ WW := inW 764 (by decide +kernel) rfl
theorem q765 : (Jvm.Cond.code ({ cls := "Pegboardry", name := "stepAt", desc := "(II)I" } : Jvm.MethodName) prog_1_method_12_code (4 : Nat) (Option.some Jvm.ClassFile.FieldType.int)) ∈ WW := inW 765 (by decide +kernel) rfl
theorem q770 : (Jvm.Cond.methodLink "PegboardryLaw" (57 : Nat) ({ cls := "Pegboardry", name := "grade", desc := "(I)I" } : Jvm.MethodName)) ∈ WW := inW 770 (by decide +kernel) rfl
theorem q771 : (Jvm.Cond.instanceMethod ({ cls := "Pegboardry", name := "grade", desc := "(I)I" } : Jvm.MethodName)) ∈ WW := inW 771 (by decide +kernel) rfl
theorem q772 : (Jvm.Cond.selects "Pegboardry" ({ cls := "Pegboardry", name := "grade", desc := "(I)I" } : Jvm.MethodName) ({ cls := "Pegboardry", name := "grade", desc := "(I)I" } : Jvm.MethodName)) ∈ WW := inW 772 (by decide +kernel) rfl
theorem q773 : (Jvm.Cond.code ({ cls := "Pegboardry", name := "grade", desc := "(I)I" } : Jvm.MethodName) prog_1_method_13_code (3 : Nat) (Option.some Jvm.ClassFile.FieldType.int)) ∈ WW := inW 773 (by decide +kernel) rfl
theorem q782 : (Jvm.Cond.methodLink "PegboardryLaw" (60 : Nat) ({ cls := "Pegboardry", name := "isMinimal", desc := "(I)Z" } : Jvm.MethodName)) ∈ WW := inW 782 (by decide +kernel) rfl
theorem q783 : (Jvm.Cond.instanceMethod ({ cls := "Pegboardry", name := "isMinimal", desc := "(I)Z" } : Jvm.MethodName)) ∈ WW := inW 783 (by decide +kernel) rfl
theorem q784 : (Jvm.Cond.selects "Pegboardry" ({ cls := "Pegboardry", name := "isMinimal", desc := "(I)Z" } : Jvm.MethodName) ({ cls := "Pegboardry", name := "isMinimal", desc := "(I)Z" } : Jvm.MethodName)) ∈ WW := inW 784 (by decide +kernel) rfl
theorem q785 : (Jvm.Cond.code ({ cls := "Pegboardry", name := "isMinimal", desc := "(I)Z" } : Jvm.MethodName) prog_1_method_14_code (4 : Nat) (Option.some Jvm.ClassFile.FieldType.boolean)) ∈ WW := inW 785 (by decide +kernel) rfl
theorem q790 : (Jvm.Cond.methodLink "PegboardryLaw" (64 : Nat) ({ cls := "Pegboardry", name := "areAlike", desc := "(II)Z" } : Jvm.MethodName)) ∈ WW := inW 790 (by decide +kernel) rfl
theorem q791 : (Jvm.Cond.instanceMethod ({ cls := "Pegboardry", name := "areAlike", desc := "(II)Z" } : Jvm.MethodName)) ∈ WW := inW 791 (by decide +kernel) rfl
theorem q792 : (Jvm.Cond.selects "Pegboardry" ({ cls := "Pegboardry", name := "areAlike", desc := "(II)Z" } : Jvm.MethodName) ({ cls := "Pegboardry", name := "areAlike", desc := "(II)Z" } : Jvm.MethodName)) ∈ WW := inW 792 (by decide +kernel) rfl
theorem q793 : (Jvm.Cond.code ({ cls := "Pegboardry", name := "areAlike", desc := "(II)Z" } : Jvm.MethodName) prog_1_method_15_code (6 : Nat) (Option.some Jvm.ClassFile.FieldType.boolean)) ∈ WW := inW 793 (by decide +kernel) rfl
theorem q804 : (Jvm.Cond.methodLink "PegboardryLaw" (68 : Nat) ({ cls := "Pegboardry", name := "begin", desc := "(I)I" } : Jvm.MethodName)) ∈ WW := inW 804 (by decide +kernel) rfl
theorem q805 : (Jvm.Cond.instanceMethod ({ cls := "Pegboardry", name := "begin", desc := "(I)I" } : Jvm.MethodName)) ∈ WW := inW 805 (by decide +kernel) rfl
theorem q806 : (Jvm.Cond.selects "Pegboardry" ({ cls := "Pegboardry", name := "begin", desc := "(I)I" } : Jvm.MethodName) ({ cls := "Pegboardry", name := "begin", desc := "(I)I" } : Jvm.MethodName)) ∈ WW := inW 806 (by decide +kernel) rfl
theorem q807 : (Jvm.Cond.code ({ cls := "Pegboardry", name := "begin", desc := "(I)I" } : Jvm.MethodName) prog_1_method_16_code (2 : Nat) (Option.some Jvm.ClassFile.FieldType.int)) ∈ WW := inW 807 (by decide +kernel) rfl
theorem q816 : (Jvm.Cond.methodLink "PegboardryLaw" (71 : Nat) ({ cls := "Pegboardry", name := "tell", desc := "(III)I" } : Jvm.MethodName)) ∈ WW := inW 816 (by decide +kernel) rfl
theorem q817 : (Jvm.Cond.instanceMethod ({ cls := "Pegboardry", name := "tell", desc := "(III)I" } : Jvm.MethodName)) ∈ WW := inW 817 (by decide +kernel) rfl
theorem q818 : (Jvm.Cond.selects "Pegboardry" ({ cls := "Pegboardry", name := "tell", desc := "(III)I" } : Jvm.MethodName) ({ cls := "Pegboardry", name := "tell", desc := "(III)I" } : Jvm.MethodName)) ∈ WW := inW 818 (by decide +kernel) rfl
theorem q819 : (Jvm.Cond.code ({ cls := "Pegboardry", name := "tell", desc := "(III)I" } : Jvm.MethodName) prog_1_method_17_code (4 : Nat) (Option.some Jvm.ClassFile.FieldType.int)) ∈ WW := inW 819 (by decide +kernel) rfl
theorem q830 : (Jvm.Cond.methodLink "PegboardryLaw" (74 : Nat) ({ cls := "Pegboardry", name := "candidates", desc := "(I)I" } : Jvm.MethodName)) ∈ WW := inW 830 (by decide +kernel) rfl
theorem q831 : (Jvm.Cond.instanceMethod ({ cls := "Pegboardry", name := "candidates", desc := "(I)I" } : Jvm.MethodName)) ∈ WW := inW 831 (by decide +kernel) rfl
theorem q832 : (Jvm.Cond.selects "Pegboardry" ({ cls := "Pegboardry", name := "candidates", desc := "(I)I" } : Jvm.MethodName) ({ cls := "Pegboardry", name := "candidates", desc := "(I)I" } : Jvm.MethodName)) ∈ WW := inW 832 (by decide +kernel) rfl
theorem q833 : (Jvm.Cond.code ({ cls := "Pegboardry", name := "candidates", desc := "(I)I" } : Jvm.MethodName) prog_1_method_19_code (2 : Nat) (Option.some Jvm.ClassFile.FieldType.int)) ∈ WW := inW 833 (by decide +kernel) rfl
theorem q841 : (Jvm.Cond.methodLink "PegboardryLaw" (77 : Nat) ({ cls := "Pegboardry", name := "isWhole", desc := "()Z" } : Jvm.MethodName)) ∈ WW := inW 841 (by decide +kernel) rfl
theorem q842 : (Jvm.Cond.instanceMethod ({ cls := "Pegboardry", name := "isWhole", desc := "()Z" } : Jvm.MethodName)) ∈ WW := inW 842 (by decide +kernel) rfl
theorem q843 : (Jvm.Cond.selects "Pegboardry" ({ cls := "Pegboardry", name := "isWhole", desc := "()Z" } : Jvm.MethodName) ({ cls := "Pegboardry", name := "isWhole", desc := "()Z" } : Jvm.MethodName)) ∈ WW := inW 843 (by decide +kernel) rfl
theorem q844 : (Jvm.Cond.code ({ cls := "Pegboardry", name := "isWhole", desc := "()Z" } : Jvm.MethodName) prog_1_method_20_code (1 : Nat) (Option.some Jvm.ClassFile.FieldType.boolean)) ∈ WW := inW 844 (by decide +kernel) rfl
theorem q849 : (Jvm.Cond.methodLink "PegboardryLaw" (81 : Nat) ({ cls := "Pegboardry", name := "mark", desc := "(III)I" } : Jvm.MethodName)) ∈ WW := inW 849 (by decide +kernel) rfl
theorem q850 : (Jvm.Cond.instanceMethod ({ cls := "Pegboardry", name := "mark", desc := "(III)I" } : Jvm.MethodName)) ∈ WW := inW 850 (by decide +kernel) rfl
theorem q851 : (Jvm.Cond.selects "Pegboardry" ({ cls := "Pegboardry", name := "mark", desc := "(III)I" } : Jvm.MethodName) ({ cls := "Pegboardry", name := "mark", desc := "(III)I" } : Jvm.MethodName)) ∈ WW := inW 851 (by decide +kernel) rfl
theorem q852 : (Jvm.Cond.code ({ cls := "Pegboardry", name := "mark", desc := "(III)I" } : Jvm.MethodName) prog_1_method_21_code (6 : Nat) (Option.some Jvm.ClassFile.FieldType.int)) ∈ WW := inW 852 (by decide +kernel) rfl
theorem q856 : (Jvm.Cond.methodLink "PegboardryLaw" (84 : Nat) ({ cls := "Pegboardry", name := "marked", desc := "(II)I" } : Jvm.MethodName)) ∈ WW := inW 856 (by decide +kernel) rfl
theorem q857 : (Jvm.Cond.instanceMethod ({ cls := "Pegboardry", name := "marked", desc := "(II)I" } : Jvm.MethodName)) ∈ WW := inW 857 (by decide +kernel) rfl
theorem q858 : (Jvm.Cond.selects "Pegboardry" ({ cls := "Pegboardry", name := "marked", desc := "(II)I" } : Jvm.MethodName) ({ cls := "Pegboardry", name := "marked", desc := "(II)I" } : Jvm.MethodName)) ∈ WW := inW 858 (by decide +kernel) rfl
theorem q859 : (Jvm.Cond.code ({ cls := "Pegboardry", name := "marked", desc := "(II)I" } : Jvm.MethodName) prog_1_method_22_code (4 : Nat) (Option.some Jvm.ClassFile.FieldType.int)) ∈ WW := inW 859 (by decide +kernel) rfl
theorem q863 : (Jvm.Cond.methodLink "PegboardryLaw" (87 : Nat) ({ cls := "Pegboardry", name := "wrong", desc := "(I)I" } : Jvm.MethodName)) ∈ WW := inW 863 (by decide +kernel) rfl
theorem q864 : (Jvm.Cond.instanceMethod ({ cls := "Pegboardry", name := "wrong", desc := "(I)I" } : Jvm.MethodName)) ∈ WW := inW 864 (by decide +kernel) rfl
theorem q865 : (Jvm.Cond.selects "Pegboardry" ({ cls := "Pegboardry", name := "wrong", desc := "(I)I" } : Jvm.MethodName) ({ cls := "Pegboardry", name := "wrong", desc := "(I)I" } : Jvm.MethodName)) ∈ WW := inW 865 (by decide +kernel) rfl
theorem q866 : (Jvm.Cond.code ({ cls := "Pegboardry", name := "wrong", desc := "(I)I" } : Jvm.MethodName) prog_1_method_23_code (3 : Nat) (Option.some Jvm.ClassFile.FieldType.int)) ∈ WW := inW 866 (by decide +kernel) rfl
theorem q874 : (Jvm.Cond.methodLink "PegboardryLaw" (90 : Nat) ({ cls := "Pegboardry", name := "hint", desc := "(I)I" } : Jvm.MethodName)) ∈ WW := inW 874 (by decide +kernel) rfl
theorem q875 : (Jvm.Cond.instanceMethod ({ cls := "Pegboardry", name := "hint", desc := "(I)I" } : Jvm.MethodName)) ∈ WW := inW 875 (by decide +kernel) rfl
theorem q876 : (Jvm.Cond.selects "Pegboardry" ({ cls := "Pegboardry", name := "hint", desc := "(I)I" } : Jvm.MethodName) ({ cls := "Pegboardry", name := "hint", desc := "(I)I" } : Jvm.MethodName)) ∈ WW := inW 876 (by decide +kernel) rfl
theorem q877 : (Jvm.Cond.code ({ cls := "Pegboardry", name := "hint", desc := "(I)I" } : Jvm.MethodName) prog_1_method_24_code (6 : Nat) (Option.some Jvm.ClassFile.FieldType.int)) ∈ WW := inW 877 (by decide +kernel) rfl
theorem q891 : (Jvm.Cond.classLink "PegboardryLaw" (97 : Nat) "java/lang/ArithmeticException") ∈ WW := inW 891 (by decide +kernel) rfl
theorem nq903 : (Jvm.Cond.castable "java/lang/ArithmeticException" "java/lang/ArithmeticException") ∈ NWs := inN 903 (by decide +kernel) rfl
theorem q905 : (Jvm.Cond.methodLink "PegboardryLaw" (93 : Nat) ({ cls := "Pegboardry", name := "solvedShare", desc := "()F" } : Jvm.MethodName)) ∈ WW := inW 905 (by decide +kernel) rfl
theorem q906 : (Jvm.Cond.instanceMethod ({ cls := "Pegboardry", name := "solvedShare", desc := "()F" } : Jvm.MethodName)) ∈ WW := inW 906 (by decide +kernel) rfl
theorem q907 : (Jvm.Cond.selects "Pegboardry" ({ cls := "Pegboardry", name := "solvedShare", desc := "()F" } : Jvm.MethodName) ({ cls := "Pegboardry", name := "solvedShare", desc := "()F" } : Jvm.MethodName)) ∈ WW := inW 907 (by decide +kernel) rfl
theorem q908 : (Jvm.Cond.code ({ cls := "Pegboardry", name := "solvedShare", desc := "()F" } : Jvm.MethodName) prog_1_method_26_code (4 : Nat) (Option.some Jvm.ClassFile.FieldType.float)) ∈ WW := inW 908 (by decide +kernel) rfl
theorem q915 : (Jvm.Cond.methodLink "PegboardryLaw" (99 : Nat) ({ cls := "Pegboardry", name := "meanGivens", desc := "()D" } : Jvm.MethodName)) ∈ WW := inW 915 (by decide +kernel) rfl
theorem q916 : (Jvm.Cond.instanceMethod ({ cls := "Pegboardry", name := "meanGivens", desc := "()D" } : Jvm.MethodName)) ∈ WW := inW 916 (by decide +kernel) rfl
theorem q917 : (Jvm.Cond.selects "Pegboardry" ({ cls := "Pegboardry", name := "meanGivens", desc := "()D" } : Jvm.MethodName) ({ cls := "Pegboardry", name := "meanGivens", desc := "()D" } : Jvm.MethodName)) ∈ WW := inW 917 (by decide +kernel) rfl
theorem q918 : (Jvm.Cond.code ({ cls := "Pegboardry", name := "meanGivens", desc := "()D" } : Jvm.MethodName) prog_1_method_27_code (4 : Nat) (Option.some Jvm.ClassFile.FieldType.double)) ∈ WW := inW 918 (by decide +kernel) rfl
theorem dL_give_0 : decode cL_give 0 = .ok (.aload 4, 2) := by decide +kernel
theorem dL_give_2 : decode cL_give 2 = .ok (.iconst 0, 1) := by decide +kernel
theorem dL_give_3 : decode cL_give 3 = .ok (.aload_n 0, 1) := by decide +kernel
theorem dL_give_4 : decode cL_give 4 = .ok (.iload_n 1, 1) := by decide +kernel
theorem dL_give_5 : decode cL_give 5 = .ok (.iload_n 2, 1) := by decide +kernel
theorem dL_give_6 : decode cL_give 6 = .ok (.iload_n 3, 1) := by decide +kernel
theorem dL_give_7 : decode cL_give 7 = .ok (.invokevirtual 15, 3) := by decide +kernel
theorem dL_give_15 : decode cL_give 15 = .ok (.astore 5, 2) := by decide +kernel
theorem dL_give_17 : decode cL_give 17 = .ok (.iconst 1, 1) := by decide +kernel
theorem dL_give_18 : decode cL_give 18 = .ok (.ireturn, 1) := by decide +kernel
theorem dL_addCage_0 : decode cL_addCage 0 = .ok (.aload 4, 2) := by decide +kernel
theorem dL_addCage_2 : decode cL_addCage 2 = .ok (.iconst 0, 1) := by decide +kernel
theorem dL_addCage_3 : decode cL_addCage 3 = .ok (.aload_n 0, 1) := by decide +kernel
theorem dL_addCage_4 : decode cL_addCage 4 = .ok (.iload_n 1, 1) := by decide +kernel
theorem dL_addCage_5 : decode cL_addCage 5 = .ok (.iload_n 2, 1) := by decide +kernel
theorem dL_addCage_6 : decode cL_addCage 6 = .ok (.iload_n 3, 1) := by decide +kernel
theorem dL_addCage_7 : decode cL_addCage 7 = .ok (.invokevirtual 23, 3) := by decide +kernel
theorem dL_addCage_15 : decode cL_addCage 15 = .ok (.astore 5, 2) := by decide +kernel
theorem dL_addCage_17 : decode cL_addCage 17 = .ok (.iconst 1, 1) := by decide +kernel
theorem dL_addCage_18 : decode cL_addCage 18 = .ok (.ireturn, 1) := by decide +kernel
theorem dL_given_0 : decode cL_given 0 = .ok (.aload_n 3, 1) := by decide +kernel
theorem dL_given_1 : decode cL_given 1 = .ok (.iconst 0, 1) := by decide +kernel
theorem dL_given_2 : decode cL_given 2 = .ok (.aload_n 0, 1) := by decide +kernel
theorem dL_given_3 : decode cL_given 3 = .ok (.iload_n 1, 1) := by decide +kernel
theorem dL_given_4 : decode cL_given 4 = .ok (.iload_n 2, 1) := by decide +kernel
theorem dL_given_5 : decode cL_given 5 = .ok (.invokevirtual 32, 3) := by decide +kernel
theorem dL_given_13 : decode cL_given 13 = .ok (.astore 4, 2) := by decide +kernel
theorem dL_given_15 : decode cL_given 15 = .ok (.iconst 1, 1) := by decide +kernel
theorem dL_given_16 : decode cL_given 16 = .ok (.ireturn, 1) := by decide +kernel
theorem dL_givens_0 : decode cL_givens 0 = .ok (.aload_n 2, 1) := by decide +kernel
theorem dL_givens_1 : decode cL_givens 1 = .ok (.iconst 0, 1) := by decide +kernel
theorem dL_givens_2 : decode cL_givens 2 = .ok (.aload_n 0, 1) := by decide +kernel
theorem dL_givens_3 : decode cL_givens 3 = .ok (.iload_n 1, 1) := by decide +kernel
theorem dL_givens_4 : decode cL_givens 4 = .ok (.invokevirtual 35, 3) := by decide +kernel
theorem dL_givens_12 : decode cL_givens 12 = .ok (.astore_n 3, 1) := by decide +kernel
theorem dL_givens_13 : decode cL_givens 13 = .ok (.iconst 1, 1) := by decide +kernel
theorem dL_givens_14 : decode cL_givens 14 = .ok (.ireturn, 1) := by decide +kernel
theorem dL_solutions_0 : decode cL_solutions 0 = .ok (.aload_n 2, 1) := by decide +kernel
theorem dL_solutions_1 : decode cL_solutions 1 = .ok (.iconst 0, 1) := by decide +kernel
theorem dL_solutions_2 : decode cL_solutions 2 = .ok (.aload_n 0, 1) := by decide +kernel
theorem dL_solutions_3 : decode cL_solutions 3 = .ok (.iload_n 1, 1) := by decide +kernel
theorem dL_solutions_4 : decode cL_solutions 4 = .ok (.invokevirtual 39, 3) := by decide +kernel
theorem dL_solutions_12 : decode cL_solutions 12 = .ok (.astore_n 3, 1) := by decide +kernel
theorem dL_solutions_13 : decode cL_solutions 13 = .ok (.iconst 1, 1) := by decide +kernel
theorem dL_solutions_14 : decode cL_solutions 14 = .ok (.ireturn, 1) := by decide +kernel
theorem dL_solution_0 : decode cL_solution 0 = .ok (.aload_n 3, 1) := by decide +kernel
theorem dL_solution_1 : decode cL_solution 1 = .ok (.iconst 0, 1) := by decide +kernel
theorem dL_solution_2 : decode cL_solution 2 = .ok (.aload_n 0, 1) := by decide +kernel
theorem dL_solution_3 : decode cL_solution 3 = .ok (.iload_n 1, 1) := by decide +kernel
theorem dL_solution_4 : decode cL_solution 4 = .ok (.iload_n 2, 1) := by decide +kernel
theorem dL_solution_5 : decode cL_solution 5 = .ok (.invokevirtual 42, 3) := by decide +kernel
theorem dL_solution_13 : decode cL_solution 13 = .ok (.astore 4, 2) := by decide +kernel
theorem dL_solution_15 : decode cL_solution 15 = .ok (.iconst 1, 1) := by decide +kernel
theorem dL_solution_16 : decode cL_solution 16 = .ok (.ireturn, 1) := by decide +kernel
theorem dL_solve_0 : decode cL_solve 0 = .ok (.aload_n 2, 1) := by decide +kernel
theorem dL_solve_1 : decode cL_solve 1 = .ok (.iconst 0, 1) := by decide +kernel
theorem dL_solve_2 : decode cL_solve 2 = .ok (.aload_n 0, 1) := by decide +kernel
theorem dL_solve_3 : decode cL_solve 3 = .ok (.iload_n 1, 1) := by decide +kernel
theorem dL_solve_4 : decode cL_solve 4 = .ok (.invokevirtual 47, 3) := by decide +kernel
theorem dL_solve_12 : decode cL_solve 12 = .ok (.astore_n 3, 1) := by decide +kernel
theorem dL_solve_13 : decode cL_solve 13 = .ok (.iconst 1, 1) := by decide +kernel
theorem dL_solve_14 : decode cL_solve 14 = .ok (.ireturn, 1) := by decide +kernel
theorem dL_steps_0 : decode cL_steps 0 = .ok (.aload_n 2, 1) := by decide +kernel
theorem dL_steps_1 : decode cL_steps 1 = .ok (.iconst 0, 1) := by decide +kernel
theorem dL_steps_2 : decode cL_steps 2 = .ok (.aload_n 0, 1) := by decide +kernel
theorem dL_steps_3 : decode cL_steps 3 = .ok (.iload_n 1, 1) := by decide +kernel
theorem dL_steps_4 : decode cL_steps 4 = .ok (.invokevirtual 51, 3) := by decide +kernel
theorem dL_steps_12 : decode cL_steps 12 = .ok (.astore_n 3, 1) := by decide +kernel
theorem dL_steps_13 : decode cL_steps 13 = .ok (.iconst 1, 1) := by decide +kernel
theorem dL_steps_14 : decode cL_steps 14 = .ok (.ireturn, 1) := by decide +kernel
theorem dL_stepAt_0 : decode cL_stepAt 0 = .ok (.aload_n 3, 1) := by decide +kernel
theorem dL_stepAt_1 : decode cL_stepAt 1 = .ok (.iconst 0, 1) := by decide +kernel
theorem dL_stepAt_2 : decode cL_stepAt 2 = .ok (.aload_n 0, 1) := by decide +kernel
theorem dL_stepAt_3 : decode cL_stepAt 3 = .ok (.iload_n 1, 1) := by decide +kernel
theorem dL_stepAt_4 : decode cL_stepAt 4 = .ok (.iload_n 2, 1) := by decide +kernel
theorem dL_stepAt_5 : decode cL_stepAt 5 = .ok (.invokevirtual 54, 3) := by decide +kernel
theorem dL_stepAt_13 : decode cL_stepAt 13 = .ok (.astore 4, 2) := by decide +kernel
theorem dL_stepAt_15 : decode cL_stepAt 15 = .ok (.iconst 1, 1) := by decide +kernel
theorem dL_stepAt_16 : decode cL_stepAt 16 = .ok (.ireturn, 1) := by decide +kernel
theorem dL_grade_0 : decode cL_grade 0 = .ok (.aload_n 2, 1) := by decide +kernel
theorem dL_grade_1 : decode cL_grade 1 = .ok (.iconst 0, 1) := by decide +kernel
theorem dL_grade_2 : decode cL_grade 2 = .ok (.aload_n 0, 1) := by decide +kernel
theorem dL_grade_3 : decode cL_grade 3 = .ok (.iload_n 1, 1) := by decide +kernel
theorem dL_grade_4 : decode cL_grade 4 = .ok (.invokevirtual 57, 3) := by decide +kernel
theorem dL_grade_12 : decode cL_grade 12 = .ok (.astore_n 3, 1) := by decide +kernel
theorem dL_grade_13 : decode cL_grade 13 = .ok (.iconst 1, 1) := by decide +kernel
theorem dL_grade_14 : decode cL_grade 14 = .ok (.ireturn, 1) := by decide +kernel
theorem dL_isMinimal_0 : decode cL_isMinimal 0 = .ok (.aload_n 2, 1) := by decide +kernel
theorem dL_isMinimal_1 : decode cL_isMinimal 1 = .ok (.iconst 0, 1) := by decide +kernel
theorem dL_isMinimal_2 : decode cL_isMinimal 2 = .ok (.aload_n 0, 1) := by decide +kernel
theorem dL_isMinimal_3 : decode cL_isMinimal 3 = .ok (.iload_n 1, 1) := by decide +kernel
theorem dL_isMinimal_4 : decode cL_isMinimal 4 = .ok (.invokevirtual 60, 3) := by decide +kernel
theorem dL_isMinimal_19 : decode cL_isMinimal 19 = .ok (.astore_n 3, 1) := by decide +kernel
theorem dL_isMinimal_20 : decode cL_isMinimal 20 = .ok (.iconst 1, 1) := by decide +kernel
theorem dL_isMinimal_21 : decode cL_isMinimal 21 = .ok (.ireturn, 1) := by decide +kernel
theorem dL_areAlike_0 : decode cL_areAlike 0 = .ok (.aload_n 3, 1) := by decide +kernel
theorem dL_areAlike_1 : decode cL_areAlike 1 = .ok (.iconst 0, 1) := by decide +kernel
theorem dL_areAlike_2 : decode cL_areAlike 2 = .ok (.aload_n 0, 1) := by decide +kernel
theorem dL_areAlike_3 : decode cL_areAlike 3 = .ok (.iload_n 1, 1) := by decide +kernel
theorem dL_areAlike_4 : decode cL_areAlike 4 = .ok (.iload_n 2, 1) := by decide +kernel
theorem dL_areAlike_5 : decode cL_areAlike 5 = .ok (.invokevirtual 64, 3) := by decide +kernel
theorem dL_areAlike_20 : decode cL_areAlike 20 = .ok (.astore 4, 2) := by decide +kernel
theorem dL_areAlike_22 : decode cL_areAlike 22 = .ok (.iconst 1, 1) := by decide +kernel
theorem dL_areAlike_23 : decode cL_areAlike 23 = .ok (.ireturn, 1) := by decide +kernel
theorem dL_begin_0 : decode cL_begin 0 = .ok (.aload_n 2, 1) := by decide +kernel
theorem dL_begin_1 : decode cL_begin 1 = .ok (.iconst 0, 1) := by decide +kernel
theorem dL_begin_2 : decode cL_begin 2 = .ok (.aload_n 0, 1) := by decide +kernel
theorem dL_begin_3 : decode cL_begin 3 = .ok (.iload_n 1, 1) := by decide +kernel
theorem dL_begin_4 : decode cL_begin 4 = .ok (.invokevirtual 68, 3) := by decide +kernel
theorem dL_begin_12 : decode cL_begin 12 = .ok (.astore_n 3, 1) := by decide +kernel
theorem dL_begin_13 : decode cL_begin 13 = .ok (.iconst 1, 1) := by decide +kernel
theorem dL_begin_14 : decode cL_begin 14 = .ok (.ireturn, 1) := by decide +kernel
theorem dL_mark_0 : decode cL_mark 0 = .ok (.aload 4, 2) := by decide +kernel
theorem dL_mark_2 : decode cL_mark 2 = .ok (.iconst 0, 1) := by decide +kernel
theorem dL_mark_3 : decode cL_mark 3 = .ok (.aload_n 0, 1) := by decide +kernel
theorem dL_mark_4 : decode cL_mark 4 = .ok (.iload_n 1, 1) := by decide +kernel
theorem dL_mark_5 : decode cL_mark 5 = .ok (.iload_n 2, 1) := by decide +kernel
theorem dL_mark_6 : decode cL_mark 6 = .ok (.iload_n 3, 1) := by decide +kernel
theorem dL_mark_7 : decode cL_mark 7 = .ok (.invokevirtual 81, 3) := by decide +kernel
theorem dL_mark_15 : decode cL_mark 15 = .ok (.astore 5, 2) := by decide +kernel
theorem dL_mark_17 : decode cL_mark 17 = .ok (.iconst 1, 1) := by decide +kernel
theorem dL_mark_18 : decode cL_mark 18 = .ok (.ireturn, 1) := by decide +kernel
theorem dL_marked_0 : decode cL_marked 0 = .ok (.aload_n 3, 1) := by decide +kernel
theorem dL_marked_1 : decode cL_marked 1 = .ok (.iconst 0, 1) := by decide +kernel
theorem dL_marked_2 : decode cL_marked 2 = .ok (.aload_n 0, 1) := by decide +kernel
theorem dL_marked_3 : decode cL_marked 3 = .ok (.iload_n 1, 1) := by decide +kernel
theorem dL_marked_4 : decode cL_marked 4 = .ok (.iload_n 2, 1) := by decide +kernel
theorem dL_marked_5 : decode cL_marked 5 = .ok (.invokevirtual 84, 3) := by decide +kernel
theorem dL_marked_13 : decode cL_marked 13 = .ok (.astore 4, 2) := by decide +kernel
theorem dL_marked_15 : decode cL_marked 15 = .ok (.iconst 1, 1) := by decide +kernel
theorem dL_marked_16 : decode cL_marked 16 = .ok (.ireturn, 1) := by decide +kernel
theorem dL_wrong_0 : decode cL_wrong 0 = .ok (.aload_n 2, 1) := by decide +kernel
theorem dL_wrong_1 : decode cL_wrong 1 = .ok (.iconst 0, 1) := by decide +kernel
theorem dL_wrong_2 : decode cL_wrong 2 = .ok (.aload_n 0, 1) := by decide +kernel
theorem dL_wrong_3 : decode cL_wrong 3 = .ok (.iload_n 1, 1) := by decide +kernel
theorem dL_wrong_4 : decode cL_wrong 4 = .ok (.invokevirtual 87, 3) := by decide +kernel
theorem dL_wrong_12 : decode cL_wrong 12 = .ok (.astore_n 3, 1) := by decide +kernel
theorem dL_wrong_13 : decode cL_wrong 13 = .ok (.iconst 1, 1) := by decide +kernel
theorem dL_wrong_14 : decode cL_wrong 14 = .ok (.ireturn, 1) := by decide +kernel
theorem dL_hint_0 : decode cL_hint 0 = .ok (.aload_n 2, 1) := by decide +kernel
theorem dL_hint_1 : decode cL_hint 1 = .ok (.iconst 0, 1) := by decide +kernel
theorem dL_hint_2 : decode cL_hint 2 = .ok (.aload_n 0, 1) := by decide +kernel
theorem dL_hint_3 : decode cL_hint 3 = .ok (.iload_n 1, 1) := by decide +kernel
theorem dL_hint_4 : decode cL_hint 4 = .ok (.invokevirtual 90, 3) := by decide +kernel
theorem dL_hint_12 : decode cL_hint 12 = .ok (.astore_n 3, 1) := by decide +kernel
theorem dL_hint_13 : decode cL_hint 13 = .ok (.iconst 1, 1) := by decide +kernel
theorem dL_hint_14 : decode cL_hint 14 = .ok (.ireturn, 1) := by decide +kernel
theorem dL_tell_0 : decode cL_tell 0 = .ok (.aload 4, 2) := by decide +kernel
theorem dL_tell_2 : decode cL_tell 2 = .ok (.iconst 0, 1) := by decide +kernel
theorem dL_tell_3 : decode cL_tell 3 = .ok (.aload_n 0, 1) := by decide +kernel
theorem dL_tell_4 : decode cL_tell 4 = .ok (.iload_n 1, 1) := by decide +kernel
theorem dL_tell_5 : decode cL_tell 5 = .ok (.iload_n 2, 1) := by decide +kernel
theorem dL_tell_6 : decode cL_tell 6 = .ok (.iload_n 3, 1) := by decide +kernel
theorem dL_tell_7 : decode cL_tell 7 = .ok (.invokevirtual 71, 3) := by decide +kernel
theorem dL_tell_15 : decode cL_tell 15 = .ok (.astore 5, 2) := by decide +kernel
theorem dL_tell_17 : decode cL_tell 17 = .ok (.iconst 1, 1) := by decide +kernel
theorem dL_tell_18 : decode cL_tell 18 = .ok (.ireturn, 1) := by decide +kernel
theorem dL_tell_19 : decode cL_tell 19 = .ok (.astore 5, 2) := by decide +kernel
theorem dL_tell_21 : decode cL_tell 21 = .ok (.iconst 2, 1) := by decide +kernel
theorem dL_tell_22 : decode cL_tell 22 = .ok (.ireturn, 1) := by decide +kernel
theorem dL_tell_23 : decode cL_tell 23 = .ok (.astore 5, 2) := by decide +kernel
theorem dL_tell_25 : decode cL_tell 25 = .ok (.iconst 3, 1) := by decide +kernel
theorem dL_tell_26 : decode cL_tell 26 = .ok (.ireturn, 1) := by decide +kernel
theorem dL_candidates_0 : decode cL_candidates 0 = .ok (.aload_n 2, 1) := by decide +kernel
theorem dL_candidates_1 : decode cL_candidates 1 = .ok (.iconst 0, 1) := by decide +kernel
theorem dL_candidates_2 : decode cL_candidates 2 = .ok (.aload_n 0, 1) := by decide +kernel
theorem dL_candidates_3 : decode cL_candidates 3 = .ok (.iload_n 1, 1) := by decide +kernel
theorem dL_candidates_4 : decode cL_candidates 4 = .ok (.invokevirtual 74, 3) := by decide +kernel
theorem dL_candidates_12 : decode cL_candidates 12 = .ok (.astore_n 3, 1) := by decide +kernel
theorem dL_candidates_13 : decode cL_candidates 13 = .ok (.iconst 1, 1) := by decide +kernel
theorem dL_candidates_14 : decode cL_candidates 14 = .ok (.ireturn, 1) := by decide +kernel
theorem dL_candidates_15 : decode cL_candidates 15 = .ok (.astore_n 3, 1) := by decide +kernel
theorem dL_candidates_16 : decode cL_candidates 16 = .ok (.iconst 2, 1) := by decide +kernel
theorem dL_candidates_17 : decode cL_candidates 17 = .ok (.ireturn, 1) := by decide +kernel
theorem dL_isWhole_0 : decode cL_isWhole 0 = .ok (.aload_n 1, 1) := by decide +kernel
theorem dL_isWhole_1 : decode cL_isWhole 1 = .ok (.iconst 0, 1) := by decide +kernel
theorem dL_isWhole_2 : decode cL_isWhole 2 = .ok (.aload_n 0, 1) := by decide +kernel
theorem dL_isWhole_3 : decode cL_isWhole 3 = .ok (.invokevirtual 77, 3) := by decide +kernel
theorem dL_isWhole_18 : decode cL_isWhole 18 = .ok (.astore_n 2, 1) := by decide +kernel
theorem dL_isWhole_19 : decode cL_isWhole 19 = .ok (.iconst 1, 1) := by decide +kernel
theorem dL_isWhole_20 : decode cL_isWhole 20 = .ok (.ireturn, 1) := by decide +kernel
theorem dL_solvedShare_0 : decode cL_solvedShare 0 = .ok (.aload_n 1, 1) := by decide +kernel
theorem dL_solvedShare_1 : decode cL_solvedShare 1 = .ok (.iconst 0, 1) := by decide +kernel
theorem dL_solvedShare_2 : decode cL_solvedShare 2 = .ok (.aload_n 0, 1) := by decide +kernel
theorem dL_solvedShare_3 : decode cL_solvedShare 3 = .ok (.invokevirtual 93, 3) := by decide +kernel
theorem dL_solvedShare_11 : decode cL_solvedShare 11 = .ok (.astore_n 2, 1) := by decide +kernel
theorem dL_solvedShare_12 : decode cL_solvedShare 12 = .ok (.iconst 1, 1) := by decide +kernel
theorem dL_solvedShare_13 : decode cL_solvedShare 13 = .ok (.ireturn, 1) := by decide +kernel
theorem dL_meanGivens_0 : decode cL_meanGivens 0 = .ok (.aload_n 1, 1) := by decide +kernel
theorem dL_meanGivens_1 : decode cL_meanGivens 1 = .ok (.iconst 0, 1) := by decide +kernel
theorem dL_meanGivens_2 : decode cL_meanGivens 2 = .ok (.aload_n 0, 1) := by decide +kernel
theorem dL_meanGivens_3 : decode cL_meanGivens 3 = .ok (.invokevirtual 99, 3) := by decide +kernel
theorem dL_meanGivens_10 : decode cL_meanGivens 10 = .ok (.astore_n 2, 1) := by decide +kernel
theorem dL_meanGivens_11 : decode cL_meanGivens 11 = .ok (.iconst 1, 1) := by decide +kernel
theorem dL_meanGivens_12 : decode cL_meanGivens 12 = .ok (.ireturn, 1) := by decide +kernel
theorem dL_make_0 : decode cL_make 0 = .ok (.aload_n 3, 1) := by decide +kernel
theorem dL_make_1 : decode cL_make 1 = .ok (.iconst 0, 1) := by decide +kernel
theorem dL_make_2 : decode cL_make 2 = .ok (.aload_n 0, 1) := by decide +kernel
theorem dL_make_3 : decode cL_make 3 = .ok (.iload_n 1, 1) := by decide +kernel
theorem dL_make_4 : decode cL_make 4 = .ok (.iload_n 2, 1) := by decide +kernel
theorem dL_make_5 : decode cL_make 5 = .ok (.invokevirtual 28, 3) := by decide +kernel
theorem dL_make_13 : decode cL_make 13 = .ok (.astore 4, 2) := by decide +kernel
theorem dL_make_15 : decode cL_make 15 = .ok (.iconst 1, 1) := by decide +kernel
theorem dL_make_16 : decode cL_make 16 = .ok (.ireturn, 1) := by decide +kernel
theorem dL_puzzle_0 : decode cL_puzzle 0 = .ok (.aload_n 1, 1) := by decide +kernel
theorem dL_puzzle_1 : decode cL_puzzle 1 = .ok (.iconst 0, 1) := by decide +kernel
theorem dL_puzzle_2 : decode cL_puzzle 2 = .ok (.aload_n 0, 1) := by decide +kernel
theorem dL_puzzle_3 : decode cL_puzzle 3 = .ok (.invokevirtual 7, 3) := by decide +kernel
theorem dL_puzzle_6 : decode cL_puzzle 6 = .ok (.i2l, 1) := by decide +kernel
theorem dL_puzzle_7 : decode cL_puzzle 7 = .ok (.lastore, 1) := by decide +kernel
theorem dL_puzzle_8 : decode cL_puzzle 8 = .ok (.goto 6, 3) := by decide +kernel
theorem dL_puzzle_14 : decode cL_puzzle 14 = .ok (.iconst 0, 1) := by decide +kernel
theorem dL_puzzle_15 : decode cL_puzzle 15 = .ok (.ireturn, 1) := by decide +kernel
theorem dL_make_8 : decode cL_make 8 = .ok (.i2l, 1) := by decide +kernel
theorem dL_make_9 : decode cL_make 9 = .ok (.lastore, 1) := by decide +kernel
theorem dL_make_10 : decode cL_make 10 = .ok (.goto 11, 3) := by decide +kernel
theorem dL_make_21 : decode cL_make 21 = .ok (.iconst 0, 1) := by decide +kernel
theorem dL_make_22 : decode cL_make 22 = .ok (.ireturn, 1) := by decide +kernel
theorem met_ofWH {l : Launch} {y : MethodName} {ws ws' : List Cond} {rm : Room} {Pc : Array Value → State → Prop} {Qc : Array Value → State → Outcome → State → Prop} {mc ms : Nat} {free : Addr → Prop} {cc : ByteArray} {maxL : Nat} {ret : Option FieldType} {hh : List (Nat × Nat × Nat × Nat)}
    (hy : plainName y.cls = true) (hw : ws = Cond.codeWith y cc maxL ret hh :: ws')
    (body : ∀ p e s m args below meth c s₁, BodyLoose p l y (headSpec ws rm) cc maxL ret e s m args below meth c s₁ → c.maxLocals = maxL → Pc args s →
      W p l e (headSpec ws rm).room s m args below meth c s.heap [] 0 0 (MQ below Qc args s mc ms free) (entryFrame m args maxL)) : Met l y ws rm Pc Qc mc ms free := by
  refine MetFree.of_bodyS (code := cc) (maxLocals := maxL) (ret := ret) hy ?_ ?_
  · intro args s m h hn
    obtain ⟨m9, meth, c, hn9, h1, h2, h3, h4, -, h5, h6, -⟩ := Cond.codeWith_spec (atoms_spec (ws := ws) h _ (by rw [hw]; exact List.mem_cons_self))
    cases hn.symm.trans hn9
    exact ⟨meth, c, h1, h2, h3, h4, h5, h6⟩
  · intro p e s m args below meth c s₁ B hml hP _
    have hh0 : s₁.heap = s.heap := by rw [B.state]; rfl
    obtain ⟨t, a1, o, b1, b2, b3⟩ := body p e s m args below meth c s₁ B hml hP s₁ hh0 (Stand.of_body B)
    exact ⟨t, o, a1, b1, b2, ⟨b3.1, b3.2⟩⟩
def Mh (l : Launch) (G : GG) (y : MethodName) (cc : ByteArray) (n : Nat) (hh : List (Nat × Nat × Nat × Nat)) (rm : Room) (As : List Value) (ws : va_W) {S : Type} (post : Int32 → S → Prop) (w1 : S → va_W) : Prop :=
  ∀ sz : Nat, Met l y (.codeWith y cc n (some .int) hh :: WW) rm (va_Pc As (PW G ws sz)) (va_Qi post (fun u t => QW G (va_A ws sz) (w1 u) t) (va_A ws sz)) rm.cells rm.slots (va_A ws sz)
theorem NCm {G : GG} {A : Nat → Prop} {s : State} {q : String × String} (i : Nat) (h : NCs[i]? = some q) (hE : EV G A s s.heap) : va_Nc q.1 q.2 s := hE.1.2.2.2.2.2.2 _ (List.mem_of_getElem? h)
set_option maxHeartbeats 4000000 in
set_option maxRecDepth 100000 in
theorem l_give (l : Launch) (G : GG) (ho : Nat) (al : Nat) (ts : Nat) (pb : Nat) (lr : Int32) (sv : Nat) (md : Int32) (v : Int32) (v2 : Int32) (x : Int32) (ou : Nat) (fo : Nat → Int64) (hst : l.stackTraces = false) : Mh l G yL_give cL_give 6 [(0, 12, 15, 19), (0, 12, 19, 21)] ({ frames := 8, cells := 1, slots := 6, locals := 128 } : Room) [.ref ho, .int v, .int v2, .int x, .ref ou] [(ho, .inr (11, [.ref al, .ref sv, .ref ts, .ref pb, .null, .int lr])), (al, .inr (4, [.int md, .ref (gE G), .int (nI 0)])), (ou, .inl (gyL G, 1, .inr (.inl fo)))] (fun (r : Int32) (u : Unit) => r = nI 1) (fun (u : Unit) => [(ho, .inr (11, [.ref al, .ref sv, .ref ts, .ref pb, .null, .int lr])), (al, .inr (4, [.int md, .ref (gE G), .int (nI 0)])), (ou, .inl (gyL G, 1, .inr (.inl fo)))]) := by
  intro sz
  refine met_ofWH (cc := cL_give) (maxL := 6) (ret := (some .int)) (hh := [(0, 12, 15, 19), (0, 12, 19, 21)]) (by decide) rfl ?_
  intro p e s m args below meth c s₁ B9 hml hv
  obtain ⟨rfl, hsz, hP, hK, hD0, hE⟩ := hv
  have hx := B9.exec
  have hb := B9.bytes
  have hr := B9.returns
  have hts : ∀ w ∈ WW, w.before ([.ref ho, .int v, .int v2, .int x, .ref ou] : List Value).toArray s = true := fun w h => atoms_spec (ws := .codeWith yL_give cL_give 6 (some .int) [(0, 12, 15, 19), (0, 12, 19, 21)] :: WW) B9.pre w (List.mem_cons_of_mem _ h)
  have htab := vx_table (x := yL_give) B9 (atoms_spec (ws := .codeWith yL_give cL_give 6 (some .int) [(0, 12, 15, 19), (0, 12, 19, 21)] :: WW) B9.pre _ List.mem_cons_self)
  have hown : s.vm.findClass RL = some m.cls := findClass_of_methodNamed B9.named
  subst hsz
  have hD := hD0.self (sz := s.heap.size)
  generalize hAe : va_A [(ho, .inr (11, [.ref al, .ref sv, .ref ts, .ref pb, .null, .int lr])), (al, .inr (4, [.int md, .ref (gE G), .int (nI 0)])), (ou, .inl (gyL G, 1, .inr (.inl fo)))] s.heap.size = A at hD hE ⊢
  have hA : ∀ q : Nat, s.heap.size ≤ q → A q := fun q h => by rw [← hAe]; exact Or.inr h
  have hl := lv_entry ([.ref ho, .int v, .int v2, .int x, .ref ou]) (n := 6) (Nat.le_of_ble_eq_true rfl)
  rw [lg_entry_eq]
  generalize (lg_sl ([.ref ho, .int v, .int v2, .int x, .ref ou]) ++ List.replicate (6 - (lg_sl ([.ref ho, .int v, .int v2, .int x, .ref ou])).length) Slot.unset).toArray = ls at hl ⊢
  have hl : lv_has ls 6 [(0, .ref ho), (1, .int v), (2, .int v2), (3, .int x), (4, .ref ou)] := hl
  refine qgen (fun Q hQ => ?_)
  refine hgen (fun H locs hP hD hS => ?_) hP hD
  refine lv_aload hx hb dL_give_0 (lv_at hl 4 rfl) ?_
  refine lv_iconst (v := nI 0) hx hb dL_give_2 (by decide) ?_
  refine lv_aload_n hx hb dL_give_3 rfl (lv_at hl 0 rfl) ?_
  refine lv_iload_n hx hb dL_give_4 rfl (lv_at hl 1 rfl) ?_
  refine lv_iload_n hx hb dL_give_5 rfl (lv_at hl 2 rfl) ?_
  refine lv_iload_n hx hb dL_give_6 rfl (lv_at hl 3 rfl) ?_
  refine finx hP hD hS hA [0, 1] [2] (wr := [(ou, .inl (gyL G, 1, .inr (.inl fo)))]) rfl rfl (by decide) (by decide) (vx_runV (As := [.int v, .int v2, .int x]) (rest := [.int (nI 0), .ref ou]) ⟨hx, hb, hml, hown, hts⟩ (c_X6_give l G ho al ts pb lr sv md v v2 x hst H.size) (cwV 3 hts (gV q562 q563 q564 q45 q565) rfl rfl rfl (by decide +kernel) ⟨Nat.le_of_ble_eq_true rfl, Nat.le_of_ble_eq_true rfl⟩) (preV (q0 := 0) (ci := 11) hK hE hP hD hS hA [0, 1] rfl (by decide) rfl rfl) rfl rfl hl.1 rfl (lv_room (Nat.le_of_ble_eq_true rfl)) dL_give_7 ⟨Nat.le_of_ble_eq_true rfl, Nat.le_of_ble_eq_true rfl⟩) (fun ce9 q9 H locs hP hD hS hc9 hv9 hf9 => ?_)
  have hP : va_P (gD G) vwCl [(ou, .inl (gyL G, 1, .inr (.inl fo))), (ho, .inr (11, [.ref al, .ref sv, .ref ts, .ref pb, .null, .int lr])), (al, .inr (4, [.int md, .ref (gE G), .int (nI 0)]))] H := hP
  have hD : va_D A [(ou, .inl (gyL G, 1, .inr (.inl fo))), (ho, .inr (11, [.ref al, .ref sv, .ref ts, .ref pb, .null, .int lr])), (al, .inr (4, [.int md, .ref (gE G), .int (nI 0)]))] := hD
  refine vx_catch (own := RL) (name := "java/lang/IndexOutOfBoundsException") (E := "java/lang/IndexOutOfBoundsException") hown [] ⟨0, 12, 15, 19⟩ [⟨0, 12, 19, 21⟩] (htab.trans rfl) (fun z9 h9 => nomatch h9) (by decide) (by decide) (hts _ q537) (nw_use rfl (hE.1.1 _ nq572)) hc9 hv9 hf9 ?_
  refine lv_astore (lv' := [(5, .ref q9), (0, .ref ho), (1, .int v), (2, .int v2), (3, .int x), (4, .ref ou)]) hx hb dL_give_15 hl (by decide) rfl (fun ls hl => ?_)
  refine lv_iconst (v := nI 1) hx hb dL_give_17 (by decide) ?_
  have hP9 := hP.sub (ws' := [(ho, .inr (11, [.ref al, .ref sv, .ref ts, .ref pb, .null, .int lr])), (al, .inr (4, [.int md, .ref (gE G), .int (nI 0)])), (ou, .inl (gyL G, 1, .inr (.inl fo)))]) [1, 2, 0] rfl
  have hD9 := hD.sub (ws' := [(ho, .inr (11, [.ref al, .ref sv, .ref ts, .ref pb, .null, .int lr])), (al, .inr (4, [.int md, .ref (gE G), .int (nI 0)])), (ou, .inl (gyL G, 1, .inr (.inl fo)))]) [1, 2, 0] (by decide) rfl
  subst hQ
  exact W.iret (v := nI 1) hx hb hr (fun t ht hW => ⟨⟨nI 1, (), rfl, rfl, by rw [ht]; exact hP9, hD9⟩, hS.F ht⟩) hS.2.2 dL_give_18
set_option maxHeartbeats 4000000 in
set_option maxRecDepth 100000 in
theorem l_addCage (l : Launch) (G : GG) (ho : Nat) (al : Nat) (ts : Nat) (pb : Nat) (lr : Int32) (sv : Nat) (md : Int32) (v : Int32) (v2 : Int32) (x : Int32) (ou : Nat) (fo : Nat → Int64) (hst : l.stackTraces = false) : Mh l G yL_addCage cL_addCage 6 [(0, 12, 15, 19), (0, 12, 19, 21), (0, 12, 23, 26)] ({ frames := 8, cells := 1, slots := 6, locals := 127 } : Room) [.ref ho, .int v, .int v2, .int x, .ref ou] [(ho, .inr (11, [.ref al, .ref sv, .ref ts, .ref pb, .null, .int lr])), (al, .inr (4, [.int md, .ref (gE G), .int (nI 0)])), (ou, .inl (gyL G, 1, .inr (.inl fo)))] (fun (r : Int32) (u : Unit) => r = nI 1) (fun (u : Unit) => [(ho, .inr (11, [.ref al, .ref sv, .ref ts, .ref pb, .null, .int lr])), (al, .inr (4, [.int md, .ref (gE G), .int (nI 0)])), (ou, .inl (gyL G, 1, .inr (.inl fo)))]) := by
  intro sz
  refine met_ofWH (cc := cL_addCage) (maxL := 6) (ret := (some .int)) (hh := [(0, 12, 15, 19), (0, 12, 19, 21), (0, 12, 23, 26)]) (by decide) rfl ?_
  intro p e s m args below meth c s₁ B9 hml hv
  obtain ⟨rfl, hsz, hP, hK, hD0, hE⟩ := hv
  have hx := B9.exec
  have hb := B9.bytes
  have hr := B9.returns
  have hts : ∀ w ∈ WW, w.before ([.ref ho, .int v, .int v2, .int x, .ref ou] : List Value).toArray s = true := fun w h => atoms_spec (ws := .codeWith yL_addCage cL_addCage 6 (some .int) [(0, 12, 15, 19), (0, 12, 19, 21), (0, 12, 23, 26)] :: WW) B9.pre w (List.mem_cons_of_mem _ h)
  have htab := vx_table (x := yL_addCage) B9 (atoms_spec (ws := .codeWith yL_addCage cL_addCage 6 (some .int) [(0, 12, 15, 19), (0, 12, 19, 21), (0, 12, 23, 26)] :: WW) B9.pre _ List.mem_cons_self)
  have hown : s.vm.findClass RL = some m.cls := findClass_of_methodNamed B9.named
  subst hsz
  have hD := hD0.self (sz := s.heap.size)
  generalize hAe : va_A [(ho, .inr (11, [.ref al, .ref sv, .ref ts, .ref pb, .null, .int lr])), (al, .inr (4, [.int md, .ref (gE G), .int (nI 0)])), (ou, .inl (gyL G, 1, .inr (.inl fo)))] s.heap.size = A at hD hE ⊢
  have hA : ∀ q : Nat, s.heap.size ≤ q → A q := fun q h => by rw [← hAe]; exact Or.inr h
  have hl := lv_entry ([.ref ho, .int v, .int v2, .int x, .ref ou]) (n := 6) (Nat.le_of_ble_eq_true rfl)
  rw [lg_entry_eq]
  generalize (lg_sl ([.ref ho, .int v, .int v2, .int x, .ref ou]) ++ List.replicate (6 - (lg_sl ([.ref ho, .int v, .int v2, .int x, .ref ou])).length) Slot.unset).toArray = ls at hl ⊢
  have hl : lv_has ls 6 [(0, .ref ho), (1, .int v), (2, .int v2), (3, .int x), (4, .ref ou)] := hl
  refine qgen (fun Q hQ => ?_)
  refine hgen (fun H locs hP hD hS => ?_) hP hD
  refine lv_aload hx hb dL_addCage_0 (lv_at hl 4 rfl) ?_
  refine lv_iconst (v := nI 0) hx hb dL_addCage_2 (by decide) ?_
  refine lv_aload_n hx hb dL_addCage_3 rfl (lv_at hl 0 rfl) ?_
  refine lv_iload_n hx hb dL_addCage_4 rfl (lv_at hl 1 rfl) ?_
  refine lv_iload_n hx hb dL_addCage_5 rfl (lv_at hl 2 rfl) ?_
  refine lv_iload_n hx hb dL_addCage_6 rfl (lv_at hl 3 rfl) ?_
  refine finx hP hD hS hA [0, 1] [2] (wr := [(ou, .inl (gyL G, 1, .inr (.inl fo)))]) rfl rfl (by decide) (by decide) (vx_runV (As := [.int v, .int v2, .int x]) (rest := [.int (nI 0), .ref ou]) ⟨hx, hb, hml, hown, hts⟩ (c_X6_addCage l G ho al ts pb lr sv md v v2 x hst H.size) (cwV 3 hts (gV q614 q615 q616 q45 q617) rfl rfl rfl (by decide +kernel) ⟨Nat.le_of_ble_eq_true rfl, Nat.le_of_ble_eq_true rfl⟩) (preV (q0 := 0) (ci := 11) hK hE hP hD hS hA [0, 1] rfl (by decide) rfl rfl) rfl rfl hl.1 rfl (lv_room (Nat.le_of_ble_eq_true rfl)) dL_addCage_7 ⟨Nat.le_of_ble_eq_true rfl, Nat.le_of_ble_eq_true rfl⟩) (fun ce9 q9 H locs hP hD hS hc9 hv9 hf9 => ?_)
  have hP : va_P (gD G) vwCl [(ou, .inl (gyL G, 1, .inr (.inl fo))), (ho, .inr (11, [.ref al, .ref sv, .ref ts, .ref pb, .null, .int lr])), (al, .inr (4, [.int md, .ref (gE G), .int (nI 0)]))] H := hP
  have hD : va_D A [(ou, .inl (gyL G, 1, .inr (.inl fo))), (ho, .inr (11, [.ref al, .ref sv, .ref ts, .ref pb, .null, .int lr])), (al, .inr (4, [.int md, .ref (gE G), .int (nI 0)]))] := hD
  refine vx_catch (own := RL) (name := "java/lang/IndexOutOfBoundsException") (E := "java/lang/IndexOutOfBoundsException") hown [] ⟨0, 12, 15, 19⟩ [⟨0, 12, 19, 21⟩, ⟨0, 12, 23, 26⟩] (htab.trans rfl) (fun z9 h9 => nomatch h9) (by decide) (by decide) (hts _ q537) (nw_use rfl (hE.1.1 _ nq572)) hc9 hv9 hf9 ?_
  refine lv_astore (lv' := [(5, .ref q9), (0, .ref ho), (1, .int v), (2, .int v2), (3, .int x), (4, .ref ou)]) hx hb dL_addCage_15 hl (by decide) rfl (fun ls hl => ?_)
  refine lv_iconst (v := nI 1) hx hb dL_addCage_17 (by decide) ?_
  have hP9 := hP.sub (ws' := [(ho, .inr (11, [.ref al, .ref sv, .ref ts, .ref pb, .null, .int lr])), (al, .inr (4, [.int md, .ref (gE G), .int (nI 0)])), (ou, .inl (gyL G, 1, .inr (.inl fo)))]) [1, 2, 0] rfl
  have hD9 := hD.sub (ws' := [(ho, .inr (11, [.ref al, .ref sv, .ref ts, .ref pb, .null, .int lr])), (al, .inr (4, [.int md, .ref (gE G), .int (nI 0)])), (ou, .inl (gyL G, 1, .inr (.inl fo)))]) [1, 2, 0] (by decide) rfl
  subst hQ
  exact W.iret (v := nI 1) hx hb hr (fun t ht hW => ⟨⟨nI 1, (), rfl, rfl, by rw [ht]; exact hP9, hD9⟩, hS.F ht⟩) hS.2.2 dL_addCage_18
set_option maxHeartbeats 4000000 in
set_option maxRecDepth 100000 in
theorem l_given (l : Launch) (G : GG) (ho : Nat) (al : Nat) (ts : Nat) (pb : Nat) (lr : Int32) (sv : Nat) (md : Int32) (v : Int32) (v2 : Int32) (ou : Nat) (fo : Nat → Int64) (hst : l.stackTraces = false) : Mh l G yL_given cL_given 5 [(0, 10, 13, 19)] ({ frames := 8, cells := 1, slots := 6, locals := 126 } : Room) [.ref ho, .int v, .int v2, .ref ou] [(ho, .inr (11, [.ref al, .ref sv, .ref ts, .ref pb, .null, .int lr])), (al, .inr (4, [.int md, .ref (gE G), .int (nI 0)])), (ou, .inl (gyL G, 1, .inr (.inl fo)))] (fun (r : Int32) (u : Unit) => r = nI 1) (fun (u : Unit) => [(ho, .inr (11, [.ref al, .ref sv, .ref ts, .ref pb, .null, .int lr])), (al, .inr (4, [.int md, .ref (gE G), .int (nI 0)])), (ou, .inl (gyL G, 1, .inr (.inl fo)))]) := by
  intro sz
  refine met_ofWH (cc := cL_given) (maxL := 5) (ret := (some .int)) (hh := [(0, 10, 13, 19)]) (by decide) rfl ?_
  intro p e s m args below meth c s₁ B9 hml hv
  obtain ⟨rfl, hsz, hP, hK, hD0, hE⟩ := hv
  have hx := B9.exec
  have hb := B9.bytes
  have hr := B9.returns
  have hts : ∀ w ∈ WW, w.before ([.ref ho, .int v, .int v2, .ref ou] : List Value).toArray s = true := fun w h => atoms_spec (ws := .codeWith yL_given cL_given 5 (some .int) [(0, 10, 13, 19)] :: WW) B9.pre w (List.mem_cons_of_mem _ h)
  have htab := vx_table (x := yL_given) B9 (atoms_spec (ws := .codeWith yL_given cL_given 5 (some .int) [(0, 10, 13, 19)] :: WW) B9.pre _ List.mem_cons_self)
  have hown : s.vm.findClass RL = some m.cls := findClass_of_methodNamed B9.named
  subst hsz
  have hD := hD0.self (sz := s.heap.size)
  generalize hAe : va_A [(ho, .inr (11, [.ref al, .ref sv, .ref ts, .ref pb, .null, .int lr])), (al, .inr (4, [.int md, .ref (gE G), .int (nI 0)])), (ou, .inl (gyL G, 1, .inr (.inl fo)))] s.heap.size = A at hD hE ⊢
  have hA : ∀ q : Nat, s.heap.size ≤ q → A q := fun q h => by rw [← hAe]; exact Or.inr h
  have hl := lv_entry ([.ref ho, .int v, .int v2, .ref ou]) (n := 5) (Nat.le_of_ble_eq_true rfl)
  rw [lg_entry_eq]
  generalize (lg_sl ([.ref ho, .int v, .int v2, .ref ou]) ++ List.replicate (5 - (lg_sl ([.ref ho, .int v, .int v2, .ref ou])).length) Slot.unset).toArray = ls at hl ⊢
  have hl : lv_has ls 5 [(0, .ref ho), (1, .int v), (2, .int v2), (3, .ref ou)] := hl
  refine qgen (fun Q hQ => ?_)
  refine hgen (fun H locs hP hD hS => ?_) hP hD
  refine lv_aload_n hx hb dL_given_0 rfl (lv_at hl 3 rfl) ?_
  refine lv_iconst (v := nI 0) hx hb dL_given_1 (by decide) ?_
  refine lv_aload_n hx hb dL_given_2 rfl (lv_at hl 0 rfl) ?_
  refine lv_iload_n hx hb dL_given_3 rfl (lv_at hl 1 rfl) ?_
  refine lv_iload_n hx hb dL_given_4 rfl (lv_at hl 2 rfl) ?_
  refine finx hP hD hS hA [0, 1] [2] (wr := [(ou, .inl (gyL G, 1, .inr (.inl fo)))]) rfl rfl (by decide) (by decide) (vx_runV (As := [.int v, .int v2]) (rest := [.int (nI 0), .ref ou]) ⟨hx, hb, hml, hown, hts⟩ (c_X6_given l G ho al ts pb lr sv md v v2 hst H.size) (cwV 2 hts (gV q699 q700 q701 q45 q702) rfl rfl rfl (by decide +kernel) ⟨Nat.le_of_ble_eq_true rfl, Nat.le_of_ble_eq_true rfl⟩) (preV (q0 := 0) (ci := 11) hK hE hP hD hS hA [0, 1] rfl (by decide) rfl rfl) rfl rfl hl.1 rfl (lv_room (Nat.le_of_ble_eq_true rfl)) dL_given_5 ⟨Nat.le_of_ble_eq_true rfl, Nat.le_of_ble_eq_true rfl⟩) (fun ce9 q9 H locs hP hD hS hc9 hv9 hf9 => ?_)
  have hP : va_P (gD G) vwCl [(ou, .inl (gyL G, 1, .inr (.inl fo))), (ho, .inr (11, [.ref al, .ref sv, .ref ts, .ref pb, .null, .int lr])), (al, .inr (4, [.int md, .ref (gE G), .int (nI 0)]))] H := hP
  have hD : va_D A [(ou, .inl (gyL G, 1, .inr (.inl fo))), (ho, .inr (11, [.ref al, .ref sv, .ref ts, .ref pb, .null, .int lr])), (al, .inr (4, [.int md, .ref (gE G), .int (nI 0)]))] := hD
  refine vx_catch (own := RL) (name := "java/lang/IndexOutOfBoundsException") (E := "java/lang/IndexOutOfBoundsException") hown [] ⟨0, 10, 13, 19⟩ [] (htab.trans rfl) (fun z9 h9 => nomatch h9) (by decide) (by decide) (hts _ q537) (nw_use rfl (hE.1.1 _ nq572)) hc9 hv9 hf9 ?_
  refine lv_astore (lv' := [(4, .ref q9), (0, .ref ho), (1, .int v), (2, .int v2), (3, .ref ou)]) hx hb dL_given_13 hl (by decide) rfl (fun ls hl => ?_)
  refine lv_iconst (v := nI 1) hx hb dL_given_15 (by decide) ?_
  have hP9 := hP.sub (ws' := [(ho, .inr (11, [.ref al, .ref sv, .ref ts, .ref pb, .null, .int lr])), (al, .inr (4, [.int md, .ref (gE G), .int (nI 0)])), (ou, .inl (gyL G, 1, .inr (.inl fo)))]) [1, 2, 0] rfl
  have hD9 := hD.sub (ws' := [(ho, .inr (11, [.ref al, .ref sv, .ref ts, .ref pb, .null, .int lr])), (al, .inr (4, [.int md, .ref (gE G), .int (nI 0)])), (ou, .inl (gyL G, 1, .inr (.inl fo)))]) [1, 2, 0] (by decide) rfl
  subst hQ
  exact W.iret (v := nI 1) hx hb hr (fun t ht hW => ⟨⟨nI 1, (), rfl, rfl, by rw [ht]; exact hP9, hD9⟩, hS.F ht⟩) hS.2.2 dL_given_16
set_option maxHeartbeats 4000000 in
set_option maxRecDepth 100000 in
theorem l_givens (l : Launch) (G : GG) (ho : Nat) (al : Nat) (ts : Nat) (pb : Nat) (lr : Int32) (sv : Nat) (md : Int32) (v : Int32) (ou : Nat) (fo : Nat → Int64) (hst : l.stackTraces = false) : Mh l G yL_givens cL_givens 4 [(0, 9, 12, 19)] ({ frames := 8, cells := 1, slots := 6, locals := 124 } : Room) [.ref ho, .int v, .ref ou] [(ho, .inr (11, [.ref al, .ref sv, .ref ts, .ref pb, .null, .int lr])), (al, .inr (4, [.int md, .ref (gE G), .int (nI 0)])), (ou, .inl (gyL G, 1, .inr (.inl fo)))] (fun (r : Int32) (u : Unit) => r = nI 1) (fun (u : Unit) => [(ho, .inr (11, [.ref al, .ref sv, .ref ts, .ref pb, .null, .int lr])), (al, .inr (4, [.int md, .ref (gE G), .int (nI 0)])), (ou, .inl (gyL G, 1, .inr (.inl fo)))]) := by
  intro sz
  refine met_ofWH (cc := cL_givens) (maxL := 4) (ret := (some .int)) (hh := [(0, 9, 12, 19)]) (by decide) rfl ?_
  intro p e s m args below meth c s₁ B9 hml hv
  obtain ⟨rfl, hsz, hP, hK, hD0, hE⟩ := hv
  have hx := B9.exec
  have hb := B9.bytes
  have hr := B9.returns
  have hts : ∀ w ∈ WW, w.before ([.ref ho, .int v, .ref ou] : List Value).toArray s = true := fun w h => atoms_spec (ws := .codeWith yL_givens cL_givens 4 (some .int) [(0, 9, 12, 19)] :: WW) B9.pre w (List.mem_cons_of_mem _ h)
  have htab := vx_table (x := yL_givens) B9 (atoms_spec (ws := .codeWith yL_givens cL_givens 4 (some .int) [(0, 9, 12, 19)] :: WW) B9.pre _ List.mem_cons_self)
  have hown : s.vm.findClass RL = some m.cls := findClass_of_methodNamed B9.named
  subst hsz
  have hD := hD0.self (sz := s.heap.size)
  generalize hAe : va_A [(ho, .inr (11, [.ref al, .ref sv, .ref ts, .ref pb, .null, .int lr])), (al, .inr (4, [.int md, .ref (gE G), .int (nI 0)])), (ou, .inl (gyL G, 1, .inr (.inl fo)))] s.heap.size = A at hD hE ⊢
  have hA : ∀ q : Nat, s.heap.size ≤ q → A q := fun q h => by rw [← hAe]; exact Or.inr h
  have hl := lv_entry ([.ref ho, .int v, .ref ou]) (n := 4) (Nat.le_of_ble_eq_true rfl)
  rw [lg_entry_eq]
  generalize (lg_sl ([.ref ho, .int v, .ref ou]) ++ List.replicate (4 - (lg_sl ([.ref ho, .int v, .ref ou])).length) Slot.unset).toArray = ls at hl ⊢
  have hl : lv_has ls 4 [(0, .ref ho), (1, .int v), (2, .ref ou)] := hl
  refine qgen (fun Q hQ => ?_)
  refine hgen (fun H locs hP hD hS => ?_) hP hD
  refine lv_aload_n hx hb dL_givens_0 rfl (lv_at hl 2 rfl) ?_
  refine lv_iconst (v := nI 0) hx hb dL_givens_1 (by decide) ?_
  refine lv_aload_n hx hb dL_givens_2 rfl (lv_at hl 0 rfl) ?_
  refine lv_iload_n hx hb dL_givens_3 rfl (lv_at hl 1 rfl) ?_
  refine finx hP hD hS hA [0, 1] [2] (wr := [(ou, .inl (gyL G, 1, .inr (.inl fo)))]) rfl rfl (by decide) (by decide) (vx_runV (As := [.int v]) (rest := [.int (nI 0), .ref ou]) ⟨hx, hb, hml, hown, hts⟩ (c_X6_givens l G ho al ts pb lr sv md v hst H.size) (cwV 1 hts (gV q706 q707 q708 q45 q709) rfl rfl rfl (by decide +kernel) ⟨Nat.le_of_ble_eq_true rfl, Nat.le_of_ble_eq_true rfl⟩) (preV (q0 := 0) (ci := 11) hK hE hP hD hS hA [0, 1] rfl (by decide) rfl rfl) rfl rfl hl.1 rfl (lv_room (Nat.le_of_ble_eq_true rfl)) dL_givens_4 ⟨Nat.le_of_ble_eq_true rfl, Nat.le_of_ble_eq_true rfl⟩) (fun ce9 q9 H locs hP hD hS hc9 hv9 hf9 => ?_)
  have hP : va_P (gD G) vwCl [(ou, .inl (gyL G, 1, .inr (.inl fo))), (ho, .inr (11, [.ref al, .ref sv, .ref ts, .ref pb, .null, .int lr])), (al, .inr (4, [.int md, .ref (gE G), .int (nI 0)]))] H := hP
  have hD : va_D A [(ou, .inl (gyL G, 1, .inr (.inl fo))), (ho, .inr (11, [.ref al, .ref sv, .ref ts, .ref pb, .null, .int lr])), (al, .inr (4, [.int md, .ref (gE G), .int (nI 0)]))] := hD
  refine vx_catch (own := RL) (name := "java/lang/IndexOutOfBoundsException") (E := "java/lang/IndexOutOfBoundsException") hown [] ⟨0, 9, 12, 19⟩ [] (htab.trans rfl) (fun z9 h9 => nomatch h9) (by decide) (by decide) (hts _ q537) (nw_use rfl (hE.1.1 _ nq572)) hc9 hv9 hf9 ?_
  refine lv_astore_n (lv' := [(3, .ref q9), (0, .ref ho), (1, .int v), (2, .ref ou)]) hx hb dL_givens_12 rfl hl (by decide) rfl (fun ls hl => ?_)
  refine lv_iconst (v := nI 1) hx hb dL_givens_13 (by decide) ?_
  have hP9 := hP.sub (ws' := [(ho, .inr (11, [.ref al, .ref sv, .ref ts, .ref pb, .null, .int lr])), (al, .inr (4, [.int md, .ref (gE G), .int (nI 0)])), (ou, .inl (gyL G, 1, .inr (.inl fo)))]) [1, 2, 0] rfl
  have hD9 := hD.sub (ws' := [(ho, .inr (11, [.ref al, .ref sv, .ref ts, .ref pb, .null, .int lr])), (al, .inr (4, [.int md, .ref (gE G), .int (nI 0)])), (ou, .inl (gyL G, 1, .inr (.inl fo)))]) [1, 2, 0] (by decide) rfl
  subst hQ
  exact W.iret (v := nI 1) hx hb hr (fun t ht hW => ⟨⟨nI 1, (), rfl, rfl, by rw [ht]; exact hP9, hD9⟩, hS.F ht⟩) hS.2.2 dL_givens_14
set_option maxHeartbeats 4000000 in
set_option maxRecDepth 100000 in
theorem l_solutions (l : Launch) (G : GG) (ho : Nat) (al : Nat) (ts : Nat) (pb : Nat) (lr : Int32) (sv : Nat) (md : Int32) (v : Int32) (ou : Nat) (fo : Nat → Int64) (hst : l.stackTraces = false) : Mh l G yL_solutions cL_solutions 4 [(0, 9, 12, 19)] ({ frames := 8, cells := 1, slots := 6, locals := 124 } : Room) [.ref ho, .int v, .ref ou] [(ho, .inr (11, [.ref al, .ref sv, .ref ts, .ref pb, .null, .int lr])), (al, .inr (4, [.int md, .ref (gE G), .int (nI 0)])), (ou, .inl (gyL G, 1, .inr (.inl fo)))] (fun (r : Int32) (u : Unit) => r = nI 1) (fun (u : Unit) => [(ho, .inr (11, [.ref al, .ref sv, .ref ts, .ref pb, .null, .int lr])), (al, .inr (4, [.int md, .ref (gE G), .int (nI 0)])), (ou, .inl (gyL G, 1, .inr (.inl fo)))]) := by
  intro sz
  refine met_ofWH (cc := cL_solutions) (maxL := 4) (ret := (some .int)) (hh := [(0, 9, 12, 19)]) (by decide) rfl ?_
  intro p e s m args below meth c s₁ B9 hml hv
  obtain ⟨rfl, hsz, hP, hK, hD0, hE⟩ := hv
  have hx := B9.exec
  have hb := B9.bytes
  have hr := B9.returns
  have hts : ∀ w ∈ WW, w.before ([.ref ho, .int v, .ref ou] : List Value).toArray s = true := fun w h => atoms_spec (ws := .codeWith yL_solutions cL_solutions 4 (some .int) [(0, 9, 12, 19)] :: WW) B9.pre w (List.mem_cons_of_mem _ h)
  have htab := vx_table (x := yL_solutions) B9 (atoms_spec (ws := .codeWith yL_solutions cL_solutions 4 (some .int) [(0, 9, 12, 19)] :: WW) B9.pre _ List.mem_cons_self)
  have hown : s.vm.findClass RL = some m.cls := findClass_of_methodNamed B9.named
  subst hsz
  have hD := hD0.self (sz := s.heap.size)
  generalize hAe : va_A [(ho, .inr (11, [.ref al, .ref sv, .ref ts, .ref pb, .null, .int lr])), (al, .inr (4, [.int md, .ref (gE G), .int (nI 0)])), (ou, .inl (gyL G, 1, .inr (.inl fo)))] s.heap.size = A at hD hE ⊢
  have hA : ∀ q : Nat, s.heap.size ≤ q → A q := fun q h => by rw [← hAe]; exact Or.inr h
  have hl := lv_entry ([.ref ho, .int v, .ref ou]) (n := 4) (Nat.le_of_ble_eq_true rfl)
  rw [lg_entry_eq]
  generalize (lg_sl ([.ref ho, .int v, .ref ou]) ++ List.replicate (4 - (lg_sl ([.ref ho, .int v, .ref ou])).length) Slot.unset).toArray = ls at hl ⊢
  have hl : lv_has ls 4 [(0, .ref ho), (1, .int v), (2, .ref ou)] := hl
  refine qgen (fun Q hQ => ?_)
  refine hgen (fun H locs hP hD hS => ?_) hP hD
  refine lv_aload_n hx hb dL_solutions_0 rfl (lv_at hl 2 rfl) ?_
  refine lv_iconst (v := nI 0) hx hb dL_solutions_1 (by decide) ?_
  refine lv_aload_n hx hb dL_solutions_2 rfl (lv_at hl 0 rfl) ?_
  refine lv_iload_n hx hb dL_solutions_3 rfl (lv_at hl 1 rfl) ?_
  refine finx hP hD hS hA [0, 1] [2] (wr := [(ou, .inl (gyL G, 1, .inr (.inl fo)))]) rfl rfl (by decide) (by decide) (vx_runV (As := [.int v]) (rest := [.int (nI 0), .ref ou]) ⟨hx, hb, hml, hown, hts⟩ (c_X6_solutions l G ho al ts pb lr sv md v hst H.size) (cwV 1 hts (gV q717 q718 q719 q45 q720) rfl rfl rfl (by decide +kernel) ⟨Nat.le_of_ble_eq_true rfl, Nat.le_of_ble_eq_true rfl⟩) (preV (q0 := 0) (ci := 11) hK hE hP hD hS hA [0, 1] rfl (by decide) rfl rfl) rfl rfl hl.1 rfl (lv_room (Nat.le_of_ble_eq_true rfl)) dL_solutions_4 ⟨Nat.le_of_ble_eq_true rfl, Nat.le_of_ble_eq_true rfl⟩) (fun ce9 q9 H locs hP hD hS hc9 hv9 hf9 => ?_)
  have hP : va_P (gD G) vwCl [(ou, .inl (gyL G, 1, .inr (.inl fo))), (ho, .inr (11, [.ref al, .ref sv, .ref ts, .ref pb, .null, .int lr])), (al, .inr (4, [.int md, .ref (gE G), .int (nI 0)]))] H := hP
  have hD : va_D A [(ou, .inl (gyL G, 1, .inr (.inl fo))), (ho, .inr (11, [.ref al, .ref sv, .ref ts, .ref pb, .null, .int lr])), (al, .inr (4, [.int md, .ref (gE G), .int (nI 0)]))] := hD
  refine vx_catch (own := RL) (name := "java/lang/IndexOutOfBoundsException") (E := "java/lang/IndexOutOfBoundsException") hown [] ⟨0, 9, 12, 19⟩ [] (htab.trans rfl) (fun z9 h9 => nomatch h9) (by decide) (by decide) (hts _ q537) (nw_use rfl (hE.1.1 _ nq572)) hc9 hv9 hf9 ?_
  refine lv_astore_n (lv' := [(3, .ref q9), (0, .ref ho), (1, .int v), (2, .ref ou)]) hx hb dL_solutions_12 rfl hl (by decide) rfl (fun ls hl => ?_)
  refine lv_iconst (v := nI 1) hx hb dL_solutions_13 (by decide) ?_
  have hP9 := hP.sub (ws' := [(ho, .inr (11, [.ref al, .ref sv, .ref ts, .ref pb, .null, .int lr])), (al, .inr (4, [.int md, .ref (gE G), .int (nI 0)])), (ou, .inl (gyL G, 1, .inr (.inl fo)))]) [1, 2, 0] rfl
  have hD9 := hD.sub (ws' := [(ho, .inr (11, [.ref al, .ref sv, .ref ts, .ref pb, .null, .int lr])), (al, .inr (4, [.int md, .ref (gE G), .int (nI 0)])), (ou, .inl (gyL G, 1, .inr (.inl fo)))]) [1, 2, 0] (by decide) rfl
  subst hQ
  exact W.iret (v := nI 1) hx hb hr (fun t ht hW => ⟨⟨nI 1, (), rfl, rfl, by rw [ht]; exact hP9, hD9⟩, hS.F ht⟩) hS.2.2 dL_solutions_14
set_option maxHeartbeats 4000000 in
set_option maxRecDepth 100000 in
theorem l_solution (l : Launch) (G : GG) (ho : Nat) (al : Nat) (ts : Nat) (pb : Nat) (lr : Int32) (sv : Nat) (md : Int32) (v : Int32) (v2 : Int32) (ou : Nat) (fo : Nat → Int64) (hst : l.stackTraces = false) : Mh l G yL_solution cL_solution 5 [(0, 10, 13, 19), (0, 10, 17, 45)] ({ frames := 8, cells := 1, slots := 6, locals := 127 } : Room) [.ref ho, .int v, .int v2, .ref ou] [(ho, .inr (11, [.ref al, .ref sv, .ref ts, .ref pb, .null, .int lr])), (al, .inr (4, [.int md, .ref (gE G), .int (nI 0)])), (ou, .inl (gyL G, 1, .inr (.inl fo)))] (fun (r : Int32) (u : Unit) => r = nI 1) (fun (u : Unit) => [(ho, .inr (11, [.ref al, .ref sv, .ref ts, .ref pb, .null, .int lr])), (al, .inr (4, [.int md, .ref (gE G), .int (nI 0)])), (ou, .inl (gyL G, 1, .inr (.inl fo)))]) := by
  intro sz
  refine met_ofWH (cc := cL_solution) (maxL := 5) (ret := (some .int)) (hh := [(0, 10, 13, 19), (0, 10, 17, 45)]) (by decide) rfl ?_
  intro p e s m args below meth c s₁ B9 hml hv
  obtain ⟨rfl, hsz, hP, hK, hD0, hE⟩ := hv
  have hx := B9.exec
  have hb := B9.bytes
  have hr := B9.returns
  have hts : ∀ w ∈ WW, w.before ([.ref ho, .int v, .int v2, .ref ou] : List Value).toArray s = true := fun w h => atoms_spec (ws := .codeWith yL_solution cL_solution 5 (some .int) [(0, 10, 13, 19), (0, 10, 17, 45)] :: WW) B9.pre w (List.mem_cons_of_mem _ h)
  have htab := vx_table (x := yL_solution) B9 (atoms_spec (ws := .codeWith yL_solution cL_solution 5 (some .int) [(0, 10, 13, 19), (0, 10, 17, 45)] :: WW) B9.pre _ List.mem_cons_self)
  have hown : s.vm.findClass RL = some m.cls := findClass_of_methodNamed B9.named
  subst hsz
  have hD := hD0.self (sz := s.heap.size)
  generalize hAe : va_A [(ho, .inr (11, [.ref al, .ref sv, .ref ts, .ref pb, .null, .int lr])), (al, .inr (4, [.int md, .ref (gE G), .int (nI 0)])), (ou, .inl (gyL G, 1, .inr (.inl fo)))] s.heap.size = A at hD hE ⊢
  have hA : ∀ q : Nat, s.heap.size ≤ q → A q := fun q h => by rw [← hAe]; exact Or.inr h
  have hl := lv_entry ([.ref ho, .int v, .int v2, .ref ou]) (n := 5) (Nat.le_of_ble_eq_true rfl)
  rw [lg_entry_eq]
  generalize (lg_sl ([.ref ho, .int v, .int v2, .ref ou]) ++ List.replicate (5 - (lg_sl ([.ref ho, .int v, .int v2, .ref ou])).length) Slot.unset).toArray = ls at hl ⊢
  have hl : lv_has ls 5 [(0, .ref ho), (1, .int v), (2, .int v2), (3, .ref ou)] := hl
  refine qgen (fun Q hQ => ?_)
  refine hgen (fun H locs hP hD hS => ?_) hP hD
  refine lv_aload_n hx hb dL_solution_0 rfl (lv_at hl 3 rfl) ?_
  refine lv_iconst (v := nI 0) hx hb dL_solution_1 (by decide) ?_
  refine lv_aload_n hx hb dL_solution_2 rfl (lv_at hl 0 rfl) ?_
  refine lv_iload_n hx hb dL_solution_3 rfl (lv_at hl 1 rfl) ?_
  refine lv_iload_n hx hb dL_solution_4 rfl (lv_at hl 2 rfl) ?_
  refine finx hP hD hS hA [0, 1] [2] (wr := [(ou, .inl (gyL G, 1, .inr (.inl fo)))]) rfl rfl (by decide) (by decide) (vx_runV (As := [.int v, .int v2]) (rest := [.int (nI 0), .ref ou]) ⟨hx, hb, hml, hown, hts⟩ (c_X6_solution l G ho al ts pb lr sv md v v2 hst H.size) (cwV 2 hts (gV q725 q726 q727 q45 q728) rfl rfl rfl (by decide +kernel) ⟨Nat.le_of_ble_eq_true rfl, Nat.le_of_ble_eq_true rfl⟩) (preV (q0 := 0) (ci := 11) hK hE hP hD hS hA [0, 1] rfl (by decide) rfl rfl) rfl rfl hl.1 rfl (lv_room (Nat.le_of_ble_eq_true rfl)) dL_solution_5 ⟨Nat.le_of_ble_eq_true rfl, Nat.le_of_ble_eq_true rfl⟩) (fun ce9 q9 H locs hP hD hS hc9 hv9 hf9 => ?_)
  have hP : va_P (gD G) vwCl [(ou, .inl (gyL G, 1, .inr (.inl fo))), (ho, .inr (11, [.ref al, .ref sv, .ref ts, .ref pb, .null, .int lr])), (al, .inr (4, [.int md, .ref (gE G), .int (nI 0)]))] H := hP
  have hD : va_D A [(ou, .inl (gyL G, 1, .inr (.inl fo))), (ho, .inr (11, [.ref al, .ref sv, .ref ts, .ref pb, .null, .int lr])), (al, .inr (4, [.int md, .ref (gE G), .int (nI 0)]))] := hD
  refine vx_catch (own := RL) (name := "java/lang/IndexOutOfBoundsException") (E := "java/lang/IndexOutOfBoundsException") hown [] ⟨0, 10, 13, 19⟩ [⟨0, 10, 17, 45⟩] (htab.trans rfl) (fun z9 h9 => nomatch h9) (by decide) (by decide) (hts _ q537) (nw_use rfl (hE.1.1 _ nq572)) hc9 hv9 hf9 ?_
  refine lv_astore (lv' := [(4, .ref q9), (0, .ref ho), (1, .int v), (2, .int v2), (3, .ref ou)]) hx hb dL_solution_13 hl (by decide) rfl (fun ls hl => ?_)
  refine lv_iconst (v := nI 1) hx hb dL_solution_15 (by decide) ?_
  have hP9 := hP.sub (ws' := [(ho, .inr (11, [.ref al, .ref sv, .ref ts, .ref pb, .null, .int lr])), (al, .inr (4, [.int md, .ref (gE G), .int (nI 0)])), (ou, .inl (gyL G, 1, .inr (.inl fo)))]) [1, 2, 0] rfl
  have hD9 := hD.sub (ws' := [(ho, .inr (11, [.ref al, .ref sv, .ref ts, .ref pb, .null, .int lr])), (al, .inr (4, [.int md, .ref (gE G), .int (nI 0)])), (ou, .inl (gyL G, 1, .inr (.inl fo)))]) [1, 2, 0] (by decide) rfl
  subst hQ
  exact W.iret (v := nI 1) hx hb hr (fun t ht hW => ⟨⟨nI 1, (), rfl, rfl, by rw [ht]; exact hP9, hD9⟩, hS.F ht⟩) hS.2.2 dL_solution_16
set_option maxHeartbeats 4000000 in
set_option maxRecDepth 100000 in
theorem l_solve (l : Launch) (G : GG) (ho : Nat) (al : Nat) (ts : Nat) (pb : Nat) (lr : Int32) (sv : Nat) (md : Int32) (v : Int32) (ou : Nat) (fo : Nat → Int64) (hst : l.stackTraces = false) : Mh l G yL_solve cL_solve 4 [(0, 9, 12, 19)] ({ frames := 8, cells := 1, slots := 6, locals := 124 } : Room) [.ref ho, .int v, .ref ou] [(ho, .inr (11, [.ref al, .ref sv, .ref ts, .ref pb, .null, .int lr])), (al, .inr (4, [.int md, .ref (gE G), .int (nI 0)])), (ou, .inl (gyL G, 1, .inr (.inl fo)))] (fun (r : Int32) (u : Unit) => r = nI 1) (fun (u : Unit) => [(ho, .inr (11, [.ref al, .ref sv, .ref ts, .ref pb, .null, .int lr])), (al, .inr (4, [.int md, .ref (gE G), .int (nI 0)])), (ou, .inl (gyL G, 1, .inr (.inl fo)))]) := by
  intro sz
  refine met_ofWH (cc := cL_solve) (maxL := 4) (ret := (some .int)) (hh := [(0, 9, 12, 19)]) (by decide) rfl ?_
  intro p e s m args below meth c s₁ B9 hml hv
  obtain ⟨rfl, hsz, hP, hK, hD0, hE⟩ := hv
  have hx := B9.exec
  have hb := B9.bytes
  have hr := B9.returns
  have hts : ∀ w ∈ WW, w.before ([.ref ho, .int v, .ref ou] : List Value).toArray s = true := fun w h => atoms_spec (ws := .codeWith yL_solve cL_solve 4 (some .int) [(0, 9, 12, 19)] :: WW) B9.pre w (List.mem_cons_of_mem _ h)
  have htab := vx_table (x := yL_solve) B9 (atoms_spec (ws := .codeWith yL_solve cL_solve 4 (some .int) [(0, 9, 12, 19)] :: WW) B9.pre _ List.mem_cons_self)
  have hown : s.vm.findClass RL = some m.cls := findClass_of_methodNamed B9.named
  subst hsz
  have hD := hD0.self (sz := s.heap.size)
  generalize hAe : va_A [(ho, .inr (11, [.ref al, .ref sv, .ref ts, .ref pb, .null, .int lr])), (al, .inr (4, [.int md, .ref (gE G), .int (nI 0)])), (ou, .inl (gyL G, 1, .inr (.inl fo)))] s.heap.size = A at hD hE ⊢
  have hA : ∀ q : Nat, s.heap.size ≤ q → A q := fun q h => by rw [← hAe]; exact Or.inr h
  have hl := lv_entry ([.ref ho, .int v, .ref ou]) (n := 4) (Nat.le_of_ble_eq_true rfl)
  rw [lg_entry_eq]
  generalize (lg_sl ([.ref ho, .int v, .ref ou]) ++ List.replicate (4 - (lg_sl ([.ref ho, .int v, .ref ou])).length) Slot.unset).toArray = ls at hl ⊢
  have hl : lv_has ls 4 [(0, .ref ho), (1, .int v), (2, .ref ou)] := hl
  refine qgen (fun Q hQ => ?_)
  refine hgen (fun H locs hP hD hS => ?_) hP hD
  refine lv_aload_n hx hb dL_solve_0 rfl (lv_at hl 2 rfl) ?_
  refine lv_iconst (v := nI 0) hx hb dL_solve_1 (by decide) ?_
  refine lv_aload_n hx hb dL_solve_2 rfl (lv_at hl 0 rfl) ?_
  refine lv_iload_n hx hb dL_solve_3 rfl (lv_at hl 1 rfl) ?_
  refine finx hP hD hS hA [0, 1] [2] (wr := [(ou, .inl (gyL G, 1, .inr (.inl fo)))]) rfl rfl (by decide) (by decide) (vx_runV (As := [.int v]) (rest := [.int (nI 0), .ref ou]) ⟨hx, hb, hml, hown, hts⟩ (c_X6_solve l G ho al ts pb lr sv md v hst H.size) (cwV 1 hts (gV q748 q749 q750 q45 q751) rfl rfl rfl (by decide +kernel) ⟨Nat.le_of_ble_eq_true rfl, Nat.le_of_ble_eq_true rfl⟩) (preV (q0 := 0) (ci := 11) hK hE hP hD hS hA [0, 1] rfl (by decide) rfl rfl) rfl rfl hl.1 rfl (lv_room (Nat.le_of_ble_eq_true rfl)) dL_solve_4 ⟨Nat.le_of_ble_eq_true rfl, Nat.le_of_ble_eq_true rfl⟩) (fun ce9 q9 H locs hP hD hS hc9 hv9 hf9 => ?_)
  have hP : va_P (gD G) vwCl [(ou, .inl (gyL G, 1, .inr (.inl fo))), (ho, .inr (11, [.ref al, .ref sv, .ref ts, .ref pb, .null, .int lr])), (al, .inr (4, [.int md, .ref (gE G), .int (nI 0)]))] H := hP
  have hD : va_D A [(ou, .inl (gyL G, 1, .inr (.inl fo))), (ho, .inr (11, [.ref al, .ref sv, .ref ts, .ref pb, .null, .int lr])), (al, .inr (4, [.int md, .ref (gE G), .int (nI 0)]))] := hD
  refine vx_catch (own := RL) (name := "java/lang/IndexOutOfBoundsException") (E := "java/lang/IndexOutOfBoundsException") hown [] ⟨0, 9, 12, 19⟩ [] (htab.trans rfl) (fun z9 h9 => nomatch h9) (by decide) (by decide) (hts _ q537) (nw_use rfl (hE.1.1 _ nq572)) hc9 hv9 hf9 ?_
  refine lv_astore_n (lv' := [(3, .ref q9), (0, .ref ho), (1, .int v), (2, .ref ou)]) hx hb dL_solve_12 rfl hl (by decide) rfl (fun ls hl => ?_)
  refine lv_iconst (v := nI 1) hx hb dL_solve_13 (by decide) ?_
  have hP9 := hP.sub (ws' := [(ho, .inr (11, [.ref al, .ref sv, .ref ts, .ref pb, .null, .int lr])), (al, .inr (4, [.int md, .ref (gE G), .int (nI 0)])), (ou, .inl (gyL G, 1, .inr (.inl fo)))]) [1, 2, 0] rfl
  have hD9 := hD.sub (ws' := [(ho, .inr (11, [.ref al, .ref sv, .ref ts, .ref pb, .null, .int lr])), (al, .inr (4, [.int md, .ref (gE G), .int (nI 0)])), (ou, .inl (gyL G, 1, .inr (.inl fo)))]) [1, 2, 0] (by decide) rfl
  subst hQ
  exact W.iret (v := nI 1) hx hb hr (fun t ht hW => ⟨⟨nI 1, (), rfl, rfl, by rw [ht]; exact hP9, hD9⟩, hS.F ht⟩) hS.2.2 dL_solve_14
set_option maxHeartbeats 4000000 in
set_option maxRecDepth 100000 in
theorem l_steps (l : Launch) (G : GG) (ho : Nat) (al : Nat) (ts : Nat) (pb : Nat) (lr : Int32) (sv : Nat) (md : Int32) (v : Int32) (ou : Nat) (fo : Nat → Int64) (hst : l.stackTraces = false) : Mh l G yL_steps cL_steps 4 [(0, 9, 12, 19)] ({ frames := 8, cells := 1, slots := 6, locals := 124 } : Room) [.ref ho, .int v, .ref ou] [(ho, .inr (11, [.ref al, .ref sv, .ref ts, .ref pb, .null, .int lr])), (al, .inr (4, [.int md, .ref (gE G), .int (nI 0)])), (ou, .inl (gyL G, 1, .inr (.inl fo)))] (fun (r : Int32) (u : Unit) => r = nI 1) (fun (u : Unit) => [(ho, .inr (11, [.ref al, .ref sv, .ref ts, .ref pb, .null, .int lr])), (al, .inr (4, [.int md, .ref (gE G), .int (nI 0)])), (ou, .inl (gyL G, 1, .inr (.inl fo)))]) := by
  intro sz
  refine met_ofWH (cc := cL_steps) (maxL := 4) (ret := (some .int)) (hh := [(0, 9, 12, 19)]) (by decide) rfl ?_
  intro p e s m args below meth c s₁ B9 hml hv
  obtain ⟨rfl, hsz, hP, hK, hD0, hE⟩ := hv
  have hx := B9.exec
  have hb := B9.bytes
  have hr := B9.returns
  have hts : ∀ w ∈ WW, w.before ([.ref ho, .int v, .ref ou] : List Value).toArray s = true := fun w h => atoms_spec (ws := .codeWith yL_steps cL_steps 4 (some .int) [(0, 9, 12, 19)] :: WW) B9.pre w (List.mem_cons_of_mem _ h)
  have htab := vx_table (x := yL_steps) B9 (atoms_spec (ws := .codeWith yL_steps cL_steps 4 (some .int) [(0, 9, 12, 19)] :: WW) B9.pre _ List.mem_cons_self)
  have hown : s.vm.findClass RL = some m.cls := findClass_of_methodNamed B9.named
  subst hsz
  have hD := hD0.self (sz := s.heap.size)
  generalize hAe : va_A [(ho, .inr (11, [.ref al, .ref sv, .ref ts, .ref pb, .null, .int lr])), (al, .inr (4, [.int md, .ref (gE G), .int (nI 0)])), (ou, .inl (gyL G, 1, .inr (.inl fo)))] s.heap.size = A at hD hE ⊢
  have hA : ∀ q : Nat, s.heap.size ≤ q → A q := fun q h => by rw [← hAe]; exact Or.inr h
  have hl := lv_entry ([.ref ho, .int v, .ref ou]) (n := 4) (Nat.le_of_ble_eq_true rfl)
  rw [lg_entry_eq]
  generalize (lg_sl ([.ref ho, .int v, .ref ou]) ++ List.replicate (4 - (lg_sl ([.ref ho, .int v, .ref ou])).length) Slot.unset).toArray = ls at hl ⊢
  have hl : lv_has ls 4 [(0, .ref ho), (1, .int v), (2, .ref ou)] := hl
  refine qgen (fun Q hQ => ?_)
  refine hgen (fun H locs hP hD hS => ?_) hP hD
  refine lv_aload_n hx hb dL_steps_0 rfl (lv_at hl 2 rfl) ?_
  refine lv_iconst (v := nI 0) hx hb dL_steps_1 (by decide) ?_
  refine lv_aload_n hx hb dL_steps_2 rfl (lv_at hl 0 rfl) ?_
  refine lv_iload_n hx hb dL_steps_3 rfl (lv_at hl 1 rfl) ?_
  refine finx hP hD hS hA [0, 1] [2] (wr := [(ou, .inl (gyL G, 1, .inr (.inl fo)))]) rfl rfl (by decide) (by decide) (vx_runV (As := [.int v]) (rest := [.int (nI 0), .ref ou]) ⟨hx, hb, hml, hown, hts⟩ (c_X6_steps l G ho al ts pb lr sv md v hst H.size) (cwV 1 hts (gV q755 q756 q757 q45 q758) rfl rfl rfl (by decide +kernel) ⟨Nat.le_of_ble_eq_true rfl, Nat.le_of_ble_eq_true rfl⟩) (preV (q0 := 0) (ci := 11) hK hE hP hD hS hA [0, 1] rfl (by decide) rfl rfl) rfl rfl hl.1 rfl (lv_room (Nat.le_of_ble_eq_true rfl)) dL_steps_4 ⟨Nat.le_of_ble_eq_true rfl, Nat.le_of_ble_eq_true rfl⟩) (fun ce9 q9 H locs hP hD hS hc9 hv9 hf9 => ?_)
  have hP : va_P (gD G) vwCl [(ou, .inl (gyL G, 1, .inr (.inl fo))), (ho, .inr (11, [.ref al, .ref sv, .ref ts, .ref pb, .null, .int lr])), (al, .inr (4, [.int md, .ref (gE G), .int (nI 0)]))] H := hP
  have hD : va_D A [(ou, .inl (gyL G, 1, .inr (.inl fo))), (ho, .inr (11, [.ref al, .ref sv, .ref ts, .ref pb, .null, .int lr])), (al, .inr (4, [.int md, .ref (gE G), .int (nI 0)]))] := hD
  refine vx_catch (own := RL) (name := "java/lang/IndexOutOfBoundsException") (E := "java/lang/IndexOutOfBoundsException") hown [] ⟨0, 9, 12, 19⟩ [] (htab.trans rfl) (fun z9 h9 => nomatch h9) (by decide) (by decide) (hts _ q537) (nw_use rfl (hE.1.1 _ nq572)) hc9 hv9 hf9 ?_
  refine lv_astore_n (lv' := [(3, .ref q9), (0, .ref ho), (1, .int v), (2, .ref ou)]) hx hb dL_steps_12 rfl hl (by decide) rfl (fun ls hl => ?_)
  refine lv_iconst (v := nI 1) hx hb dL_steps_13 (by decide) ?_
  have hP9 := hP.sub (ws' := [(ho, .inr (11, [.ref al, .ref sv, .ref ts, .ref pb, .null, .int lr])), (al, .inr (4, [.int md, .ref (gE G), .int (nI 0)])), (ou, .inl (gyL G, 1, .inr (.inl fo)))]) [1, 2, 0] rfl
  have hD9 := hD.sub (ws' := [(ho, .inr (11, [.ref al, .ref sv, .ref ts, .ref pb, .null, .int lr])), (al, .inr (4, [.int md, .ref (gE G), .int (nI 0)])), (ou, .inl (gyL G, 1, .inr (.inl fo)))]) [1, 2, 0] (by decide) rfl
  subst hQ
  exact W.iret (v := nI 1) hx hb hr (fun t ht hW => ⟨⟨nI 1, (), rfl, rfl, by rw [ht]; exact hP9, hD9⟩, hS.F ht⟩) hS.2.2 dL_steps_14
set_option maxHeartbeats 4000000 in
set_option maxRecDepth 100000 in
theorem l_stepAt (l : Launch) (G : GG) (ho : Nat) (al : Nat) (ts : Nat) (pb : Nat) (lr : Int32) (sv : Nat) (md : Int32) (v : Int32) (v2 : Int32) (ou : Nat) (fo : Nat → Int64) (hst : l.stackTraces = false) : Mh l G yL_stepAt cL_stepAt 5 [(0, 10, 13, 19), (0, 10, 17, 45)] ({ frames := 8, cells := 1, slots := 6, locals := 126 } : Room) [.ref ho, .int v, .int v2, .ref ou] [(ho, .inr (11, [.ref al, .ref sv, .ref ts, .ref pb, .null, .int lr])), (al, .inr (4, [.int md, .ref (gE G), .int (nI 0)])), (ou, .inl (gyL G, 1, .inr (.inl fo)))] (fun (r : Int32) (u : Unit) => r = nI 1) (fun (u : Unit) => [(ho, .inr (11, [.ref al, .ref sv, .ref ts, .ref pb, .null, .int lr])), (al, .inr (4, [.int md, .ref (gE G), .int (nI 0)])), (ou, .inl (gyL G, 1, .inr (.inl fo)))]) := by
  intro sz
  refine met_ofWH (cc := cL_stepAt) (maxL := 5) (ret := (some .int)) (hh := [(0, 10, 13, 19), (0, 10, 17, 45)]) (by decide) rfl ?_
  intro p e s m args below meth c s₁ B9 hml hv
  obtain ⟨rfl, hsz, hP, hK, hD0, hE⟩ := hv
  have hx := B9.exec
  have hb := B9.bytes
  have hr := B9.returns
  have hts : ∀ w ∈ WW, w.before ([.ref ho, .int v, .int v2, .ref ou] : List Value).toArray s = true := fun w h => atoms_spec (ws := .codeWith yL_stepAt cL_stepAt 5 (some .int) [(0, 10, 13, 19), (0, 10, 17, 45)] :: WW) B9.pre w (List.mem_cons_of_mem _ h)
  have htab := vx_table (x := yL_stepAt) B9 (atoms_spec (ws := .codeWith yL_stepAt cL_stepAt 5 (some .int) [(0, 10, 13, 19), (0, 10, 17, 45)] :: WW) B9.pre _ List.mem_cons_self)
  have hown : s.vm.findClass RL = some m.cls := findClass_of_methodNamed B9.named
  subst hsz
  have hD := hD0.self (sz := s.heap.size)
  generalize hAe : va_A [(ho, .inr (11, [.ref al, .ref sv, .ref ts, .ref pb, .null, .int lr])), (al, .inr (4, [.int md, .ref (gE G), .int (nI 0)])), (ou, .inl (gyL G, 1, .inr (.inl fo)))] s.heap.size = A at hD hE ⊢
  have hA : ∀ q : Nat, s.heap.size ≤ q → A q := fun q h => by rw [← hAe]; exact Or.inr h
  have hl := lv_entry ([.ref ho, .int v, .int v2, .ref ou]) (n := 5) (Nat.le_of_ble_eq_true rfl)
  rw [lg_entry_eq]
  generalize (lg_sl ([.ref ho, .int v, .int v2, .ref ou]) ++ List.replicate (5 - (lg_sl ([.ref ho, .int v, .int v2, .ref ou])).length) Slot.unset).toArray = ls at hl ⊢
  have hl : lv_has ls 5 [(0, .ref ho), (1, .int v), (2, .int v2), (3, .ref ou)] := hl
  refine qgen (fun Q hQ => ?_)
  refine hgen (fun H locs hP hD hS => ?_) hP hD
  refine lv_aload_n hx hb dL_stepAt_0 rfl (lv_at hl 3 rfl) ?_
  refine lv_iconst (v := nI 0) hx hb dL_stepAt_1 (by decide) ?_
  refine lv_aload_n hx hb dL_stepAt_2 rfl (lv_at hl 0 rfl) ?_
  refine lv_iload_n hx hb dL_stepAt_3 rfl (lv_at hl 1 rfl) ?_
  refine lv_iload_n hx hb dL_stepAt_4 rfl (lv_at hl 2 rfl) ?_
  refine finx hP hD hS hA [0, 1] [2] (wr := [(ou, .inl (gyL G, 1, .inr (.inl fo)))]) rfl rfl (by decide) (by decide) (vx_runV (As := [.int v, .int v2]) (rest := [.int (nI 0), .ref ou]) ⟨hx, hb, hml, hown, hts⟩ (c_X6_stepAt l G ho al ts pb lr sv md v v2 hst H.size) (cwV 2 hts (gV q762 q763 q764 q45 q765) rfl rfl rfl (by decide +kernel) ⟨Nat.le_of_ble_eq_true rfl, Nat.le_of_ble_eq_true rfl⟩) (preV (q0 := 0) (ci := 11) hK hE hP hD hS hA [0, 1] rfl (by decide) rfl rfl) rfl rfl hl.1 rfl (lv_room (Nat.le_of_ble_eq_true rfl)) dL_stepAt_5 ⟨Nat.le_of_ble_eq_true rfl, Nat.le_of_ble_eq_true rfl⟩) (fun ce9 q9 H locs hP hD hS hc9 hv9 hf9 => ?_)
  have hP : va_P (gD G) vwCl [(ou, .inl (gyL G, 1, .inr (.inl fo))), (ho, .inr (11, [.ref al, .ref sv, .ref ts, .ref pb, .null, .int lr])), (al, .inr (4, [.int md, .ref (gE G), .int (nI 0)]))] H := hP
  have hD : va_D A [(ou, .inl (gyL G, 1, .inr (.inl fo))), (ho, .inr (11, [.ref al, .ref sv, .ref ts, .ref pb, .null, .int lr])), (al, .inr (4, [.int md, .ref (gE G), .int (nI 0)]))] := hD
  refine vx_catch (own := RL) (name := "java/lang/IndexOutOfBoundsException") (E := "java/lang/IndexOutOfBoundsException") hown [] ⟨0, 10, 13, 19⟩ [⟨0, 10, 17, 45⟩] (htab.trans rfl) (fun z9 h9 => nomatch h9) (by decide) (by decide) (hts _ q537) (nw_use rfl (hE.1.1 _ nq572)) hc9 hv9 hf9 ?_
  refine lv_astore (lv' := [(4, .ref q9), (0, .ref ho), (1, .int v), (2, .int v2), (3, .ref ou)]) hx hb dL_stepAt_13 hl (by decide) rfl (fun ls hl => ?_)
  refine lv_iconst (v := nI 1) hx hb dL_stepAt_15 (by decide) ?_
  have hP9 := hP.sub (ws' := [(ho, .inr (11, [.ref al, .ref sv, .ref ts, .ref pb, .null, .int lr])), (al, .inr (4, [.int md, .ref (gE G), .int (nI 0)])), (ou, .inl (gyL G, 1, .inr (.inl fo)))]) [1, 2, 0] rfl
  have hD9 := hD.sub (ws' := [(ho, .inr (11, [.ref al, .ref sv, .ref ts, .ref pb, .null, .int lr])), (al, .inr (4, [.int md, .ref (gE G), .int (nI 0)])), (ou, .inl (gyL G, 1, .inr (.inl fo)))]) [1, 2, 0] (by decide) rfl
  subst hQ
  exact W.iret (v := nI 1) hx hb hr (fun t ht hW => ⟨⟨nI 1, (), rfl, rfl, by rw [ht]; exact hP9, hD9⟩, hS.F ht⟩) hS.2.2 dL_stepAt_16
set_option maxHeartbeats 4000000 in
set_option maxRecDepth 100000 in
theorem l_grade (l : Launch) (G : GG) (ho : Nat) (al : Nat) (ts : Nat) (pb : Nat) (lr : Int32) (sv : Nat) (md : Int32) (v : Int32) (ou : Nat) (fo : Nat → Int64) (hst : l.stackTraces = false) : Mh l G yL_grade cL_grade 4 [(0, 9, 12, 19), (0, 9, 15, 26)] ({ frames := 8, cells := 1, slots := 6, locals := 125 } : Room) [.ref ho, .int v, .ref ou] [(ho, .inr (11, [.ref al, .ref sv, .ref ts, .ref pb, .null, .int lr])), (al, .inr (4, [.int md, .ref (gE G), .int (nI 0)])), (ou, .inl (gyL G, 1, .inr (.inl fo)))] (fun (r : Int32) (u : Unit) => r = nI 1) (fun (u : Unit) => [(ho, .inr (11, [.ref al, .ref sv, .ref ts, .ref pb, .null, .int lr])), (al, .inr (4, [.int md, .ref (gE G), .int (nI 0)])), (ou, .inl (gyL G, 1, .inr (.inl fo)))]) := by
  intro sz
  refine met_ofWH (cc := cL_grade) (maxL := 4) (ret := (some .int)) (hh := [(0, 9, 12, 19), (0, 9, 15, 26)]) (by decide) rfl ?_
  intro p e s m args below meth c s₁ B9 hml hv
  obtain ⟨rfl, hsz, hP, hK, hD0, hE⟩ := hv
  have hx := B9.exec
  have hb := B9.bytes
  have hr := B9.returns
  have hts : ∀ w ∈ WW, w.before ([.ref ho, .int v, .ref ou] : List Value).toArray s = true := fun w h => atoms_spec (ws := .codeWith yL_grade cL_grade 4 (some .int) [(0, 9, 12, 19), (0, 9, 15, 26)] :: WW) B9.pre w (List.mem_cons_of_mem _ h)
  have htab := vx_table (x := yL_grade) B9 (atoms_spec (ws := .codeWith yL_grade cL_grade 4 (some .int) [(0, 9, 12, 19), (0, 9, 15, 26)] :: WW) B9.pre _ List.mem_cons_self)
  have hown : s.vm.findClass RL = some m.cls := findClass_of_methodNamed B9.named
  subst hsz
  have hD := hD0.self (sz := s.heap.size)
  generalize hAe : va_A [(ho, .inr (11, [.ref al, .ref sv, .ref ts, .ref pb, .null, .int lr])), (al, .inr (4, [.int md, .ref (gE G), .int (nI 0)])), (ou, .inl (gyL G, 1, .inr (.inl fo)))] s.heap.size = A at hD hE ⊢
  have hA : ∀ q : Nat, s.heap.size ≤ q → A q := fun q h => by rw [← hAe]; exact Or.inr h
  have hl := lv_entry ([.ref ho, .int v, .ref ou]) (n := 4) (Nat.le_of_ble_eq_true rfl)
  rw [lg_entry_eq]
  generalize (lg_sl ([.ref ho, .int v, .ref ou]) ++ List.replicate (4 - (lg_sl ([.ref ho, .int v, .ref ou])).length) Slot.unset).toArray = ls at hl ⊢
  have hl : lv_has ls 4 [(0, .ref ho), (1, .int v), (2, .ref ou)] := hl
  refine qgen (fun Q hQ => ?_)
  refine hgen (fun H locs hP hD hS => ?_) hP hD
  refine lv_aload_n hx hb dL_grade_0 rfl (lv_at hl 2 rfl) ?_
  refine lv_iconst (v := nI 0) hx hb dL_grade_1 (by decide) ?_
  refine lv_aload_n hx hb dL_grade_2 rfl (lv_at hl 0 rfl) ?_
  refine lv_iload_n hx hb dL_grade_3 rfl (lv_at hl 1 rfl) ?_
  refine finx hP hD hS hA [0, 1] [2] (wr := [(ou, .inl (gyL G, 1, .inr (.inl fo)))]) rfl rfl (by decide) (by decide) (vx_runV (As := [.int v]) (rest := [.int (nI 0), .ref ou]) ⟨hx, hb, hml, hown, hts⟩ (c_X6_grade l G ho al ts pb lr sv md v hst H.size) (cwV 1 hts (gV q770 q771 q772 q45 q773) rfl rfl rfl (by decide +kernel) ⟨Nat.le_of_ble_eq_true rfl, Nat.le_of_ble_eq_true rfl⟩) (preV (q0 := 0) (ci := 11) hK hE hP hD hS hA [0, 1] rfl (by decide) rfl rfl) rfl rfl hl.1 rfl (lv_room (Nat.le_of_ble_eq_true rfl)) dL_grade_4 ⟨Nat.le_of_ble_eq_true rfl, Nat.le_of_ble_eq_true rfl⟩) (fun ce9 q9 H locs hP hD hS hc9 hv9 hf9 => ?_)
  have hP : va_P (gD G) vwCl [(ou, .inl (gyL G, 1, .inr (.inl fo))), (ho, .inr (11, [.ref al, .ref sv, .ref ts, .ref pb, .null, .int lr])), (al, .inr (4, [.int md, .ref (gE G), .int (nI 0)]))] H := hP
  have hD : va_D A [(ou, .inl (gyL G, 1, .inr (.inl fo))), (ho, .inr (11, [.ref al, .ref sv, .ref ts, .ref pb, .null, .int lr])), (al, .inr (4, [.int md, .ref (gE G), .int (nI 0)]))] := hD
  refine vx_catch (own := RL) (name := "java/lang/IndexOutOfBoundsException") (E := "java/lang/IndexOutOfBoundsException") hown [] ⟨0, 9, 12, 19⟩ [⟨0, 9, 15, 26⟩] (htab.trans rfl) (fun z9 h9 => nomatch h9) (by decide) (by decide) (hts _ q537) (nw_use rfl (hE.1.1 _ nq572)) hc9 hv9 hf9 ?_
  refine lv_astore_n (lv' := [(3, .ref q9), (0, .ref ho), (1, .int v), (2, .ref ou)]) hx hb dL_grade_12 rfl hl (by decide) rfl (fun ls hl => ?_)
  refine lv_iconst (v := nI 1) hx hb dL_grade_13 (by decide) ?_
  have hP9 := hP.sub (ws' := [(ho, .inr (11, [.ref al, .ref sv, .ref ts, .ref pb, .null, .int lr])), (al, .inr (4, [.int md, .ref (gE G), .int (nI 0)])), (ou, .inl (gyL G, 1, .inr (.inl fo)))]) [1, 2, 0] rfl
  have hD9 := hD.sub (ws' := [(ho, .inr (11, [.ref al, .ref sv, .ref ts, .ref pb, .null, .int lr])), (al, .inr (4, [.int md, .ref (gE G), .int (nI 0)])), (ou, .inl (gyL G, 1, .inr (.inl fo)))]) [1, 2, 0] (by decide) rfl
  subst hQ
  exact W.iret (v := nI 1) hx hb hr (fun t ht hW => ⟨⟨nI 1, (), rfl, rfl, by rw [ht]; exact hP9, hD9⟩, hS.F ht⟩) hS.2.2 dL_grade_14
set_option maxHeartbeats 4000000 in
set_option maxRecDepth 100000 in
theorem l_isMinimal (l : Launch) (G : GG) (ho : Nat) (al : Nat) (ts : Nat) (pb : Nat) (lr : Int32) (sv : Nat) (md : Int32) (v : Int32) (ou : Nat) (fo : Nat → Int64) (hst : l.stackTraces = false) : Mh l G yL_isMinimal cL_isMinimal 4 [(0, 16, 19, 19)] ({ frames := 8, cells := 1, slots := 6, locals := 126 } : Room) [.ref ho, .int v, .ref ou] [(ho, .inr (11, [.ref al, .ref sv, .ref ts, .ref pb, .null, .int lr])), (al, .inr (4, [.int md, .ref (gE G), .int (nI 0)])), (ou, .inl (gyL G, 1, .inr (.inl fo)))] (fun (r : Int32) (u : Unit) => r = nI 1) (fun (u : Unit) => [(ho, .inr (11, [.ref al, .ref sv, .ref ts, .ref pb, .null, .int lr])), (al, .inr (4, [.int md, .ref (gE G), .int (nI 0)])), (ou, .inl (gyL G, 1, .inr (.inl fo)))]) := by
  intro sz
  refine met_ofWH (cc := cL_isMinimal) (maxL := 4) (ret := (some .int)) (hh := [(0, 16, 19, 19)]) (by decide) rfl ?_
  intro p e s m args below meth c s₁ B9 hml hv
  obtain ⟨rfl, hsz, hP, hK, hD0, hE⟩ := hv
  have hx := B9.exec
  have hb := B9.bytes
  have hr := B9.returns
  have hts : ∀ w ∈ WW, w.before ([.ref ho, .int v, .ref ou] : List Value).toArray s = true := fun w h => atoms_spec (ws := .codeWith yL_isMinimal cL_isMinimal 4 (some .int) [(0, 16, 19, 19)] :: WW) B9.pre w (List.mem_cons_of_mem _ h)
  have htab := vx_table (x := yL_isMinimal) B9 (atoms_spec (ws := .codeWith yL_isMinimal cL_isMinimal 4 (some .int) [(0, 16, 19, 19)] :: WW) B9.pre _ List.mem_cons_self)
  have hown : s.vm.findClass RL = some m.cls := findClass_of_methodNamed B9.named
  subst hsz
  have hD := hD0.self (sz := s.heap.size)
  generalize hAe : va_A [(ho, .inr (11, [.ref al, .ref sv, .ref ts, .ref pb, .null, .int lr])), (al, .inr (4, [.int md, .ref (gE G), .int (nI 0)])), (ou, .inl (gyL G, 1, .inr (.inl fo)))] s.heap.size = A at hD hE ⊢
  have hA : ∀ q : Nat, s.heap.size ≤ q → A q := fun q h => by rw [← hAe]; exact Or.inr h
  have hl := lv_entry ([.ref ho, .int v, .ref ou]) (n := 4) (Nat.le_of_ble_eq_true rfl)
  rw [lg_entry_eq]
  generalize (lg_sl ([.ref ho, .int v, .ref ou]) ++ List.replicate (4 - (lg_sl ([.ref ho, .int v, .ref ou])).length) Slot.unset).toArray = ls at hl ⊢
  have hl : lv_has ls 4 [(0, .ref ho), (1, .int v), (2, .ref ou)] := hl
  refine qgen (fun Q hQ => ?_)
  refine hgen (fun H locs hP hD hS => ?_) hP hD
  refine lv_aload_n hx hb dL_isMinimal_0 rfl (lv_at hl 2 rfl) ?_
  refine lv_iconst (v := nI 0) hx hb dL_isMinimal_1 (by decide) ?_
  refine lv_aload_n hx hb dL_isMinimal_2 rfl (lv_at hl 0 rfl) ?_
  refine lv_iload_n hx hb dL_isMinimal_3 rfl (lv_at hl 1 rfl) ?_
  refine finx hP hD hS hA [0, 1] [2] (wr := [(ou, .inl (gyL G, 1, .inr (.inl fo)))]) rfl rfl (by decide) (by decide) (vx_runV (As := [.int v]) (rest := [.int (nI 0), .ref ou]) ⟨hx, hb, hml, hown, hts⟩ (c_X6_isMinimal l G ho al ts pb lr sv md v hst H.size) (cwV 1 hts (gV q782 q783 q784 q45 q785) rfl rfl rfl (by decide +kernel) ⟨Nat.le_of_ble_eq_true rfl, Nat.le_of_ble_eq_true rfl⟩) (preV (q0 := 0) (ci := 11) hK hE hP hD hS hA [0, 1] rfl (by decide) rfl rfl) rfl rfl hl.1 rfl (lv_room (Nat.le_of_ble_eq_true rfl)) dL_isMinimal_4 ⟨Nat.le_of_ble_eq_true rfl, Nat.le_of_ble_eq_true rfl⟩) (fun ce9 q9 H locs hP hD hS hc9 hv9 hf9 => ?_)
  have hP : va_P (gD G) vwCl [(ou, .inl (gyL G, 1, .inr (.inl fo))), (ho, .inr (11, [.ref al, .ref sv, .ref ts, .ref pb, .null, .int lr])), (al, .inr (4, [.int md, .ref (gE G), .int (nI 0)]))] H := hP
  have hD : va_D A [(ou, .inl (gyL G, 1, .inr (.inl fo))), (ho, .inr (11, [.ref al, .ref sv, .ref ts, .ref pb, .null, .int lr])), (al, .inr (4, [.int md, .ref (gE G), .int (nI 0)]))] := hD
  refine vx_catch (own := RL) (name := "java/lang/IndexOutOfBoundsException") (E := "java/lang/IndexOutOfBoundsException") hown [] ⟨0, 16, 19, 19⟩ [] (htab.trans rfl) (fun z9 h9 => nomatch h9) (by decide) (by decide) (hts _ q537) (nw_use rfl (hE.1.1 _ nq572)) hc9 hv9 hf9 ?_
  refine lv_astore_n (lv' := [(3, .ref q9), (0, .ref ho), (1, .int v), (2, .ref ou)]) hx hb dL_isMinimal_19 rfl hl (by decide) rfl (fun ls hl => ?_)
  refine lv_iconst (v := nI 1) hx hb dL_isMinimal_20 (by decide) ?_
  have hP9 := hP.sub (ws' := [(ho, .inr (11, [.ref al, .ref sv, .ref ts, .ref pb, .null, .int lr])), (al, .inr (4, [.int md, .ref (gE G), .int (nI 0)])), (ou, .inl (gyL G, 1, .inr (.inl fo)))]) [1, 2, 0] rfl
  have hD9 := hD.sub (ws' := [(ho, .inr (11, [.ref al, .ref sv, .ref ts, .ref pb, .null, .int lr])), (al, .inr (4, [.int md, .ref (gE G), .int (nI 0)])), (ou, .inl (gyL G, 1, .inr (.inl fo)))]) [1, 2, 0] (by decide) rfl
  subst hQ
  exact W.iret (v := nI 1) hx hb hr (fun t ht hW => ⟨⟨nI 1, (), rfl, rfl, by rw [ht]; exact hP9, hD9⟩, hS.F ht⟩) hS.2.2 dL_isMinimal_21
set_option maxHeartbeats 4000000 in
set_option maxRecDepth 100000 in
theorem l_areAlike (l : Launch) (G : GG) (ho : Nat) (al : Nat) (ts : Nat) (pb : Nat) (lr : Int32) (sv : Nat) (md : Int32) (v : Int32) (v2 : Int32) (ou : Nat) (fo : Nat → Int64) (hst : l.stackTraces = false) : Mh l G yL_areAlike cL_areAlike 5 [(0, 17, 20, 19), (0, 17, 24, 26)] ({ frames := 8, cells := 1, slots := 6, locals := 128 } : Room) [.ref ho, .int v, .int v2, .ref ou] [(ho, .inr (11, [.ref al, .ref sv, .ref ts, .ref pb, .null, .int lr])), (al, .inr (4, [.int md, .ref (gE G), .int (nI 0)])), (ou, .inl (gyL G, 1, .inr (.inl fo)))] (fun (r : Int32) (u : Unit) => r = nI 1) (fun (u : Unit) => [(ho, .inr (11, [.ref al, .ref sv, .ref ts, .ref pb, .null, .int lr])), (al, .inr (4, [.int md, .ref (gE G), .int (nI 0)])), (ou, .inl (gyL G, 1, .inr (.inl fo)))]) := by
  intro sz
  refine met_ofWH (cc := cL_areAlike) (maxL := 5) (ret := (some .int)) (hh := [(0, 17, 20, 19), (0, 17, 24, 26)]) (by decide) rfl ?_
  intro p e s m args below meth c s₁ B9 hml hv
  obtain ⟨rfl, hsz, hP, hK, hD0, hE⟩ := hv
  have hx := B9.exec
  have hb := B9.bytes
  have hr := B9.returns
  have hts : ∀ w ∈ WW, w.before ([.ref ho, .int v, .int v2, .ref ou] : List Value).toArray s = true := fun w h => atoms_spec (ws := .codeWith yL_areAlike cL_areAlike 5 (some .int) [(0, 17, 20, 19), (0, 17, 24, 26)] :: WW) B9.pre w (List.mem_cons_of_mem _ h)
  have htab := vx_table (x := yL_areAlike) B9 (atoms_spec (ws := .codeWith yL_areAlike cL_areAlike 5 (some .int) [(0, 17, 20, 19), (0, 17, 24, 26)] :: WW) B9.pre _ List.mem_cons_self)
  have hown : s.vm.findClass RL = some m.cls := findClass_of_methodNamed B9.named
  subst hsz
  have hD := hD0.self (sz := s.heap.size)
  generalize hAe : va_A [(ho, .inr (11, [.ref al, .ref sv, .ref ts, .ref pb, .null, .int lr])), (al, .inr (4, [.int md, .ref (gE G), .int (nI 0)])), (ou, .inl (gyL G, 1, .inr (.inl fo)))] s.heap.size = A at hD hE ⊢
  have hA : ∀ q : Nat, s.heap.size ≤ q → A q := fun q h => by rw [← hAe]; exact Or.inr h
  have hl := lv_entry ([.ref ho, .int v, .int v2, .ref ou]) (n := 5) (Nat.le_of_ble_eq_true rfl)
  rw [lg_entry_eq]
  generalize (lg_sl ([.ref ho, .int v, .int v2, .ref ou]) ++ List.replicate (5 - (lg_sl ([.ref ho, .int v, .int v2, .ref ou])).length) Slot.unset).toArray = ls at hl ⊢
  have hl : lv_has ls 5 [(0, .ref ho), (1, .int v), (2, .int v2), (3, .ref ou)] := hl
  refine qgen (fun Q hQ => ?_)
  refine hgen (fun H locs hP hD hS => ?_) hP hD
  refine lv_aload_n hx hb dL_areAlike_0 rfl (lv_at hl 3 rfl) ?_
  refine lv_iconst (v := nI 0) hx hb dL_areAlike_1 (by decide) ?_
  refine lv_aload_n hx hb dL_areAlike_2 rfl (lv_at hl 0 rfl) ?_
  refine lv_iload_n hx hb dL_areAlike_3 rfl (lv_at hl 1 rfl) ?_
  refine lv_iload_n hx hb dL_areAlike_4 rfl (lv_at hl 2 rfl) ?_
  refine finx hP hD hS hA [0, 1] [2] (wr := [(ou, .inl (gyL G, 1, .inr (.inl fo)))]) rfl rfl (by decide) (by decide) (vx_runV (As := [.int v, .int v2]) (rest := [.int (nI 0), .ref ou]) ⟨hx, hb, hml, hown, hts⟩ (c_X6_areAlike l G ho al ts pb lr sv md v v2 hst H.size) (cwV 2 hts (gV q790 q791 q792 q45 q793) rfl rfl rfl (by decide +kernel) ⟨Nat.le_of_ble_eq_true rfl, Nat.le_of_ble_eq_true rfl⟩) (preV (q0 := 0) (ci := 11) hK hE hP hD hS hA [0, 1] rfl (by decide) rfl rfl) rfl rfl hl.1 rfl (lv_room (Nat.le_of_ble_eq_true rfl)) dL_areAlike_5 ⟨Nat.le_of_ble_eq_true rfl, Nat.le_of_ble_eq_true rfl⟩) (fun ce9 q9 H locs hP hD hS hc9 hv9 hf9 => ?_)
  have hP : va_P (gD G) vwCl [(ou, .inl (gyL G, 1, .inr (.inl fo))), (ho, .inr (11, [.ref al, .ref sv, .ref ts, .ref pb, .null, .int lr])), (al, .inr (4, [.int md, .ref (gE G), .int (nI 0)]))] H := hP
  have hD : va_D A [(ou, .inl (gyL G, 1, .inr (.inl fo))), (ho, .inr (11, [.ref al, .ref sv, .ref ts, .ref pb, .null, .int lr])), (al, .inr (4, [.int md, .ref (gE G), .int (nI 0)]))] := hD
  refine vx_catch (own := RL) (name := "java/lang/IndexOutOfBoundsException") (E := "java/lang/IndexOutOfBoundsException") hown [] ⟨0, 17, 20, 19⟩ [⟨0, 17, 24, 26⟩] (htab.trans rfl) (fun z9 h9 => nomatch h9) (by decide) (by decide) (hts _ q537) (nw_use rfl (hE.1.1 _ nq572)) hc9 hv9 hf9 ?_
  refine lv_astore (lv' := [(4, .ref q9), (0, .ref ho), (1, .int v), (2, .int v2), (3, .ref ou)]) hx hb dL_areAlike_20 hl (by decide) rfl (fun ls hl => ?_)
  refine lv_iconst (v := nI 1) hx hb dL_areAlike_22 (by decide) ?_
  have hP9 := hP.sub (ws' := [(ho, .inr (11, [.ref al, .ref sv, .ref ts, .ref pb, .null, .int lr])), (al, .inr (4, [.int md, .ref (gE G), .int (nI 0)])), (ou, .inl (gyL G, 1, .inr (.inl fo)))]) [1, 2, 0] rfl
  have hD9 := hD.sub (ws' := [(ho, .inr (11, [.ref al, .ref sv, .ref ts, .ref pb, .null, .int lr])), (al, .inr (4, [.int md, .ref (gE G), .int (nI 0)])), (ou, .inl (gyL G, 1, .inr (.inl fo)))]) [1, 2, 0] (by decide) rfl
  subst hQ
  exact W.iret (v := nI 1) hx hb hr (fun t ht hW => ⟨⟨nI 1, (), rfl, rfl, by rw [ht]; exact hP9, hD9⟩, hS.F ht⟩) hS.2.2 dL_areAlike_23
set_option maxHeartbeats 4000000 in
set_option maxRecDepth 100000 in
theorem l_begin (l : Launch) (G : GG) (ho : Nat) (al : Nat) (ts : Nat) (pb : Nat) (lr : Int32) (sv : Nat) (md : Int32) (v : Int32) (ou : Nat) (fo : Nat → Int64) (hst : l.stackTraces = false) : Mh l G yL_begin cL_begin 4 [(0, 9, 12, 19)] ({ frames := 8, cells := 1, slots := 6, locals := 124 } : Room) [.ref ho, .int v, .ref ou] [(ho, .inr (11, [.ref al, .ref sv, .ref ts, .ref pb, .null, .int lr])), (al, .inr (4, [.int md, .ref (gE G), .int (nI 0)])), (ou, .inl (gyL G, 1, .inr (.inl fo)))] (fun (r : Int32) (u : Unit) => r = nI 1) (fun (u : Unit) => [(ho, .inr (11, [.ref al, .ref sv, .ref ts, .ref pb, .null, .int lr])), (al, .inr (4, [.int md, .ref (gE G), .int (nI 0)])), (ou, .inl (gyL G, 1, .inr (.inl fo)))]) := by
  intro sz
  refine met_ofWH (cc := cL_begin) (maxL := 4) (ret := (some .int)) (hh := [(0, 9, 12, 19)]) (by decide) rfl ?_
  intro p e s m args below meth c s₁ B9 hml hv
  obtain ⟨rfl, hsz, hP, hK, hD0, hE⟩ := hv
  have hx := B9.exec
  have hb := B9.bytes
  have hr := B9.returns
  have hts : ∀ w ∈ WW, w.before ([.ref ho, .int v, .ref ou] : List Value).toArray s = true := fun w h => atoms_spec (ws := .codeWith yL_begin cL_begin 4 (some .int) [(0, 9, 12, 19)] :: WW) B9.pre w (List.mem_cons_of_mem _ h)
  have htab := vx_table (x := yL_begin) B9 (atoms_spec (ws := .codeWith yL_begin cL_begin 4 (some .int) [(0, 9, 12, 19)] :: WW) B9.pre _ List.mem_cons_self)
  have hown : s.vm.findClass RL = some m.cls := findClass_of_methodNamed B9.named
  subst hsz
  have hD := hD0.self (sz := s.heap.size)
  generalize hAe : va_A [(ho, .inr (11, [.ref al, .ref sv, .ref ts, .ref pb, .null, .int lr])), (al, .inr (4, [.int md, .ref (gE G), .int (nI 0)])), (ou, .inl (gyL G, 1, .inr (.inl fo)))] s.heap.size = A at hD hE ⊢
  have hA : ∀ q : Nat, s.heap.size ≤ q → A q := fun q h => by rw [← hAe]; exact Or.inr h
  have hl := lv_entry ([.ref ho, .int v, .ref ou]) (n := 4) (Nat.le_of_ble_eq_true rfl)
  rw [lg_entry_eq]
  generalize (lg_sl ([.ref ho, .int v, .ref ou]) ++ List.replicate (4 - (lg_sl ([.ref ho, .int v, .ref ou])).length) Slot.unset).toArray = ls at hl ⊢
  have hl : lv_has ls 4 [(0, .ref ho), (1, .int v), (2, .ref ou)] := hl
  refine qgen (fun Q hQ => ?_)
  refine hgen (fun H locs hP hD hS => ?_) hP hD
  refine lv_aload_n hx hb dL_begin_0 rfl (lv_at hl 2 rfl) ?_
  refine lv_iconst (v := nI 0) hx hb dL_begin_1 (by decide) ?_
  refine lv_aload_n hx hb dL_begin_2 rfl (lv_at hl 0 rfl) ?_
  refine lv_iload_n hx hb dL_begin_3 rfl (lv_at hl 1 rfl) ?_
  refine finx hP hD hS hA [0, 1] [2] (wr := [(ou, .inl (gyL G, 1, .inr (.inl fo)))]) rfl rfl (by decide) (by decide) (vx_runV (As := [.int v]) (rest := [.int (nI 0), .ref ou]) ⟨hx, hb, hml, hown, hts⟩ (c_X6_begin l G ho al ts pb lr sv md v hst H.size) (cwV 1 hts (gV q804 q805 q806 q45 q807) rfl rfl rfl (by decide +kernel) ⟨Nat.le_of_ble_eq_true rfl, Nat.le_of_ble_eq_true rfl⟩) (preV (q0 := 0) (ci := 11) hK hE hP hD hS hA [0, 1] rfl (by decide) rfl rfl) rfl rfl hl.1 rfl (lv_room (Nat.le_of_ble_eq_true rfl)) dL_begin_4 ⟨Nat.le_of_ble_eq_true rfl, Nat.le_of_ble_eq_true rfl⟩) (fun ce9 q9 H locs hP hD hS hc9 hv9 hf9 => ?_)
  have hP : va_P (gD G) vwCl [(ou, .inl (gyL G, 1, .inr (.inl fo))), (ho, .inr (11, [.ref al, .ref sv, .ref ts, .ref pb, .null, .int lr])), (al, .inr (4, [.int md, .ref (gE G), .int (nI 0)]))] H := hP
  have hD : va_D A [(ou, .inl (gyL G, 1, .inr (.inl fo))), (ho, .inr (11, [.ref al, .ref sv, .ref ts, .ref pb, .null, .int lr])), (al, .inr (4, [.int md, .ref (gE G), .int (nI 0)]))] := hD
  refine vx_catch (own := RL) (name := "java/lang/IndexOutOfBoundsException") (E := "java/lang/IndexOutOfBoundsException") hown [] ⟨0, 9, 12, 19⟩ [] (htab.trans rfl) (fun z9 h9 => nomatch h9) (by decide) (by decide) (hts _ q537) (nw_use rfl (hE.1.1 _ nq572)) hc9 hv9 hf9 ?_
  refine lv_astore_n (lv' := [(3, .ref q9), (0, .ref ho), (1, .int v), (2, .ref ou)]) hx hb dL_begin_12 rfl hl (by decide) rfl (fun ls hl => ?_)
  refine lv_iconst (v := nI 1) hx hb dL_begin_13 (by decide) ?_
  have hP9 := hP.sub (ws' := [(ho, .inr (11, [.ref al, .ref sv, .ref ts, .ref pb, .null, .int lr])), (al, .inr (4, [.int md, .ref (gE G), .int (nI 0)])), (ou, .inl (gyL G, 1, .inr (.inl fo)))]) [1, 2, 0] rfl
  have hD9 := hD.sub (ws' := [(ho, .inr (11, [.ref al, .ref sv, .ref ts, .ref pb, .null, .int lr])), (al, .inr (4, [.int md, .ref (gE G), .int (nI 0)])), (ou, .inl (gyL G, 1, .inr (.inl fo)))]) [1, 2, 0] (by decide) rfl
  subst hQ
  exact W.iret (v := nI 1) hx hb hr (fun t ht hW => ⟨⟨nI 1, (), rfl, rfl, by rw [ht]; exact hP9, hD9⟩, hS.F ht⟩) hS.2.2 dL_begin_14
set_option maxHeartbeats 4000000 in
set_option maxRecDepth 100000 in
theorem l_mark (l : Launch) (G : GG) (ho : Nat) (al : Nat) (ts : Nat) (pb : Nat) (lr : Int32) (sv : Nat) (md : Int32) (v : Int32) (v2 : Int32) (x : Int32) (ou : Nat) (fo : Nat → Int64) (hst : l.stackTraces = false) : Mh l G yL_mark cL_mark 6 [(0, 12, 15, 19), (0, 12, 19, 21)] ({ frames := 8, cells := 1, slots := 6, locals := 128 } : Room) [.ref ho, .int v, .int v2, .int x, .ref ou] [(ho, .inr (11, [.ref al, .ref sv, .ref ts, .ref pb, .null, .int lr])), (al, .inr (4, [.int md, .ref (gE G), .int (nI 0)])), (ou, .inl (gyL G, 1, .inr (.inl fo)))] (fun (r : Int32) (u : Unit) => r = nI 1) (fun (u : Unit) => [(ho, .inr (11, [.ref al, .ref sv, .ref ts, .ref pb, .null, .int lr])), (al, .inr (4, [.int md, .ref (gE G), .int (nI 0)])), (ou, .inl (gyL G, 1, .inr (.inl fo)))]) := by
  intro sz
  refine met_ofWH (cc := cL_mark) (maxL := 6) (ret := (some .int)) (hh := [(0, 12, 15, 19), (0, 12, 19, 21)]) (by decide) rfl ?_
  intro p e s m args below meth c s₁ B9 hml hv
  obtain ⟨rfl, hsz, hP, hK, hD0, hE⟩ := hv
  have hx := B9.exec
  have hb := B9.bytes
  have hr := B9.returns
  have hts : ∀ w ∈ WW, w.before ([.ref ho, .int v, .int v2, .int x, .ref ou] : List Value).toArray s = true := fun w h => atoms_spec (ws := .codeWith yL_mark cL_mark 6 (some .int) [(0, 12, 15, 19), (0, 12, 19, 21)] :: WW) B9.pre w (List.mem_cons_of_mem _ h)
  have htab := vx_table (x := yL_mark) B9 (atoms_spec (ws := .codeWith yL_mark cL_mark 6 (some .int) [(0, 12, 15, 19), (0, 12, 19, 21)] :: WW) B9.pre _ List.mem_cons_self)
  have hown : s.vm.findClass RL = some m.cls := findClass_of_methodNamed B9.named
  subst hsz
  have hD := hD0.self (sz := s.heap.size)
  generalize hAe : va_A [(ho, .inr (11, [.ref al, .ref sv, .ref ts, .ref pb, .null, .int lr])), (al, .inr (4, [.int md, .ref (gE G), .int (nI 0)])), (ou, .inl (gyL G, 1, .inr (.inl fo)))] s.heap.size = A at hD hE ⊢
  have hA : ∀ q : Nat, s.heap.size ≤ q → A q := fun q h => by rw [← hAe]; exact Or.inr h
  have hl := lv_entry ([.ref ho, .int v, .int v2, .int x, .ref ou]) (n := 6) (Nat.le_of_ble_eq_true rfl)
  rw [lg_entry_eq]
  generalize (lg_sl ([.ref ho, .int v, .int v2, .int x, .ref ou]) ++ List.replicate (6 - (lg_sl ([.ref ho, .int v, .int v2, .int x, .ref ou])).length) Slot.unset).toArray = ls at hl ⊢
  have hl : lv_has ls 6 [(0, .ref ho), (1, .int v), (2, .int v2), (3, .int x), (4, .ref ou)] := hl
  refine qgen (fun Q hQ => ?_)
  refine hgen (fun H locs hP hD hS => ?_) hP hD
  refine lv_aload hx hb dL_mark_0 (lv_at hl 4 rfl) ?_
  refine lv_iconst (v := nI 0) hx hb dL_mark_2 (by decide) ?_
  refine lv_aload_n hx hb dL_mark_3 rfl (lv_at hl 0 rfl) ?_
  refine lv_iload_n hx hb dL_mark_4 rfl (lv_at hl 1 rfl) ?_
  refine lv_iload_n hx hb dL_mark_5 rfl (lv_at hl 2 rfl) ?_
  refine lv_iload_n hx hb dL_mark_6 rfl (lv_at hl 3 rfl) ?_
  refine finx hP hD hS hA [0, 1] [2] (wr := [(ou, .inl (gyL G, 1, .inr (.inl fo)))]) rfl rfl (by decide) (by decide) (vx_runV (As := [.int v, .int v2, .int x]) (rest := [.int (nI 0), .ref ou]) ⟨hx, hb, hml, hown, hts⟩ (c_X6_mark l G ho al ts pb lr sv md v v2 x hst H.size) (cwV 3 hts (gV q849 q850 q851 q45 q852) rfl rfl rfl (by decide +kernel) ⟨Nat.le_of_ble_eq_true rfl, Nat.le_of_ble_eq_true rfl⟩) (preV (q0 := 0) (ci := 11) hK hE hP hD hS hA [0, 1] rfl (by decide) rfl rfl) rfl rfl hl.1 rfl (lv_room (Nat.le_of_ble_eq_true rfl)) dL_mark_7 ⟨Nat.le_of_ble_eq_true rfl, Nat.le_of_ble_eq_true rfl⟩) (fun ce9 q9 H locs hP hD hS hc9 hv9 hf9 => ?_)
  have hP : va_P (gD G) vwCl [(ou, .inl (gyL G, 1, .inr (.inl fo))), (ho, .inr (11, [.ref al, .ref sv, .ref ts, .ref pb, .null, .int lr])), (al, .inr (4, [.int md, .ref (gE G), .int (nI 0)]))] H := hP
  have hD : va_D A [(ou, .inl (gyL G, 1, .inr (.inl fo))), (ho, .inr (11, [.ref al, .ref sv, .ref ts, .ref pb, .null, .int lr])), (al, .inr (4, [.int md, .ref (gE G), .int (nI 0)]))] := hD
  refine vx_catch (own := RL) (name := "java/lang/IndexOutOfBoundsException") (E := "java/lang/IndexOutOfBoundsException") hown [] ⟨0, 12, 15, 19⟩ [⟨0, 12, 19, 21⟩] (htab.trans rfl) (fun z9 h9 => nomatch h9) (by decide) (by decide) (hts _ q537) (nw_use rfl (hE.1.1 _ nq572)) hc9 hv9 hf9 ?_
  refine lv_astore (lv' := [(5, .ref q9), (0, .ref ho), (1, .int v), (2, .int v2), (3, .int x), (4, .ref ou)]) hx hb dL_mark_15 hl (by decide) rfl (fun ls hl => ?_)
  refine lv_iconst (v := nI 1) hx hb dL_mark_17 (by decide) ?_
  have hP9 := hP.sub (ws' := [(ho, .inr (11, [.ref al, .ref sv, .ref ts, .ref pb, .null, .int lr])), (al, .inr (4, [.int md, .ref (gE G), .int (nI 0)])), (ou, .inl (gyL G, 1, .inr (.inl fo)))]) [1, 2, 0] rfl
  have hD9 := hD.sub (ws' := [(ho, .inr (11, [.ref al, .ref sv, .ref ts, .ref pb, .null, .int lr])), (al, .inr (4, [.int md, .ref (gE G), .int (nI 0)])), (ou, .inl (gyL G, 1, .inr (.inl fo)))]) [1, 2, 0] (by decide) rfl
  subst hQ
  exact W.iret (v := nI 1) hx hb hr (fun t ht hW => ⟨⟨nI 1, (), rfl, rfl, by rw [ht]; exact hP9, hD9⟩, hS.F ht⟩) hS.2.2 dL_mark_18
set_option maxHeartbeats 4000000 in
set_option maxRecDepth 100000 in
theorem l_marked (l : Launch) (G : GG) (ho : Nat) (al : Nat) (ts : Nat) (pb : Nat) (lr : Int32) (sv : Nat) (md : Int32) (v : Int32) (v2 : Int32) (ou : Nat) (fo : Nat → Int64) (hst : l.stackTraces = false) : Mh l G yL_marked cL_marked 5 [(0, 10, 13, 19)] ({ frames := 8, cells := 1, slots := 6, locals := 126 } : Room) [.ref ho, .int v, .int v2, .ref ou] [(ho, .inr (11, [.ref al, .ref sv, .ref ts, .ref pb, .null, .int lr])), (al, .inr (4, [.int md, .ref (gE G), .int (nI 0)])), (ou, .inl (gyL G, 1, .inr (.inl fo)))] (fun (r : Int32) (u : Unit) => r = nI 1) (fun (u : Unit) => [(ho, .inr (11, [.ref al, .ref sv, .ref ts, .ref pb, .null, .int lr])), (al, .inr (4, [.int md, .ref (gE G), .int (nI 0)])), (ou, .inl (gyL G, 1, .inr (.inl fo)))]) := by
  intro sz
  refine met_ofWH (cc := cL_marked) (maxL := 5) (ret := (some .int)) (hh := [(0, 10, 13, 19)]) (by decide) rfl ?_
  intro p e s m args below meth c s₁ B9 hml hv
  obtain ⟨rfl, hsz, hP, hK, hD0, hE⟩ := hv
  have hx := B9.exec
  have hb := B9.bytes
  have hr := B9.returns
  have hts : ∀ w ∈ WW, w.before ([.ref ho, .int v, .int v2, .ref ou] : List Value).toArray s = true := fun w h => atoms_spec (ws := .codeWith yL_marked cL_marked 5 (some .int) [(0, 10, 13, 19)] :: WW) B9.pre w (List.mem_cons_of_mem _ h)
  have htab := vx_table (x := yL_marked) B9 (atoms_spec (ws := .codeWith yL_marked cL_marked 5 (some .int) [(0, 10, 13, 19)] :: WW) B9.pre _ List.mem_cons_self)
  have hown : s.vm.findClass RL = some m.cls := findClass_of_methodNamed B9.named
  subst hsz
  have hD := hD0.self (sz := s.heap.size)
  generalize hAe : va_A [(ho, .inr (11, [.ref al, .ref sv, .ref ts, .ref pb, .null, .int lr])), (al, .inr (4, [.int md, .ref (gE G), .int (nI 0)])), (ou, .inl (gyL G, 1, .inr (.inl fo)))] s.heap.size = A at hD hE ⊢
  have hA : ∀ q : Nat, s.heap.size ≤ q → A q := fun q h => by rw [← hAe]; exact Or.inr h
  have hl := lv_entry ([.ref ho, .int v, .int v2, .ref ou]) (n := 5) (Nat.le_of_ble_eq_true rfl)
  rw [lg_entry_eq]
  generalize (lg_sl ([.ref ho, .int v, .int v2, .ref ou]) ++ List.replicate (5 - (lg_sl ([.ref ho, .int v, .int v2, .ref ou])).length) Slot.unset).toArray = ls at hl ⊢
  have hl : lv_has ls 5 [(0, .ref ho), (1, .int v), (2, .int v2), (3, .ref ou)] := hl
  refine qgen (fun Q hQ => ?_)
  refine hgen (fun H locs hP hD hS => ?_) hP hD
  refine lv_aload_n hx hb dL_marked_0 rfl (lv_at hl 3 rfl) ?_
  refine lv_iconst (v := nI 0) hx hb dL_marked_1 (by decide) ?_
  refine lv_aload_n hx hb dL_marked_2 rfl (lv_at hl 0 rfl) ?_
  refine lv_iload_n hx hb dL_marked_3 rfl (lv_at hl 1 rfl) ?_
  refine lv_iload_n hx hb dL_marked_4 rfl (lv_at hl 2 rfl) ?_
  refine finx hP hD hS hA [0, 1] [2] (wr := [(ou, .inl (gyL G, 1, .inr (.inl fo)))]) rfl rfl (by decide) (by decide) (vx_runV (As := [.int v, .int v2]) (rest := [.int (nI 0), .ref ou]) ⟨hx, hb, hml, hown, hts⟩ (c_X6_marked l G ho al ts pb lr sv md v v2 hst H.size) (cwV 2 hts (gV q856 q857 q858 q45 q859) rfl rfl rfl (by decide +kernel) ⟨Nat.le_of_ble_eq_true rfl, Nat.le_of_ble_eq_true rfl⟩) (preV (q0 := 0) (ci := 11) hK hE hP hD hS hA [0, 1] rfl (by decide) rfl rfl) rfl rfl hl.1 rfl (lv_room (Nat.le_of_ble_eq_true rfl)) dL_marked_5 ⟨Nat.le_of_ble_eq_true rfl, Nat.le_of_ble_eq_true rfl⟩) (fun ce9 q9 H locs hP hD hS hc9 hv9 hf9 => ?_)
  have hP : va_P (gD G) vwCl [(ou, .inl (gyL G, 1, .inr (.inl fo))), (ho, .inr (11, [.ref al, .ref sv, .ref ts, .ref pb, .null, .int lr])), (al, .inr (4, [.int md, .ref (gE G), .int (nI 0)]))] H := hP
  have hD : va_D A [(ou, .inl (gyL G, 1, .inr (.inl fo))), (ho, .inr (11, [.ref al, .ref sv, .ref ts, .ref pb, .null, .int lr])), (al, .inr (4, [.int md, .ref (gE G), .int (nI 0)]))] := hD
  refine vx_catch (own := RL) (name := "java/lang/IndexOutOfBoundsException") (E := "java/lang/IndexOutOfBoundsException") hown [] ⟨0, 10, 13, 19⟩ [] (htab.trans rfl) (fun z9 h9 => nomatch h9) (by decide) (by decide) (hts _ q537) (nw_use rfl (hE.1.1 _ nq572)) hc9 hv9 hf9 ?_
  refine lv_astore (lv' := [(4, .ref q9), (0, .ref ho), (1, .int v), (2, .int v2), (3, .ref ou)]) hx hb dL_marked_13 hl (by decide) rfl (fun ls hl => ?_)
  refine lv_iconst (v := nI 1) hx hb dL_marked_15 (by decide) ?_
  have hP9 := hP.sub (ws' := [(ho, .inr (11, [.ref al, .ref sv, .ref ts, .ref pb, .null, .int lr])), (al, .inr (4, [.int md, .ref (gE G), .int (nI 0)])), (ou, .inl (gyL G, 1, .inr (.inl fo)))]) [1, 2, 0] rfl
  have hD9 := hD.sub (ws' := [(ho, .inr (11, [.ref al, .ref sv, .ref ts, .ref pb, .null, .int lr])), (al, .inr (4, [.int md, .ref (gE G), .int (nI 0)])), (ou, .inl (gyL G, 1, .inr (.inl fo)))]) [1, 2, 0] (by decide) rfl
  subst hQ
  exact W.iret (v := nI 1) hx hb hr (fun t ht hW => ⟨⟨nI 1, (), rfl, rfl, by rw [ht]; exact hP9, hD9⟩, hS.F ht⟩) hS.2.2 dL_marked_16
set_option maxHeartbeats 4000000 in
set_option maxRecDepth 100000 in
theorem l_wrong (l : Launch) (G : GG) (ho : Nat) (al : Nat) (ts : Nat) (pb : Nat) (lr : Int32) (sv : Nat) (md : Int32) (v : Int32) (ou : Nat) (fo : Nat → Int64) (hst : l.stackTraces = false) : Mh l G yL_wrong cL_wrong 4 [(0, 9, 12, 19), (0, 9, 15, 45)] ({ frames := 8, cells := 1, slots := 6, locals := 125 } : Room) [.ref ho, .int v, .ref ou] [(ho, .inr (11, [.ref al, .ref sv, .ref ts, .ref pb, .null, .int lr])), (al, .inr (4, [.int md, .ref (gE G), .int (nI 0)])), (ou, .inl (gyL G, 1, .inr (.inl fo)))] (fun (r : Int32) (u : Unit) => r = nI 1) (fun (u : Unit) => [(ho, .inr (11, [.ref al, .ref sv, .ref ts, .ref pb, .null, .int lr])), (al, .inr (4, [.int md, .ref (gE G), .int (nI 0)])), (ou, .inl (gyL G, 1, .inr (.inl fo)))]) := by
  intro sz
  refine met_ofWH (cc := cL_wrong) (maxL := 4) (ret := (some .int)) (hh := [(0, 9, 12, 19), (0, 9, 15, 45)]) (by decide) rfl ?_
  intro p e s m args below meth c s₁ B9 hml hv
  obtain ⟨rfl, hsz, hP, hK, hD0, hE⟩ := hv
  have hx := B9.exec
  have hb := B9.bytes
  have hr := B9.returns
  have hts : ∀ w ∈ WW, w.before ([.ref ho, .int v, .ref ou] : List Value).toArray s = true := fun w h => atoms_spec (ws := .codeWith yL_wrong cL_wrong 4 (some .int) [(0, 9, 12, 19), (0, 9, 15, 45)] :: WW) B9.pre w (List.mem_cons_of_mem _ h)
  have htab := vx_table (x := yL_wrong) B9 (atoms_spec (ws := .codeWith yL_wrong cL_wrong 4 (some .int) [(0, 9, 12, 19), (0, 9, 15, 45)] :: WW) B9.pre _ List.mem_cons_self)
  have hown : s.vm.findClass RL = some m.cls := findClass_of_methodNamed B9.named
  subst hsz
  have hD := hD0.self (sz := s.heap.size)
  generalize hAe : va_A [(ho, .inr (11, [.ref al, .ref sv, .ref ts, .ref pb, .null, .int lr])), (al, .inr (4, [.int md, .ref (gE G), .int (nI 0)])), (ou, .inl (gyL G, 1, .inr (.inl fo)))] s.heap.size = A at hD hE ⊢
  have hA : ∀ q : Nat, s.heap.size ≤ q → A q := fun q h => by rw [← hAe]; exact Or.inr h
  have hl := lv_entry ([.ref ho, .int v, .ref ou]) (n := 4) (Nat.le_of_ble_eq_true rfl)
  rw [lg_entry_eq]
  generalize (lg_sl ([.ref ho, .int v, .ref ou]) ++ List.replicate (4 - (lg_sl ([.ref ho, .int v, .ref ou])).length) Slot.unset).toArray = ls at hl ⊢
  have hl : lv_has ls 4 [(0, .ref ho), (1, .int v), (2, .ref ou)] := hl
  refine qgen (fun Q hQ => ?_)
  refine hgen (fun H locs hP hD hS => ?_) hP hD
  refine lv_aload_n hx hb dL_wrong_0 rfl (lv_at hl 2 rfl) ?_
  refine lv_iconst (v := nI 0) hx hb dL_wrong_1 (by decide) ?_
  refine lv_aload_n hx hb dL_wrong_2 rfl (lv_at hl 0 rfl) ?_
  refine lv_iload_n hx hb dL_wrong_3 rfl (lv_at hl 1 rfl) ?_
  refine finx hP hD hS hA [0, 1] [2] (wr := [(ou, .inl (gyL G, 1, .inr (.inl fo)))]) rfl rfl (by decide) (by decide) (vx_runV (As := [.int v]) (rest := [.int (nI 0), .ref ou]) ⟨hx, hb, hml, hown, hts⟩ (c_X6_wrong l G ho al ts pb lr sv md v hst H.size) (cwV 1 hts (gV q863 q864 q865 q45 q866) rfl rfl rfl (by decide +kernel) ⟨Nat.le_of_ble_eq_true rfl, Nat.le_of_ble_eq_true rfl⟩) (preV (q0 := 0) (ci := 11) hK hE hP hD hS hA [0, 1] rfl (by decide) rfl rfl) rfl rfl hl.1 rfl (lv_room (Nat.le_of_ble_eq_true rfl)) dL_wrong_4 ⟨Nat.le_of_ble_eq_true rfl, Nat.le_of_ble_eq_true rfl⟩) (fun ce9 q9 H locs hP hD hS hc9 hv9 hf9 => ?_)
  have hP : va_P (gD G) vwCl [(ou, .inl (gyL G, 1, .inr (.inl fo))), (ho, .inr (11, [.ref al, .ref sv, .ref ts, .ref pb, .null, .int lr])), (al, .inr (4, [.int md, .ref (gE G), .int (nI 0)]))] H := hP
  have hD : va_D A [(ou, .inl (gyL G, 1, .inr (.inl fo))), (ho, .inr (11, [.ref al, .ref sv, .ref ts, .ref pb, .null, .int lr])), (al, .inr (4, [.int md, .ref (gE G), .int (nI 0)]))] := hD
  refine vx_catch (own := RL) (name := "java/lang/IndexOutOfBoundsException") (E := "java/lang/IndexOutOfBoundsException") hown [] ⟨0, 9, 12, 19⟩ [⟨0, 9, 15, 45⟩] (htab.trans rfl) (fun z9 h9 => nomatch h9) (by decide) (by decide) (hts _ q537) (nw_use rfl (hE.1.1 _ nq572)) hc9 hv9 hf9 ?_
  refine lv_astore_n (lv' := [(3, .ref q9), (0, .ref ho), (1, .int v), (2, .ref ou)]) hx hb dL_wrong_12 rfl hl (by decide) rfl (fun ls hl => ?_)
  refine lv_iconst (v := nI 1) hx hb dL_wrong_13 (by decide) ?_
  have hP9 := hP.sub (ws' := [(ho, .inr (11, [.ref al, .ref sv, .ref ts, .ref pb, .null, .int lr])), (al, .inr (4, [.int md, .ref (gE G), .int (nI 0)])), (ou, .inl (gyL G, 1, .inr (.inl fo)))]) [1, 2, 0] rfl
  have hD9 := hD.sub (ws' := [(ho, .inr (11, [.ref al, .ref sv, .ref ts, .ref pb, .null, .int lr])), (al, .inr (4, [.int md, .ref (gE G), .int (nI 0)])), (ou, .inl (gyL G, 1, .inr (.inl fo)))]) [1, 2, 0] (by decide) rfl
  subst hQ
  exact W.iret (v := nI 1) hx hb hr (fun t ht hW => ⟨⟨nI 1, (), rfl, rfl, by rw [ht]; exact hP9, hD9⟩, hS.F ht⟩) hS.2.2 dL_wrong_14
set_option maxHeartbeats 4000000 in
set_option maxRecDepth 100000 in
theorem l_hint (l : Launch) (G : GG) (ho : Nat) (al : Nat) (ts : Nat) (pb : Nat) (lr : Int32) (sv : Nat) (md : Int32) (v : Int32) (ou : Nat) (fo : Nat → Int64) (hst : l.stackTraces = false) : Mh l G yL_hint cL_hint 4 [(0, 9, 12, 19), (0, 9, 15, 26), (0, 9, 18, 45)] ({ frames := 8, cells := 1, slots := 6, locals := 128 } : Room) [.ref ho, .int v, .ref ou] [(ho, .inr (11, [.ref al, .ref sv, .ref ts, .ref pb, .null, .int lr])), (al, .inr (4, [.int md, .ref (gE G), .int (nI 0)])), (ou, .inl (gyL G, 1, .inr (.inl fo)))] (fun (r : Int32) (u : Unit) => r = nI 1) (fun (u : Unit) => [(ho, .inr (11, [.ref al, .ref sv, .ref ts, .ref pb, .null, .int lr])), (al, .inr (4, [.int md, .ref (gE G), .int (nI 0)])), (ou, .inl (gyL G, 1, .inr (.inl fo)))]) := by
  intro sz
  refine met_ofWH (cc := cL_hint) (maxL := 4) (ret := (some .int)) (hh := [(0, 9, 12, 19), (0, 9, 15, 26), (0, 9, 18, 45)]) (by decide) rfl ?_
  intro p e s m args below meth c s₁ B9 hml hv
  obtain ⟨rfl, hsz, hP, hK, hD0, hE⟩ := hv
  have hx := B9.exec
  have hb := B9.bytes
  have hr := B9.returns
  have hts : ∀ w ∈ WW, w.before ([.ref ho, .int v, .ref ou] : List Value).toArray s = true := fun w h => atoms_spec (ws := .codeWith yL_hint cL_hint 4 (some .int) [(0, 9, 12, 19), (0, 9, 15, 26), (0, 9, 18, 45)] :: WW) B9.pre w (List.mem_cons_of_mem _ h)
  have htab := vx_table (x := yL_hint) B9 (atoms_spec (ws := .codeWith yL_hint cL_hint 4 (some .int) [(0, 9, 12, 19), (0, 9, 15, 26), (0, 9, 18, 45)] :: WW) B9.pre _ List.mem_cons_self)
  have hown : s.vm.findClass RL = some m.cls := findClass_of_methodNamed B9.named
  subst hsz
  have hD := hD0.self (sz := s.heap.size)
  generalize hAe : va_A [(ho, .inr (11, [.ref al, .ref sv, .ref ts, .ref pb, .null, .int lr])), (al, .inr (4, [.int md, .ref (gE G), .int (nI 0)])), (ou, .inl (gyL G, 1, .inr (.inl fo)))] s.heap.size = A at hD hE ⊢
  have hA : ∀ q : Nat, s.heap.size ≤ q → A q := fun q h => by rw [← hAe]; exact Or.inr h
  have hl := lv_entry ([.ref ho, .int v, .ref ou]) (n := 4) (Nat.le_of_ble_eq_true rfl)
  rw [lg_entry_eq]
  generalize (lg_sl ([.ref ho, .int v, .ref ou]) ++ List.replicate (4 - (lg_sl ([.ref ho, .int v, .ref ou])).length) Slot.unset).toArray = ls at hl ⊢
  have hl : lv_has ls 4 [(0, .ref ho), (1, .int v), (2, .ref ou)] := hl
  refine qgen (fun Q hQ => ?_)
  refine hgen (fun H locs hP hD hS => ?_) hP hD
  refine lv_aload_n hx hb dL_hint_0 rfl (lv_at hl 2 rfl) ?_
  refine lv_iconst (v := nI 0) hx hb dL_hint_1 (by decide) ?_
  refine lv_aload_n hx hb dL_hint_2 rfl (lv_at hl 0 rfl) ?_
  refine lv_iload_n hx hb dL_hint_3 rfl (lv_at hl 1 rfl) ?_
  refine finx hP hD hS hA [0, 1] [2] (wr := [(ou, .inl (gyL G, 1, .inr (.inl fo)))]) rfl rfl (by decide) (by decide) (vx_runV (As := [.int v]) (rest := [.int (nI 0), .ref ou]) ⟨hx, hb, hml, hown, hts⟩ (c_X6_hint l G ho al ts pb lr sv md v hst H.size) (cwV 1 hts (gV q874 q875 q876 q45 q877) rfl rfl rfl (by decide +kernel) ⟨Nat.le_of_ble_eq_true rfl, Nat.le_of_ble_eq_true rfl⟩) (preV (q0 := 0) (ci := 11) hK hE hP hD hS hA [0, 1] rfl (by decide) rfl rfl) rfl rfl hl.1 rfl (lv_room (Nat.le_of_ble_eq_true rfl)) dL_hint_4 ⟨Nat.le_of_ble_eq_true rfl, Nat.le_of_ble_eq_true rfl⟩) (fun ce9 q9 H locs hP hD hS hc9 hv9 hf9 => ?_)
  have hP : va_P (gD G) vwCl [(ou, .inl (gyL G, 1, .inr (.inl fo))), (ho, .inr (11, [.ref al, .ref sv, .ref ts, .ref pb, .null, .int lr])), (al, .inr (4, [.int md, .ref (gE G), .int (nI 0)]))] H := hP
  have hD : va_D A [(ou, .inl (gyL G, 1, .inr (.inl fo))), (ho, .inr (11, [.ref al, .ref sv, .ref ts, .ref pb, .null, .int lr])), (al, .inr (4, [.int md, .ref (gE G), .int (nI 0)]))] := hD
  refine vx_catch (own := RL) (name := "java/lang/IndexOutOfBoundsException") (E := "java/lang/IndexOutOfBoundsException") hown [] ⟨0, 9, 12, 19⟩ [⟨0, 9, 15, 26⟩, ⟨0, 9, 18, 45⟩] (htab.trans rfl) (fun z9 h9 => nomatch h9) (by decide) (by decide) (hts _ q537) (nw_use rfl (hE.1.1 _ nq572)) hc9 hv9 hf9 ?_
  refine lv_astore_n (lv' := [(3, .ref q9), (0, .ref ho), (1, .int v), (2, .ref ou)]) hx hb dL_hint_12 rfl hl (by decide) rfl (fun ls hl => ?_)
  refine lv_iconst (v := nI 1) hx hb dL_hint_13 (by decide) ?_
  have hP9 := hP.sub (ws' := [(ho, .inr (11, [.ref al, .ref sv, .ref ts, .ref pb, .null, .int lr])), (al, .inr (4, [.int md, .ref (gE G), .int (nI 0)])), (ou, .inl (gyL G, 1, .inr (.inl fo)))]) [1, 2, 0] rfl
  have hD9 := hD.sub (ws' := [(ho, .inr (11, [.ref al, .ref sv, .ref ts, .ref pb, .null, .int lr])), (al, .inr (4, [.int md, .ref (gE G), .int (nI 0)])), (ou, .inl (gyL G, 1, .inr (.inl fo)))]) [1, 2, 0] (by decide) rfl
  subst hQ
  exact W.iret (v := nI 1) hx hb hr (fun t ht hW => ⟨⟨nI 1, (), rfl, rfl, by rw [ht]; exact hP9, hD9⟩, hS.F ht⟩) hS.2.2 dL_hint_14
set_option maxHeartbeats 4000000 in
set_option maxRecDepth 100000 in
theorem l_tell_1 (l : Launch) (G : GG) (ho : Nat) (al : Nat) (ts : Nat) (pb : Nat) (lr : Int32) (sv : Nat) (md : Int32) (v : Int32) (v2 : Int32) (x : Int32) (ou : Nat) (fo : Nat → Int64) (hbad : v2 < nI 0 ∨ nI 15 < v2) (hst : l.stackTraces = false) : Mh l G yL_tell cL_tell 6 [(0, 12, 15, 19), (0, 12, 19, 21), (0, 12, 23, 13), (0, 12, 27, 26)] ({ frames := 8, cells := 1, slots := 6, locals := 125 } : Room) [.ref ho, .int v, .int v2, .int x, .ref ou] [(ho, .inr (11, [.ref al, .ref sv, .ref ts, .ref pb, .null, .int lr])), (al, .inr (4, [.int md, .ref (gE G), .int (nI 0)])), (ou, .inl (gyL G, 1, .inr (.inl fo)))] (fun (r : Int32) (u : Unit) => r = nI 1) (fun (u : Unit) => [(ho, .inr (11, [.ref al, .ref sv, .ref ts, .ref pb, .null, .int lr])), (al, .inr (4, [.int md, .ref (gE G), .int (nI 0)])), (ou, .inl (gyL G, 1, .inr (.inl fo)))]) := by
  intro sz
  refine met_ofWH (cc := cL_tell) (maxL := 6) (ret := (some .int)) (hh := [(0, 12, 15, 19), (0, 12, 19, 21), (0, 12, 23, 13), (0, 12, 27, 26)]) (by decide) rfl ?_
  intro p e s m args below meth c s₁ B9 hml hv
  obtain ⟨rfl, hsz, hP, hK, hD0, hE⟩ := hv
  have hx := B9.exec
  have hb := B9.bytes
  have hr := B9.returns
  have hts : ∀ w ∈ WW, w.before ([.ref ho, .int v, .int v2, .int x, .ref ou] : List Value).toArray s = true := fun w h => atoms_spec (ws := .codeWith yL_tell cL_tell 6 (some .int) [(0, 12, 15, 19), (0, 12, 19, 21), (0, 12, 23, 13), (0, 12, 27, 26)] :: WW) B9.pre w (List.mem_cons_of_mem _ h)
  have htab := vx_table (x := yL_tell) B9 (atoms_spec (ws := .codeWith yL_tell cL_tell 6 (some .int) [(0, 12, 15, 19), (0, 12, 19, 21), (0, 12, 23, 13), (0, 12, 27, 26)] :: WW) B9.pre _ List.mem_cons_self)
  have hown : s.vm.findClass RL = some m.cls := findClass_of_methodNamed B9.named
  subst hsz
  have hD := hD0.self (sz := s.heap.size)
  generalize hAe : va_A [(ho, .inr (11, [.ref al, .ref sv, .ref ts, .ref pb, .null, .int lr])), (al, .inr (4, [.int md, .ref (gE G), .int (nI 0)])), (ou, .inl (gyL G, 1, .inr (.inl fo)))] s.heap.size = A at hD hE ⊢
  have hA : ∀ q : Nat, s.heap.size ≤ q → A q := fun q h => by rw [← hAe]; exact Or.inr h
  have hl := lv_entry ([.ref ho, .int v, .int v2, .int x, .ref ou]) (n := 6) (Nat.le_of_ble_eq_true rfl)
  rw [lg_entry_eq]
  generalize (lg_sl ([.ref ho, .int v, .int v2, .int x, .ref ou]) ++ List.replicate (6 - (lg_sl ([.ref ho, .int v, .int v2, .int x, .ref ou])).length) Slot.unset).toArray = ls at hl ⊢
  have hl : lv_has ls 6 [(0, .ref ho), (1, .int v), (2, .int v2), (3, .int x), (4, .ref ou)] := hl
  refine qgen (fun Q hQ => ?_)
  refine hgen (fun H locs hP hD hS => ?_) hP hD
  refine lv_aload hx hb dL_tell_0 (lv_at hl 4 rfl) ?_
  refine lv_iconst (v := nI 0) hx hb dL_tell_2 (by decide) ?_
  refine lv_aload_n hx hb dL_tell_3 rfl (lv_at hl 0 rfl) ?_
  refine lv_iload_n hx hb dL_tell_4 rfl (lv_at hl 1 rfl) ?_
  refine lv_iload_n hx hb dL_tell_5 rfl (lv_at hl 2 rfl) ?_
  refine lv_iload_n hx hb dL_tell_6 rfl (lv_at hl 3 rfl) ?_
  refine finx hP hD hS hA [0, 1] [2] (wr := [(ou, .inl (gyL G, 1, .inr (.inl fo)))]) rfl rfl (by decide) (by decide) (vx_runV (As := [.int v, .int v2, .int x]) (rest := [.int (nI 0), .ref ou]) ⟨hx, hb, hml, hown, hts⟩ (c_tell_1 l G ho al ts pb lr sv md v v2 x hst (by omega) H.size) (cwV 3 hts (gV q816 q817 q818 q45 q819) rfl rfl rfl (by decide +kernel) ⟨Nat.le_of_ble_eq_true rfl, Nat.le_of_ble_eq_true rfl⟩) (preV (q0 := 0) (ci := 11) hK hE hP hD hS hA [0, 1] rfl (by decide) rfl rfl) rfl rfl hl.1 rfl (lv_room (Nat.le_of_ble_eq_true rfl)) dL_tell_7 ⟨Nat.le_of_ble_eq_true rfl, Nat.le_of_ble_eq_true rfl⟩) (fun ce9 q9 H locs hP hD hS hc9 hv9 hf9 => ?_)
  have hP : va_P (gD G) vwCl [(ou, .inl (gyL G, 1, .inr (.inl fo))), (ho, .inr (11, [.ref al, .ref sv, .ref ts, .ref pb, .null, .int lr])), (al, .inr (4, [.int md, .ref (gE G), .int (nI 0)]))] H := hP
  have hD : va_D A [(ou, .inl (gyL G, 1, .inr (.inl fo))), (ho, .inr (11, [.ref al, .ref sv, .ref ts, .ref pb, .null, .int lr])), (al, .inr (4, [.int md, .ref (gE G), .int (nI 0)]))] := hD
  refine vx_catch (own := RL) (name := "java/lang/IndexOutOfBoundsException") (E := "java/lang/IndexOutOfBoundsException") hown [] ⟨0, 12, 15, 19⟩ [⟨0, 12, 19, 21⟩, ⟨0, 12, 23, 13⟩, ⟨0, 12, 27, 26⟩] (htab.trans rfl) (fun z9 h9 => nomatch h9) (by decide) (by decide) (hts _ q537) (nw_use rfl (hE.1.1 _ nq572)) hc9 hv9 hf9 ?_
  refine lv_astore (lv' := [(5, .ref q9), (0, .ref ho), (1, .int v), (2, .int v2), (3, .int x), (4, .ref ou)]) hx hb dL_tell_15 hl (by decide) rfl (fun ls hl => ?_)
  refine lv_iconst (v := nI 1) hx hb dL_tell_17 (by decide) ?_
  have hP9 := hP.sub (ws' := [(ho, .inr (11, [.ref al, .ref sv, .ref ts, .ref pb, .null, .int lr])), (al, .inr (4, [.int md, .ref (gE G), .int (nI 0)])), (ou, .inl (gyL G, 1, .inr (.inl fo)))]) [1, 2, 0] rfl
  have hD9 := hD.sub (ws' := [(ho, .inr (11, [.ref al, .ref sv, .ref ts, .ref pb, .null, .int lr])), (al, .inr (4, [.int md, .ref (gE G), .int (nI 0)])), (ou, .inl (gyL G, 1, .inr (.inl fo)))]) [1, 2, 0] (by decide) rfl
  subst hQ
  exact W.iret (v := nI 1) hx hb hr (fun t ht hW => ⟨⟨nI 1, (), rfl, rfl, by rw [ht]; exact hP9, hD9⟩, hS.F ht⟩) hS.2.2 dL_tell_18
set_option maxHeartbeats 4000000 in
set_option maxRecDepth 100000 in
theorem l_tell_2a (l : Launch) (G : GG) (ho : Nat) (al : Nat) (ts : Nat) (pb : Nat) (lr : Int32) (sv : Nat) (md : Int32) (v : Int32) (k : Nat) (x : Int32) (ou : Nat) (fo : Nat → Int64) (hk : k < 16) (hbad : v < nI 0 ∨ nI 4 < v) (hst : l.stackTraces = false) : Mh l G yL_tell cL_tell 6 [(0, 12, 15, 19), (0, 12, 19, 21), (0, 12, 23, 13), (0, 12, 27, 26)] ({ frames := 7, cells := 1, slots := 6, locals := 105 } : Room) [.ref ho, .int v, .int (nI k), .int x, .ref ou] [(ho, .inr (11, [.ref al, .ref sv, .ref ts, .ref pb, .null, .int lr])), (al, .inr (4, [.int md, .ref (gE G), .int (nI 0)])), (ou, .inl (gyL G, 1, .inr (.inl fo)))] (fun (r : Int32) (u : Unit) => r = nI 2) (fun (u : Unit) => [(ho, .inr (11, [.ref al, .ref sv, .ref ts, .ref pb, .null, .int lr])), (al, .inr (4, [.int md, .ref (gE G), .int (nI 0)])), (ou, .inl (gyL G, 1, .inr (.inl fo)))]) := by
  intro sz
  refine met_ofWH (cc := cL_tell) (maxL := 6) (ret := (some .int)) (hh := [(0, 12, 15, 19), (0, 12, 19, 21), (0, 12, 23, 13), (0, 12, 27, 26)]) (by decide) rfl ?_
  intro p e s m args below meth c s₁ B9 hml hv
  obtain ⟨rfl, hsz, hP, hK, hD0, hE⟩ := hv
  have hx := B9.exec
  have hb := B9.bytes
  have hr := B9.returns
  have hts : ∀ w ∈ WW, w.before ([.ref ho, .int v, .int (nI k), .int x, .ref ou] : List Value).toArray s = true := fun w h => atoms_spec (ws := .codeWith yL_tell cL_tell 6 (some .int) [(0, 12, 15, 19), (0, 12, 19, 21), (0, 12, 23, 13), (0, 12, 27, 26)] :: WW) B9.pre w (List.mem_cons_of_mem _ h)
  have htab := vx_table (x := yL_tell) B9 (atoms_spec (ws := .codeWith yL_tell cL_tell 6 (some .int) [(0, 12, 15, 19), (0, 12, 19, 21), (0, 12, 23, 13), (0, 12, 27, 26)] :: WW) B9.pre _ List.mem_cons_self)
  have hown : s.vm.findClass RL = some m.cls := findClass_of_methodNamed B9.named
  subst hsz
  have hD := hD0.self (sz := s.heap.size)
  generalize hAe : va_A [(ho, .inr (11, [.ref al, .ref sv, .ref ts, .ref pb, .null, .int lr])), (al, .inr (4, [.int md, .ref (gE G), .int (nI 0)])), (ou, .inl (gyL G, 1, .inr (.inl fo)))] s.heap.size = A at hD hE ⊢
  have hA : ∀ q : Nat, s.heap.size ≤ q → A q := fun q h => by rw [← hAe]; exact Or.inr h
  have hl := lv_entry ([.ref ho, .int v, .int (nI k), .int x, .ref ou]) (n := 6) (Nat.le_of_ble_eq_true rfl)
  rw [lg_entry_eq]
  generalize (lg_sl ([.ref ho, .int v, .int (nI k), .int x, .ref ou]) ++ List.replicate (6 - (lg_sl ([.ref ho, .int v, .int (nI k), .int x, .ref ou])).length) Slot.unset).toArray = ls at hl ⊢
  have hl : lv_has ls 6 [(0, .ref ho), (1, .int v), (2, .int (nI k)), (3, .int x), (4, .ref ou)] := hl
  refine qgen (fun Q hQ => ?_)
  refine hgen (fun H locs hP hD hS => ?_) hP hD
  refine lv_aload hx hb dL_tell_0 (lv_at hl 4 rfl) ?_
  refine lv_iconst (v := nI 0) hx hb dL_tell_2 (by decide) ?_
  refine lv_aload_n hx hb dL_tell_3 rfl (lv_at hl 0 rfl) ?_
  refine lv_iload_n hx hb dL_tell_4 rfl (lv_at hl 1 rfl) ?_
  refine lv_iload_n hx hb dL_tell_5 rfl (lv_at hl 2 rfl) ?_
  refine lv_iload_n hx hb dL_tell_6 rfl (lv_at hl 3 rfl) ?_
  refine finx hP hD hS hA [0, 1] [2] (wr := [(ou, .inl (gyL G, 1, .inr (.inl fo)))]) rfl rfl (by decide) (by decide) (vx_runV (As := [.int v, .int (nI k), .int x]) (rest := [.int (nI 0), .ref ou]) ⟨hx, hb, hml, hown, hts⟩ (c_tell_2a l G ho al ts pb lr sv md v k x hst (by omega) (by omega) H.size) (cwV 3 hts (gV q816 q817 q818 q45 q819) rfl rfl rfl (by decide +kernel) ⟨Nat.le_of_ble_eq_true rfl, Nat.le_of_ble_eq_true rfl⟩) (preV (q0 := 0) (ci := 11) hK hE hP hD hS hA [0, 1] rfl (by decide) rfl rfl) rfl rfl hl.1 rfl (lv_room (Nat.le_of_ble_eq_true rfl)) dL_tell_7 ⟨Nat.le_of_ble_eq_true rfl, Nat.le_of_ble_eq_true rfl⟩) (fun ce9 q9 H locs hP hD hS hc9 hv9 hf9 => ?_)
  have hP : va_P (gD G) vwCl [(ou, .inl (gyL G, 1, .inr (.inl fo))), (ho, .inr (11, [.ref al, .ref sv, .ref ts, .ref pb, .null, .int lr])), (al, .inr (4, [.int md, .ref (gE G), .int (nI 0)]))] H := hP
  have hD : va_D A [(ou, .inl (gyL G, 1, .inr (.inl fo))), (ho, .inr (11, [.ref al, .ref sv, .ref ts, .ref pb, .null, .int lr])), (al, .inr (4, [.int md, .ref (gE G), .int (nI 0)]))] := hD
  have hp9 : ∀ z ∈ ([⟨0, 12, 15, 19⟩] : List ExceptionTableEntry), covers z 7 = false ∨ (z.catchType ≠ 0 ∧ ∃ nm : String, (Cond.classLink RL z.catchType nm).before ([.ref ho, .int v, .int (nI k), .int x, .ref ou] : List Value).toArray s = true ∧ va_Nc "java/lang/IllegalArgumentException" nm s) := by
    intro z9 h9
    simp only [List.mem_cons, List.not_mem_nil, or_false] at h9
    subst h9
    exact Or.inr ⟨by decide, "java/lang/IndexOutOfBoundsException", hts _ q537, NCm (q := ("java/lang/IllegalArgumentException", "java/lang/IndexOutOfBoundsException")) 0 rfl hE⟩
  refine vx_catch (own := RL) (name := "java/lang/IllegalArgumentException") (E := "java/lang/IllegalArgumentException") hown [⟨0, 12, 15, 19⟩] ⟨0, 12, 19, 21⟩ [⟨0, 12, 23, 13⟩, ⟨0, 12, 27, 26⟩] (htab.trans rfl) hp9 (by decide) (by decide) (hts _ q561) (nw_use rfl (hE.1.1 _ nq592)) hc9 hv9 hf9 ?_
  refine lv_astore (lv' := [(5, .ref q9), (0, .ref ho), (1, .int v), (2, .int (nI k)), (3, .int x), (4, .ref ou)]) hx hb dL_tell_19 hl (by decide) rfl (fun ls hl => ?_)
  refine lv_iconst (v := nI 2) hx hb dL_tell_21 (by decide) ?_
  have hP9 := hP.sub (ws' := [(ho, .inr (11, [.ref al, .ref sv, .ref ts, .ref pb, .null, .int lr])), (al, .inr (4, [.int md, .ref (gE G), .int (nI 0)])), (ou, .inl (gyL G, 1, .inr (.inl fo)))]) [1, 2, 0] rfl
  have hD9 := hD.sub (ws' := [(ho, .inr (11, [.ref al, .ref sv, .ref ts, .ref pb, .null, .int lr])), (al, .inr (4, [.int md, .ref (gE G), .int (nI 0)])), (ou, .inl (gyL G, 1, .inr (.inl fo)))]) [1, 2, 0] (by decide) rfl
  subst hQ
  exact W.iret (v := nI 2) hx hb hr (fun t ht hW => ⟨⟨nI 2, (), rfl, rfl, by rw [ht]; exact hP9, hD9⟩, hS.F ht⟩) hS.2.2 dL_tell_22
set_option maxHeartbeats 4000000 in
set_option maxRecDepth 100000 in
theorem l_tell_2b (l : Launch) (G : GG) (ho : Nat) (al : Nat) (ts : Nat) (pb : Nat) (lr : Int32) (sv : Nat) (md : Int32) (rl : Nat) (k : Nat) (x : Int32) (ou : Nat) (fo : Nat → Int64) (hrl : rl < 5) (hk : k < 16) (hbad : x < nI 1 ∨ nI 4 < x) (hst : l.stackTraces = false) : Mh l G yL_tell cL_tell 6 [(0, 12, 15, 19), (0, 12, 19, 21), (0, 12, 23, 13), (0, 12, 27, 26)] ({ frames := 7, cells := 1, slots := 6, locals := 105 } : Room) [.ref ho, .int (nI rl), .int (nI k), .int x, .ref ou] [(ho, .inr (11, [.ref al, .ref sv, .ref ts, .ref pb, .null, .int lr])), (al, .inr (4, [.int md, .ref (gE G), .int (nI 0)])), (ou, .inl (gyL G, 1, .inr (.inl fo)))] (fun (r : Int32) (u : Unit) => r = nI 2) (fun (u : Unit) => [(ho, .inr (11, [.ref al, .ref sv, .ref ts, .ref pb, .null, .int lr])), (al, .inr (4, [.int md, .ref (gE G), .int (nI 0)])), (ou, .inl (gyL G, 1, .inr (.inl fo)))]) := by
  intro sz
  refine met_ofWH (cc := cL_tell) (maxL := 6) (ret := (some .int)) (hh := [(0, 12, 15, 19), (0, 12, 19, 21), (0, 12, 23, 13), (0, 12, 27, 26)]) (by decide) rfl ?_
  intro p e s m args below meth c s₁ B9 hml hv
  obtain ⟨rfl, hsz, hP, hK, hD0, hE⟩ := hv
  have hx := B9.exec
  have hb := B9.bytes
  have hr := B9.returns
  have hts : ∀ w ∈ WW, w.before ([.ref ho, .int (nI rl), .int (nI k), .int x, .ref ou] : List Value).toArray s = true := fun w h => atoms_spec (ws := .codeWith yL_tell cL_tell 6 (some .int) [(0, 12, 15, 19), (0, 12, 19, 21), (0, 12, 23, 13), (0, 12, 27, 26)] :: WW) B9.pre w (List.mem_cons_of_mem _ h)
  have htab := vx_table (x := yL_tell) B9 (atoms_spec (ws := .codeWith yL_tell cL_tell 6 (some .int) [(0, 12, 15, 19), (0, 12, 19, 21), (0, 12, 23, 13), (0, 12, 27, 26)] :: WW) B9.pre _ List.mem_cons_self)
  have hown : s.vm.findClass RL = some m.cls := findClass_of_methodNamed B9.named
  subst hsz
  have hD := hD0.self (sz := s.heap.size)
  generalize hAe : va_A [(ho, .inr (11, [.ref al, .ref sv, .ref ts, .ref pb, .null, .int lr])), (al, .inr (4, [.int md, .ref (gE G), .int (nI 0)])), (ou, .inl (gyL G, 1, .inr (.inl fo)))] s.heap.size = A at hD hE ⊢
  have hA : ∀ q : Nat, s.heap.size ≤ q → A q := fun q h => by rw [← hAe]; exact Or.inr h
  have hl := lv_entry ([.ref ho, .int (nI rl), .int (nI k), .int x, .ref ou]) (n := 6) (Nat.le_of_ble_eq_true rfl)
  rw [lg_entry_eq]
  generalize (lg_sl ([.ref ho, .int (nI rl), .int (nI k), .int x, .ref ou]) ++ List.replicate (6 - (lg_sl ([.ref ho, .int (nI rl), .int (nI k), .int x, .ref ou])).length) Slot.unset).toArray = ls at hl ⊢
  have hl : lv_has ls 6 [(0, .ref ho), (1, .int (nI rl)), (2, .int (nI k)), (3, .int x), (4, .ref ou)] := hl
  refine qgen (fun Q hQ => ?_)
  refine hgen (fun H locs hP hD hS => ?_) hP hD
  refine lv_aload hx hb dL_tell_0 (lv_at hl 4 rfl) ?_
  refine lv_iconst (v := nI 0) hx hb dL_tell_2 (by decide) ?_
  refine lv_aload_n hx hb dL_tell_3 rfl (lv_at hl 0 rfl) ?_
  refine lv_iload_n hx hb dL_tell_4 rfl (lv_at hl 1 rfl) ?_
  refine lv_iload_n hx hb dL_tell_5 rfl (lv_at hl 2 rfl) ?_
  refine lv_iload_n hx hb dL_tell_6 rfl (lv_at hl 3 rfl) ?_
  refine finx hP hD hS hA [0, 1] [2] (wr := [(ou, .inl (gyL G, 1, .inr (.inl fo)))]) rfl rfl (by decide) (by decide) (vx_runV (As := [.int (nI rl), .int (nI k), .int x]) (rest := [.int (nI 0), .ref ou]) ⟨hx, hb, hml, hown, hts⟩ (c_tell_2b l G ho al ts pb lr sv md rl k x hst (by omega) (by omega) (by omega) H.size) (cwV 3 hts (gV q816 q817 q818 q45 q819) rfl rfl rfl (by decide +kernel) ⟨Nat.le_of_ble_eq_true rfl, Nat.le_of_ble_eq_true rfl⟩) (preV (q0 := 0) (ci := 11) hK hE hP hD hS hA [0, 1] rfl (by decide) rfl rfl) rfl rfl hl.1 rfl (lv_room (Nat.le_of_ble_eq_true rfl)) dL_tell_7 ⟨Nat.le_of_ble_eq_true rfl, Nat.le_of_ble_eq_true rfl⟩) (fun ce9 q9 H locs hP hD hS hc9 hv9 hf9 => ?_)
  have hP : va_P (gD G) vwCl [(ou, .inl (gyL G, 1, .inr (.inl fo))), (ho, .inr (11, [.ref al, .ref sv, .ref ts, .ref pb, .null, .int lr])), (al, .inr (4, [.int md, .ref (gE G), .int (nI 0)]))] H := hP
  have hD : va_D A [(ou, .inl (gyL G, 1, .inr (.inl fo))), (ho, .inr (11, [.ref al, .ref sv, .ref ts, .ref pb, .null, .int lr])), (al, .inr (4, [.int md, .ref (gE G), .int (nI 0)]))] := hD
  have hp9 : ∀ z ∈ ([⟨0, 12, 15, 19⟩] : List ExceptionTableEntry), covers z 7 = false ∨ (z.catchType ≠ 0 ∧ ∃ nm : String, (Cond.classLink RL z.catchType nm).before ([.ref ho, .int (nI rl), .int (nI k), .int x, .ref ou] : List Value).toArray s = true ∧ va_Nc "java/lang/IllegalArgumentException" nm s) := by
    intro z9 h9
    simp only [List.mem_cons, List.not_mem_nil, or_false] at h9
    subst h9
    exact Or.inr ⟨by decide, "java/lang/IndexOutOfBoundsException", hts _ q537, NCm (q := ("java/lang/IllegalArgumentException", "java/lang/IndexOutOfBoundsException")) 0 rfl hE⟩
  refine vx_catch (own := RL) (name := "java/lang/IllegalArgumentException") (E := "java/lang/IllegalArgumentException") hown [⟨0, 12, 15, 19⟩] ⟨0, 12, 19, 21⟩ [⟨0, 12, 23, 13⟩, ⟨0, 12, 27, 26⟩] (htab.trans rfl) hp9 (by decide) (by decide) (hts _ q561) (nw_use rfl (hE.1.1 _ nq592)) hc9 hv9 hf9 ?_
  refine lv_astore (lv' := [(5, .ref q9), (0, .ref ho), (1, .int (nI rl)), (2, .int (nI k)), (3, .int x), (4, .ref ou)]) hx hb dL_tell_19 hl (by decide) rfl (fun ls hl => ?_)
  refine lv_iconst (v := nI 2) hx hb dL_tell_21 (by decide) ?_
  have hP9 := hP.sub (ws' := [(ho, .inr (11, [.ref al, .ref sv, .ref ts, .ref pb, .null, .int lr])), (al, .inr (4, [.int md, .ref (gE G), .int (nI 0)])), (ou, .inl (gyL G, 1, .inr (.inl fo)))]) [1, 2, 0] rfl
  have hD9 := hD.sub (ws' := [(ho, .inr (11, [.ref al, .ref sv, .ref ts, .ref pb, .null, .int lr])), (al, .inr (4, [.int md, .ref (gE G), .int (nI 0)])), (ou, .inl (gyL G, 1, .inr (.inl fo)))]) [1, 2, 0] (by decide) rfl
  subst hQ
  exact W.iret (v := nI 2) hx hb hr (fun t ht hW => ⟨⟨nI 2, (), rfl, rfl, by rw [ht]; exact hP9, hD9⟩, hS.F ht⟩) hS.2.2 dL_tell_22
set_option maxHeartbeats 4000000 in
set_option maxRecDepth 100000 in
theorem l_tell_3 (l : Launch) (G : GG) (ho : Nat) (al : Nat) (ts : Nat) (pb : Nat) (lr : Int32) (sv : Nat) (md : Int32) (rl : Nat) (k : Nat) (x : Nat) (ou : Nat) (fo : Nat → Int64) (hrl : rl < 5) (hk : k < 16) (hx1 : 1 ≤ x) (hx4 : x ≤ 4) (hst : l.stackTraces = false) : Mh l G yL_tell cL_tell 6 [(0, 12, 15, 19), (0, 12, 19, 21), (0, 12, 23, 13), (0, 12, 27, 26)] ({ frames := 7, cells := 1, slots := 6, locals := 105 } : Room) [.ref ho, .int (nI rl), .int (nI k), .int (nI x), .ref ou] [(ho, .inr (11, [.ref al, .ref sv, .ref ts, .ref pb, .null, .int lr])), (al, .inr (4, [.int md, .ref (gE G), .int (nI 0)])), (ou, .inl (gyL G, 1, .inr (.inl fo)))] (fun (r : Int32) (u : Unit) => r = nI 3) (fun (u : Unit) => [(ho, .inr (11, [.ref al, .ref sv, .ref ts, .ref pb, .null, .int lr])), (al, .inr (4, [.int md, .ref (gE G), .int (nI 0)])), (ou, .inl (gyL G, 1, .inr (.inl fo)))]) := by
  intro sz
  refine met_ofWH (cc := cL_tell) (maxL := 6) (ret := (some .int)) (hh := [(0, 12, 15, 19), (0, 12, 19, 21), (0, 12, 23, 13), (0, 12, 27, 26)]) (by decide) rfl ?_
  intro p e s m args below meth c s₁ B9 hml hv
  obtain ⟨rfl, hsz, hP, hK, hD0, hE⟩ := hv
  have hx := B9.exec
  have hb := B9.bytes
  have hr := B9.returns
  have hts : ∀ w ∈ WW, w.before ([.ref ho, .int (nI rl), .int (nI k), .int (nI x), .ref ou] : List Value).toArray s = true := fun w h => atoms_spec (ws := .codeWith yL_tell cL_tell 6 (some .int) [(0, 12, 15, 19), (0, 12, 19, 21), (0, 12, 23, 13), (0, 12, 27, 26)] :: WW) B9.pre w (List.mem_cons_of_mem _ h)
  have htab := vx_table (x := yL_tell) B9 (atoms_spec (ws := .codeWith yL_tell cL_tell 6 (some .int) [(0, 12, 15, 19), (0, 12, 19, 21), (0, 12, 23, 13), (0, 12, 27, 26)] :: WW) B9.pre _ List.mem_cons_self)
  have hown : s.vm.findClass RL = some m.cls := findClass_of_methodNamed B9.named
  subst hsz
  have hD := hD0.self (sz := s.heap.size)
  generalize hAe : va_A [(ho, .inr (11, [.ref al, .ref sv, .ref ts, .ref pb, .null, .int lr])), (al, .inr (4, [.int md, .ref (gE G), .int (nI 0)])), (ou, .inl (gyL G, 1, .inr (.inl fo)))] s.heap.size = A at hD hE ⊢
  have hA : ∀ q : Nat, s.heap.size ≤ q → A q := fun q h => by rw [← hAe]; exact Or.inr h
  have hl := lv_entry ([.ref ho, .int (nI rl), .int (nI k), .int (nI x), .ref ou]) (n := 6) (Nat.le_of_ble_eq_true rfl)
  rw [lg_entry_eq]
  generalize (lg_sl ([.ref ho, .int (nI rl), .int (nI k), .int (nI x), .ref ou]) ++ List.replicate (6 - (lg_sl ([.ref ho, .int (nI rl), .int (nI k), .int (nI x), .ref ou])).length) Slot.unset).toArray = ls at hl ⊢
  have hl : lv_has ls 6 [(0, .ref ho), (1, .int (nI rl)), (2, .int (nI k)), (3, .int (nI x)), (4, .ref ou)] := hl
  refine qgen (fun Q hQ => ?_)
  refine hgen (fun H locs hP hD hS => ?_) hP hD
  refine lv_aload hx hb dL_tell_0 (lv_at hl 4 rfl) ?_
  refine lv_iconst (v := nI 0) hx hb dL_tell_2 (by decide) ?_
  refine lv_aload_n hx hb dL_tell_3 rfl (lv_at hl 0 rfl) ?_
  refine lv_iload_n hx hb dL_tell_4 rfl (lv_at hl 1 rfl) ?_
  refine lv_iload_n hx hb dL_tell_5 rfl (lv_at hl 2 rfl) ?_
  refine lv_iload_n hx hb dL_tell_6 rfl (lv_at hl 3 rfl) ?_
  refine finx hP hD hS hA [0, 1] [2] (wr := [(ou, .inl (gyL G, 1, .inr (.inl fo)))]) rfl rfl (by decide) (by decide) (vx_runV (As := [.int (nI rl), .int (nI k), .int (nI x)]) (rest := [.int (nI 0), .ref ou]) ⟨hx, hb, hml, hown, hts⟩ (c_tell_3 l G ho al ts pb lr sv md rl k x hst (by omega) (by omega) (by omega) (by omega) H.size) (cwV 3 hts (gV q816 q817 q818 q45 q819) rfl rfl rfl (by decide +kernel) ⟨Nat.le_of_ble_eq_true rfl, Nat.le_of_ble_eq_true rfl⟩) (preV (q0 := 0) (ci := 11) hK hE hP hD hS hA [0, 1] rfl (by decide) rfl rfl) rfl rfl hl.1 rfl (lv_room (Nat.le_of_ble_eq_true rfl)) dL_tell_7 ⟨Nat.le_of_ble_eq_true rfl, Nat.le_of_ble_eq_true rfl⟩) (fun ce9 q9 H locs hP hD hS hc9 hv9 hf9 => ?_)
  have hP : va_P (gD G) vwCl [(ou, .inl (gyL G, 1, .inr (.inl fo))), (ho, .inr (11, [.ref al, .ref sv, .ref ts, .ref pb, .null, .int lr])), (al, .inr (4, [.int md, .ref (gE G), .int (nI 0)]))] H := hP
  have hD : va_D A [(ou, .inl (gyL G, 1, .inr (.inl fo))), (ho, .inr (11, [.ref al, .ref sv, .ref ts, .ref pb, .null, .int lr])), (al, .inr (4, [.int md, .ref (gE G), .int (nI 0)]))] := hD
  have hp9 : ∀ z ∈ ([⟨0, 12, 15, 19⟩, ⟨0, 12, 19, 21⟩] : List ExceptionTableEntry), covers z 7 = false ∨ (z.catchType ≠ 0 ∧ ∃ nm : String, (Cond.classLink RL z.catchType nm).before ([.ref ho, .int (nI rl), .int (nI k), .int (nI x), .ref ou] : List Value).toArray s = true ∧ va_Nc "java/lang/IllegalStateException" nm s) := by
    intro z9 h9
    simp only [List.mem_cons, List.not_mem_nil, or_false] at h9
    rcases h9 with rfl | rfl
    · exact Or.inr ⟨by decide, "java/lang/IndexOutOfBoundsException", hts _ q537, NCm (q := ("java/lang/IllegalStateException", "java/lang/IndexOutOfBoundsException")) 1 rfl hE⟩
    · exact Or.inr ⟨by decide, "java/lang/IllegalArgumentException", hts _ q561, NCm (q := ("java/lang/IllegalStateException", "java/lang/IllegalArgumentException")) 2 rfl hE⟩
  refine vx_catch (own := RL) (name := "java/lang/IllegalStateException") (E := "java/lang/IllegalStateException") hown [⟨0, 12, 15, 19⟩, ⟨0, 12, 19, 21⟩] ⟨0, 12, 23, 13⟩ [⟨0, 12, 27, 26⟩] (htab.trans rfl) hp9 (by decide) (by decide) (hts _ q352) (nw_use rfl (hE.1.1 _ nq359)) hc9 hv9 hf9 ?_
  refine lv_astore (lv' := [(5, .ref q9), (0, .ref ho), (1, .int (nI rl)), (2, .int (nI k)), (3, .int (nI x)), (4, .ref ou)]) hx hb dL_tell_23 hl (by decide) rfl (fun ls hl => ?_)
  refine lv_iconst (v := nI 3) hx hb dL_tell_25 (by decide) ?_
  have hP9 := hP.sub (ws' := [(ho, .inr (11, [.ref al, .ref sv, .ref ts, .ref pb, .null, .int lr])), (al, .inr (4, [.int md, .ref (gE G), .int (nI 0)])), (ou, .inl (gyL G, 1, .inr (.inl fo)))]) [1, 2, 0] rfl
  have hD9 := hD.sub (ws' := [(ho, .inr (11, [.ref al, .ref sv, .ref ts, .ref pb, .null, .int lr])), (al, .inr (4, [.int md, .ref (gE G), .int (nI 0)])), (ou, .inl (gyL G, 1, .inr (.inl fo)))]) [1, 2, 0] (by decide) rfl
  subst hQ
  exact W.iret (v := nI 3) hx hb hr (fun t ht hW => ⟨⟨nI 3, (), rfl, rfl, by rw [ht]; exact hP9, hD9⟩, hS.F ht⟩) hS.2.2 dL_tell_26
set_option maxHeartbeats 4000000 in
set_option maxRecDepth 100000 in
theorem l_cand_1 (l : Launch) (G : GG) (ho : Nat) (al : Nat) (ts : Nat) (pb : Nat) (lr : Int32) (sv : Nat) (md : Int32) (v : Int32) (ou : Nat) (fo : Nat → Int64) (hbad : v < nI 0 ∨ nI 15 < v) (hst : l.stackTraces = false) : Mh l G yL_candidates cL_candidates 4 [(0, 9, 12, 19), (0, 9, 15, 13)] ({ frames := 8, cells := 1, slots := 6, locals := 123 } : Room) [.ref ho, .int v, .ref ou] [(ho, .inr (11, [.ref al, .ref sv, .ref ts, .ref pb, .null, .int lr])), (al, .inr (4, [.int md, .ref (gE G), .int (nI 0)])), (ou, .inl (gyL G, 1, .inr (.inl fo)))] (fun (r : Int32) (u : Unit) => r = nI 1) (fun (u : Unit) => [(ho, .inr (11, [.ref al, .ref sv, .ref ts, .ref pb, .null, .int lr])), (al, .inr (4, [.int md, .ref (gE G), .int (nI 0)])), (ou, .inl (gyL G, 1, .inr (.inl fo)))]) := by
  intro sz
  refine met_ofWH (cc := cL_candidates) (maxL := 4) (ret := (some .int)) (hh := [(0, 9, 12, 19), (0, 9, 15, 13)]) (by decide) rfl ?_
  intro p e s m args below meth c s₁ B9 hml hv
  obtain ⟨rfl, hsz, hP, hK, hD0, hE⟩ := hv
  have hx := B9.exec
  have hb := B9.bytes
  have hr := B9.returns
  have hts : ∀ w ∈ WW, w.before ([.ref ho, .int v, .ref ou] : List Value).toArray s = true := fun w h => atoms_spec (ws := .codeWith yL_candidates cL_candidates 4 (some .int) [(0, 9, 12, 19), (0, 9, 15, 13)] :: WW) B9.pre w (List.mem_cons_of_mem _ h)
  have htab := vx_table (x := yL_candidates) B9 (atoms_spec (ws := .codeWith yL_candidates cL_candidates 4 (some .int) [(0, 9, 12, 19), (0, 9, 15, 13)] :: WW) B9.pre _ List.mem_cons_self)
  have hown : s.vm.findClass RL = some m.cls := findClass_of_methodNamed B9.named
  subst hsz
  have hD := hD0.self (sz := s.heap.size)
  generalize hAe : va_A [(ho, .inr (11, [.ref al, .ref sv, .ref ts, .ref pb, .null, .int lr])), (al, .inr (4, [.int md, .ref (gE G), .int (nI 0)])), (ou, .inl (gyL G, 1, .inr (.inl fo)))] s.heap.size = A at hD hE ⊢
  have hA : ∀ q : Nat, s.heap.size ≤ q → A q := fun q h => by rw [← hAe]; exact Or.inr h
  have hl := lv_entry ([.ref ho, .int v, .ref ou]) (n := 4) (Nat.le_of_ble_eq_true rfl)
  rw [lg_entry_eq]
  generalize (lg_sl ([.ref ho, .int v, .ref ou]) ++ List.replicate (4 - (lg_sl ([.ref ho, .int v, .ref ou])).length) Slot.unset).toArray = ls at hl ⊢
  have hl : lv_has ls 4 [(0, .ref ho), (1, .int v), (2, .ref ou)] := hl
  refine qgen (fun Q hQ => ?_)
  refine hgen (fun H locs hP hD hS => ?_) hP hD
  refine lv_aload_n hx hb dL_candidates_0 rfl (lv_at hl 2 rfl) ?_
  refine lv_iconst (v := nI 0) hx hb dL_candidates_1 (by decide) ?_
  refine lv_aload_n hx hb dL_candidates_2 rfl (lv_at hl 0 rfl) ?_
  refine lv_iload_n hx hb dL_candidates_3 rfl (lv_at hl 1 rfl) ?_
  refine finx hP hD hS hA [0, 1] [2] (wr := [(ou, .inl (gyL G, 1, .inr (.inl fo)))]) rfl rfl (by decide) (by decide) (vx_runV (As := [.int v]) (rest := [.int (nI 0), .ref ou]) ⟨hx, hb, hml, hown, hts⟩ (c_cand_1 l G ho al ts pb lr sv md v hst (by omega) H.size) (cwV 1 hts (gV q830 q831 q832 q45 q833) rfl rfl rfl (by decide +kernel) ⟨Nat.le_of_ble_eq_true rfl, Nat.le_of_ble_eq_true rfl⟩) (preV (q0 := 0) (ci := 11) hK hE hP hD hS hA [0, 1] rfl (by decide) rfl rfl) rfl rfl hl.1 rfl (lv_room (Nat.le_of_ble_eq_true rfl)) dL_candidates_4 ⟨Nat.le_of_ble_eq_true rfl, Nat.le_of_ble_eq_true rfl⟩) (fun ce9 q9 H locs hP hD hS hc9 hv9 hf9 => ?_)
  have hP : va_P (gD G) vwCl [(ou, .inl (gyL G, 1, .inr (.inl fo))), (ho, .inr (11, [.ref al, .ref sv, .ref ts, .ref pb, .null, .int lr])), (al, .inr (4, [.int md, .ref (gE G), .int (nI 0)]))] H := hP
  have hD : va_D A [(ou, .inl (gyL G, 1, .inr (.inl fo))), (ho, .inr (11, [.ref al, .ref sv, .ref ts, .ref pb, .null, .int lr])), (al, .inr (4, [.int md, .ref (gE G), .int (nI 0)]))] := hD
  refine vx_catch (own := RL) (name := "java/lang/IndexOutOfBoundsException") (E := "java/lang/IndexOutOfBoundsException") hown [] ⟨0, 9, 12, 19⟩ [⟨0, 9, 15, 13⟩] (htab.trans rfl) (fun z9 h9 => nomatch h9) (by decide) (by decide) (hts _ q537) (nw_use rfl (hE.1.1 _ nq572)) hc9 hv9 hf9 ?_
  refine lv_astore_n (lv' := [(3, .ref q9), (0, .ref ho), (1, .int v), (2, .ref ou)]) hx hb dL_candidates_12 rfl hl (by decide) rfl (fun ls hl => ?_)
  refine lv_iconst (v := nI 1) hx hb dL_candidates_13 (by decide) ?_
  have hP9 := hP.sub (ws' := [(ho, .inr (11, [.ref al, .ref sv, .ref ts, .ref pb, .null, .int lr])), (al, .inr (4, [.int md, .ref (gE G), .int (nI 0)])), (ou, .inl (gyL G, 1, .inr (.inl fo)))]) [1, 2, 0] rfl
  have hD9 := hD.sub (ws' := [(ho, .inr (11, [.ref al, .ref sv, .ref ts, .ref pb, .null, .int lr])), (al, .inr (4, [.int md, .ref (gE G), .int (nI 0)])), (ou, .inl (gyL G, 1, .inr (.inl fo)))]) [1, 2, 0] (by decide) rfl
  subst hQ
  exact W.iret (v := nI 1) hx hb hr (fun t ht hW => ⟨⟨nI 1, (), rfl, rfl, by rw [ht]; exact hP9, hD9⟩, hS.F ht⟩) hS.2.2 dL_candidates_14
set_option maxHeartbeats 4000000 in
set_option maxRecDepth 100000 in
theorem l_cand_2 (l : Launch) (G : GG) (ho : Nat) (al : Nat) (ts : Nat) (pb : Nat) (lr : Int32) (sv : Nat) (md : Int32) (k : Nat) (ou : Nat) (fo : Nat → Int64) (hk : k < 16) (hst : l.stackTraces = false) : Mh l G yL_candidates cL_candidates 4 [(0, 9, 12, 19), (0, 9, 15, 13)] ({ frames := 8, cells := 1, slots := 6, locals := 123 } : Room) [.ref ho, .int (nI k), .ref ou] [(ho, .inr (11, [.ref al, .ref sv, .ref ts, .ref pb, .null, .int lr])), (al, .inr (4, [.int md, .ref (gE G), .int (nI 0)])), (ou, .inl (gyL G, 1, .inr (.inl fo)))] (fun (r : Int32) (u : Unit) => r = nI 2) (fun (u : Unit) => [(ho, .inr (11, [.ref al, .ref sv, .ref ts, .ref pb, .null, .int lr])), (al, .inr (4, [.int md, .ref (gE G), .int (nI 0)])), (ou, .inl (gyL G, 1, .inr (.inl fo)))]) := by
  intro sz
  refine met_ofWH (cc := cL_candidates) (maxL := 4) (ret := (some .int)) (hh := [(0, 9, 12, 19), (0, 9, 15, 13)]) (by decide) rfl ?_
  intro p e s m args below meth c s₁ B9 hml hv
  obtain ⟨rfl, hsz, hP, hK, hD0, hE⟩ := hv
  have hx := B9.exec
  have hb := B9.bytes
  have hr := B9.returns
  have hts : ∀ w ∈ WW, w.before ([.ref ho, .int (nI k), .ref ou] : List Value).toArray s = true := fun w h => atoms_spec (ws := .codeWith yL_candidates cL_candidates 4 (some .int) [(0, 9, 12, 19), (0, 9, 15, 13)] :: WW) B9.pre w (List.mem_cons_of_mem _ h)
  have htab := vx_table (x := yL_candidates) B9 (atoms_spec (ws := .codeWith yL_candidates cL_candidates 4 (some .int) [(0, 9, 12, 19), (0, 9, 15, 13)] :: WW) B9.pre _ List.mem_cons_self)
  have hown : s.vm.findClass RL = some m.cls := findClass_of_methodNamed B9.named
  subst hsz
  have hD := hD0.self (sz := s.heap.size)
  generalize hAe : va_A [(ho, .inr (11, [.ref al, .ref sv, .ref ts, .ref pb, .null, .int lr])), (al, .inr (4, [.int md, .ref (gE G), .int (nI 0)])), (ou, .inl (gyL G, 1, .inr (.inl fo)))] s.heap.size = A at hD hE ⊢
  have hA : ∀ q : Nat, s.heap.size ≤ q → A q := fun q h => by rw [← hAe]; exact Or.inr h
  have hl := lv_entry ([.ref ho, .int (nI k), .ref ou]) (n := 4) (Nat.le_of_ble_eq_true rfl)
  rw [lg_entry_eq]
  generalize (lg_sl ([.ref ho, .int (nI k), .ref ou]) ++ List.replicate (4 - (lg_sl ([.ref ho, .int (nI k), .ref ou])).length) Slot.unset).toArray = ls at hl ⊢
  have hl : lv_has ls 4 [(0, .ref ho), (1, .int (nI k)), (2, .ref ou)] := hl
  refine qgen (fun Q hQ => ?_)
  refine hgen (fun H locs hP hD hS => ?_) hP hD
  refine lv_aload_n hx hb dL_candidates_0 rfl (lv_at hl 2 rfl) ?_
  refine lv_iconst (v := nI 0) hx hb dL_candidates_1 (by decide) ?_
  refine lv_aload_n hx hb dL_candidates_2 rfl (lv_at hl 0 rfl) ?_
  refine lv_iload_n hx hb dL_candidates_3 rfl (lv_at hl 1 rfl) ?_
  refine finx hP hD hS hA [0, 1] [2] (wr := [(ou, .inl (gyL G, 1, .inr (.inl fo)))]) rfl rfl (by decide) (by decide) (vx_runV (As := [.int (nI k)]) (rest := [.int (nI 0), .ref ou]) ⟨hx, hb, hml, hown, hts⟩ (c_cand_2 l G ho al ts pb lr sv md k hst (by omega) H.size) (cwV 1 hts (gV q830 q831 q832 q45 q833) rfl rfl rfl (by decide +kernel) ⟨Nat.le_of_ble_eq_true rfl, Nat.le_of_ble_eq_true rfl⟩) (preV (q0 := 0) (ci := 11) hK hE hP hD hS hA [0, 1] rfl (by decide) rfl rfl) rfl rfl hl.1 rfl (lv_room (Nat.le_of_ble_eq_true rfl)) dL_candidates_4 ⟨Nat.le_of_ble_eq_true rfl, Nat.le_of_ble_eq_true rfl⟩) (fun ce9 q9 H locs hP hD hS hc9 hv9 hf9 => ?_)
  have hP : va_P (gD G) vwCl [(ou, .inl (gyL G, 1, .inr (.inl fo))), (ho, .inr (11, [.ref al, .ref sv, .ref ts, .ref pb, .null, .int lr])), (al, .inr (4, [.int md, .ref (gE G), .int (nI 0)]))] H := hP
  have hD : va_D A [(ou, .inl (gyL G, 1, .inr (.inl fo))), (ho, .inr (11, [.ref al, .ref sv, .ref ts, .ref pb, .null, .int lr])), (al, .inr (4, [.int md, .ref (gE G), .int (nI 0)]))] := hD
  have hp9 : ∀ z ∈ ([⟨0, 9, 12, 19⟩] : List ExceptionTableEntry), covers z 4 = false ∨ (z.catchType ≠ 0 ∧ ∃ nm : String, (Cond.classLink RL z.catchType nm).before ([.ref ho, .int (nI k), .ref ou] : List Value).toArray s = true ∧ va_Nc "java/lang/IllegalStateException" nm s) := by
    intro z9 h9
    simp only [List.mem_cons, List.not_mem_nil, or_false] at h9
    subst h9
    exact Or.inr ⟨by decide, "java/lang/IndexOutOfBoundsException", hts _ q537, NCm (q := ("java/lang/IllegalStateException", "java/lang/IndexOutOfBoundsException")) 1 rfl hE⟩
  refine vx_catch (own := RL) (name := "java/lang/IllegalStateException") (E := "java/lang/IllegalStateException") hown [⟨0, 9, 12, 19⟩] ⟨0, 9, 15, 13⟩ [] (htab.trans rfl) hp9 (by decide) (by decide) (hts _ q352) (nw_use rfl (hE.1.1 _ nq359)) hc9 hv9 hf9 ?_
  refine lv_astore_n (lv' := [(3, .ref q9), (0, .ref ho), (1, .int (nI k)), (2, .ref ou)]) hx hb dL_candidates_15 rfl hl (by decide) rfl (fun ls hl => ?_)
  refine lv_iconst (v := nI 2) hx hb dL_candidates_16 (by decide) ?_
  have hP9 := hP.sub (ws' := [(ho, .inr (11, [.ref al, .ref sv, .ref ts, .ref pb, .null, .int lr])), (al, .inr (4, [.int md, .ref (gE G), .int (nI 0)])), (ou, .inl (gyL G, 1, .inr (.inl fo)))]) [1, 2, 0] rfl
  have hD9 := hD.sub (ws' := [(ho, .inr (11, [.ref al, .ref sv, .ref ts, .ref pb, .null, .int lr])), (al, .inr (4, [.int md, .ref (gE G), .int (nI 0)])), (ou, .inl (gyL G, 1, .inr (.inl fo)))]) [1, 2, 0] (by decide) rfl
  subst hQ
  exact W.iret (v := nI 2) hx hb hr (fun t ht hW => ⟨⟨nI 2, (), rfl, rfl, by rw [ht]; exact hP9, hD9⟩, hS.F ht⟩) hS.2.2 dL_candidates_17
set_option maxHeartbeats 4000000 in
set_option maxRecDepth 100000 in
theorem l_whole (l : Launch) (G : GG) (ho : Nat) (al : Nat) (ts : Nat) (pb : Nat) (lr : Int32) (sv : Nat) (md : Int32) (ou : Nat) (fo : Nat → Int64) (hst : l.stackTraces = false) : Mh l G yL_isWhole cL_isWhole 3 [(0, 15, 18, 13)] ({ frames := 8, cells := 1, slots := 6, locals := 122 } : Room) [.ref ho, .ref ou] [(ho, .inr (11, [.ref al, .ref sv, .ref ts, .ref pb, .null, .int lr])), (al, .inr (4, [.int md, .ref (gE G), .int (nI 0)])), (ou, .inl (gyL G, 1, .inr (.inl fo)))] (fun (r : Int32) (u : Unit) => r = nI 1) (fun (u : Unit) => [(ho, .inr (11, [.ref al, .ref sv, .ref ts, .ref pb, .null, .int lr])), (al, .inr (4, [.int md, .ref (gE G), .int (nI 0)])), (ou, .inl (gyL G, 1, .inr (.inl fo)))]) := by
  intro sz
  refine met_ofWH (cc := cL_isWhole) (maxL := 3) (ret := (some .int)) (hh := [(0, 15, 18, 13)]) (by decide) rfl ?_
  intro p e s m args below meth c s₁ B9 hml hv
  obtain ⟨rfl, hsz, hP, hK, hD0, hE⟩ := hv
  have hx := B9.exec
  have hb := B9.bytes
  have hr := B9.returns
  have hts : ∀ w ∈ WW, w.before ([.ref ho, .ref ou] : List Value).toArray s = true := fun w h => atoms_spec (ws := .codeWith yL_isWhole cL_isWhole 3 (some .int) [(0, 15, 18, 13)] :: WW) B9.pre w (List.mem_cons_of_mem _ h)
  have htab := vx_table (x := yL_isWhole) B9 (atoms_spec (ws := .codeWith yL_isWhole cL_isWhole 3 (some .int) [(0, 15, 18, 13)] :: WW) B9.pre _ List.mem_cons_self)
  have hown : s.vm.findClass RL = some m.cls := findClass_of_methodNamed B9.named
  subst hsz
  have hD := hD0.self (sz := s.heap.size)
  generalize hAe : va_A [(ho, .inr (11, [.ref al, .ref sv, .ref ts, .ref pb, .null, .int lr])), (al, .inr (4, [.int md, .ref (gE G), .int (nI 0)])), (ou, .inl (gyL G, 1, .inr (.inl fo)))] s.heap.size = A at hD hE ⊢
  have hA : ∀ q : Nat, s.heap.size ≤ q → A q := fun q h => by rw [← hAe]; exact Or.inr h
  have hl := lv_entry ([.ref ho, .ref ou]) (n := 3) (Nat.le_of_ble_eq_true rfl)
  rw [lg_entry_eq]
  generalize (lg_sl ([.ref ho, .ref ou]) ++ List.replicate (3 - (lg_sl ([.ref ho, .ref ou])).length) Slot.unset).toArray = ls at hl ⊢
  have hl : lv_has ls 3 [(0, .ref ho), (1, .ref ou)] := hl
  refine qgen (fun Q hQ => ?_)
  refine hgen (fun H locs hP hD hS => ?_) hP hD
  refine lv_aload_n hx hb dL_isWhole_0 rfl (lv_at hl 1 rfl) ?_
  refine lv_iconst (v := nI 0) hx hb dL_isWhole_1 (by decide) ?_
  refine lv_aload_n hx hb dL_isWhole_2 rfl (lv_at hl 0 rfl) ?_
  refine finx hP hD hS hA [0, 1] [2] (wr := [(ou, .inl (gyL G, 1, .inr (.inl fo)))]) rfl rfl (by decide) (by decide) (vx_runV (As := []) (rest := [.int (nI 0), .ref ou]) ⟨hx, hb, hml, hown, hts⟩ (c_whole l G ho al ts pb lr sv md hst H.size) (cwV 0 hts (gV q841 q842 q843 q45 q844) rfl rfl rfl (by decide +kernel) ⟨Nat.le_of_ble_eq_true rfl, Nat.le_of_ble_eq_true rfl⟩) (preV (q0 := 0) (ci := 11) hK hE hP hD hS hA [0, 1] rfl (by decide) rfl rfl) rfl rfl hl.1 rfl (lv_room (Nat.le_of_ble_eq_true rfl)) dL_isWhole_3 ⟨Nat.le_of_ble_eq_true rfl, Nat.le_of_ble_eq_true rfl⟩) (fun ce9 q9 H locs hP hD hS hc9 hv9 hf9 => ?_)
  have hP : va_P (gD G) vwCl [(ou, .inl (gyL G, 1, .inr (.inl fo))), (ho, .inr (11, [.ref al, .ref sv, .ref ts, .ref pb, .null, .int lr])), (al, .inr (4, [.int md, .ref (gE G), .int (nI 0)]))] H := hP
  have hD : va_D A [(ou, .inl (gyL G, 1, .inr (.inl fo))), (ho, .inr (11, [.ref al, .ref sv, .ref ts, .ref pb, .null, .int lr])), (al, .inr (4, [.int md, .ref (gE G), .int (nI 0)]))] := hD
  refine vx_catch (own := RL) (name := "java/lang/IllegalStateException") (E := "java/lang/IllegalStateException") hown [] ⟨0, 15, 18, 13⟩ [] (htab.trans rfl) (fun z9 h9 => nomatch h9) (by decide) (by decide) (hts _ q352) (nw_use rfl (hE.1.1 _ nq359)) hc9 hv9 hf9 ?_
  refine lv_astore_n (lv' := [(2, .ref q9), (0, .ref ho), (1, .ref ou)]) hx hb dL_isWhole_18 rfl hl (by decide) rfl (fun ls hl => ?_)
  refine lv_iconst (v := nI 1) hx hb dL_isWhole_19 (by decide) ?_
  have hP9 := hP.sub (ws' := [(ho, .inr (11, [.ref al, .ref sv, .ref ts, .ref pb, .null, .int lr])), (al, .inr (4, [.int md, .ref (gE G), .int (nI 0)])), (ou, .inl (gyL G, 1, .inr (.inl fo)))]) [1, 2, 0] rfl
  have hD9 := hD.sub (ws' := [(ho, .inr (11, [.ref al, .ref sv, .ref ts, .ref pb, .null, .int lr])), (al, .inr (4, [.int md, .ref (gE G), .int (nI 0)])), (ou, .inl (gyL G, 1, .inr (.inl fo)))]) [1, 2, 0] (by decide) rfl
  subst hQ
  exact W.iret (v := nI 1) hx hb hr (fun t ht hW => ⟨⟨nI 1, (), rfl, rfl, by rw [ht]; exact hP9, hD9⟩, hS.F ht⟩) hS.2.2 dL_isWhole_20
set_option maxHeartbeats 4000000 in
set_option maxRecDepth 100000 in
theorem l_share (l : Launch) (G : GG) (ho : Nat) (al : Nat) (ts : Nat) (pb : Nat) (lr : Int32) (sv : Nat) (md : Int32) (ou : Nat) (fo : Nat → UInt64) (hst : l.stackTraces = false) : Mh l G yL_solvedShare cL_solvedShare 3 [(0, 8, 11, 97)] ({ frames := 7, cells := 1, slots := 6, locals := 105 } : Room) [.ref ho, .ref ou] [(ho, .inr (11, [.ref al, .ref sv, .ref ts, .ref pb, .null, .int lr])), (al, .inr (4, [.int md, .ref (gE G), .int (nI 0)])), (ou, .inl (gyD G, 1, .inr (.inr (.inr (.inl fo)))))] (fun (r : Int32) (u : Unit) => r = nI 1) (fun (u : Unit) => [(ho, .inr (11, [.ref al, .ref sv, .ref ts, .ref pb, .null, .int lr])), (al, .inr (4, [.int md, .ref (gE G), .int (nI 0)])), (ou, .inl (gyD G, 1, .inr (.inr (.inr (.inl fo)))))]) := by
  intro sz
  refine met_ofWH (cc := cL_solvedShare) (maxL := 3) (ret := (some .int)) (hh := [(0, 8, 11, 97)]) (by decide) rfl ?_
  intro p e s m args below meth c s₁ B9 hml hv
  obtain ⟨rfl, hsz, hP, hK, hD0, hE⟩ := hv
  have hx := B9.exec
  have hb := B9.bytes
  have hr := B9.returns
  have hts : ∀ w ∈ WW, w.before ([.ref ho, .ref ou] : List Value).toArray s = true := fun w h => atoms_spec (ws := .codeWith yL_solvedShare cL_solvedShare 3 (some .int) [(0, 8, 11, 97)] :: WW) B9.pre w (List.mem_cons_of_mem _ h)
  have htab := vx_table (x := yL_solvedShare) B9 (atoms_spec (ws := .codeWith yL_solvedShare cL_solvedShare 3 (some .int) [(0, 8, 11, 97)] :: WW) B9.pre _ List.mem_cons_self)
  have hown : s.vm.findClass RL = some m.cls := findClass_of_methodNamed B9.named
  subst hsz
  have hD := hD0.self (sz := s.heap.size)
  generalize hAe : va_A [(ho, .inr (11, [.ref al, .ref sv, .ref ts, .ref pb, .null, .int lr])), (al, .inr (4, [.int md, .ref (gE G), .int (nI 0)])), (ou, .inl (gyD G, 1, .inr (.inr (.inr (.inl fo)))))] s.heap.size = A at hD hE ⊢
  have hA : ∀ q : Nat, s.heap.size ≤ q → A q := fun q h => by rw [← hAe]; exact Or.inr h
  have hl := lv_entry ([.ref ho, .ref ou]) (n := 3) (Nat.le_of_ble_eq_true rfl)
  rw [lg_entry_eq]
  generalize (lg_sl ([.ref ho, .ref ou]) ++ List.replicate (3 - (lg_sl ([.ref ho, .ref ou])).length) Slot.unset).toArray = ls at hl ⊢
  have hl : lv_has ls 3 [(0, .ref ho), (1, .ref ou)] := hl
  refine qgen (fun Q hQ => ?_)
  refine hgen (fun H locs hP hD hS => ?_) hP hD
  refine lv_aload_n hx hb dL_solvedShare_0 rfl (lv_at hl 1 rfl) ?_
  refine lv_iconst (v := nI 0) hx hb dL_solvedShare_1 (by decide) ?_
  refine lv_aload_n hx hb dL_solvedShare_2 rfl (lv_at hl 0 rfl) ?_
  refine finx hP hD hS hA [0, 1] [2] (wr := [(ou, .inl (gyD G, 1, .inr (.inr (.inr (.inl fo)))))]) rfl rfl (by decide) (by decide) (vx_runV (As := []) (rest := [.int (nI 0), .ref ou]) ⟨hx, hb, hml, hown, hts⟩ (c_share l G ho al ts pb lr sv md hst H.size) (cwV 0 hts (gV q905 q906 q907 q45 q908) rfl rfl rfl (by decide +kernel) ⟨Nat.le_of_ble_eq_true rfl, Nat.le_of_ble_eq_true rfl⟩) (preV (q0 := 0) (ci := 11) hK hE hP hD hS hA [0, 1] rfl (by decide) rfl rfl) rfl rfl hl.1 rfl (lv_room (Nat.le_of_ble_eq_true rfl)) dL_solvedShare_3 ⟨Nat.le_of_ble_eq_true rfl, Nat.le_of_ble_eq_true rfl⟩) (fun ce9 q9 H locs hP hD hS hc9 hv9 hf9 => ?_)
  have hP : va_P (gD G) vwCl [(ou, .inl (gyD G, 1, .inr (.inr (.inr (.inl fo))))), (ho, .inr (11, [.ref al, .ref sv, .ref ts, .ref pb, .null, .int lr])), (al, .inr (4, [.int md, .ref (gE G), .int (nI 0)]))] H := hP
  have hD : va_D A [(ou, .inl (gyD G, 1, .inr (.inr (.inr (.inl fo))))), (ho, .inr (11, [.ref al, .ref sv, .ref ts, .ref pb, .null, .int lr])), (al, .inr (4, [.int md, .ref (gE G), .int (nI 0)]))] := hD
  refine vx_catch (own := RL) (name := "java/lang/ArithmeticException") (E := "java/lang/ArithmeticException") hown [] ⟨0, 8, 11, 97⟩ [] (htab.trans rfl) (fun z9 h9 => nomatch h9) (by decide) (by decide) (hts _ q891) (nw_use rfl (hE.1.1 _ nq903)) hc9 hv9 hf9 ?_
  refine lv_astore_n (lv' := [(2, .ref q9), (0, .ref ho), (1, .ref ou)]) hx hb dL_solvedShare_11 rfl hl (by decide) rfl (fun ls hl => ?_)
  refine lv_iconst (v := nI 1) hx hb dL_solvedShare_12 (by decide) ?_
  have hP9 := hP.sub (ws' := [(ho, .inr (11, [.ref al, .ref sv, .ref ts, .ref pb, .null, .int lr])), (al, .inr (4, [.int md, .ref (gE G), .int (nI 0)])), (ou, .inl (gyD G, 1, .inr (.inr (.inr (.inl fo)))))]) [1, 2, 0] rfl
  have hD9 := hD.sub (ws' := [(ho, .inr (11, [.ref al, .ref sv, .ref ts, .ref pb, .null, .int lr])), (al, .inr (4, [.int md, .ref (gE G), .int (nI 0)])), (ou, .inl (gyD G, 1, .inr (.inr (.inr (.inl fo)))))]) [1, 2, 0] (by decide) rfl
  subst hQ
  exact W.iret (v := nI 1) hx hb hr (fun t ht hW => ⟨⟨nI 1, (), rfl, rfl, by rw [ht]; exact hP9, hD9⟩, hS.F ht⟩) hS.2.2 dL_solvedShare_13
set_option maxHeartbeats 4000000 in
set_option maxRecDepth 100000 in
theorem l_mean (l : Launch) (G : GG) (ho : Nat) (al : Nat) (ts : Nat) (pb : Nat) (lr : Int32) (sv : Nat) (md : Int32) (ou : Nat) (fo : Nat → UInt64) (hst : l.stackTraces = false) : Mh l G yL_meanGivens cL_meanGivens 3 [(0, 7, 10, 97)] ({ frames := 7, cells := 1, slots := 6, locals := 105 } : Room) [.ref ho, .ref ou] [(ho, .inr (11, [.ref al, .ref sv, .ref ts, .ref pb, .null, .int lr])), (al, .inr (4, [.int md, .ref (gE G), .int (nI 0)])), (ou, .inl (gyD G, 1, .inr (.inr (.inr (.inl fo)))))] (fun (r : Int32) (u : Unit) => r = nI 1) (fun (u : Unit) => [(ho, .inr (11, [.ref al, .ref sv, .ref ts, .ref pb, .null, .int lr])), (al, .inr (4, [.int md, .ref (gE G), .int (nI 0)])), (ou, .inl (gyD G, 1, .inr (.inr (.inr (.inl fo)))))]) := by
  intro sz
  refine met_ofWH (cc := cL_meanGivens) (maxL := 3) (ret := (some .int)) (hh := [(0, 7, 10, 97)]) (by decide) rfl ?_
  intro p e s m args below meth c s₁ B9 hml hv
  obtain ⟨rfl, hsz, hP, hK, hD0, hE⟩ := hv
  have hx := B9.exec
  have hb := B9.bytes
  have hr := B9.returns
  have hts : ∀ w ∈ WW, w.before ([.ref ho, .ref ou] : List Value).toArray s = true := fun w h => atoms_spec (ws := .codeWith yL_meanGivens cL_meanGivens 3 (some .int) [(0, 7, 10, 97)] :: WW) B9.pre w (List.mem_cons_of_mem _ h)
  have htab := vx_table (x := yL_meanGivens) B9 (atoms_spec (ws := .codeWith yL_meanGivens cL_meanGivens 3 (some .int) [(0, 7, 10, 97)] :: WW) B9.pre _ List.mem_cons_self)
  have hown : s.vm.findClass RL = some m.cls := findClass_of_methodNamed B9.named
  subst hsz
  have hD := hD0.self (sz := s.heap.size)
  generalize hAe : va_A [(ho, .inr (11, [.ref al, .ref sv, .ref ts, .ref pb, .null, .int lr])), (al, .inr (4, [.int md, .ref (gE G), .int (nI 0)])), (ou, .inl (gyD G, 1, .inr (.inr (.inr (.inl fo)))))] s.heap.size = A at hD hE ⊢
  have hA : ∀ q : Nat, s.heap.size ≤ q → A q := fun q h => by rw [← hAe]; exact Or.inr h
  have hl := lv_entry ([.ref ho, .ref ou]) (n := 3) (Nat.le_of_ble_eq_true rfl)
  rw [lg_entry_eq]
  generalize (lg_sl ([.ref ho, .ref ou]) ++ List.replicate (3 - (lg_sl ([.ref ho, .ref ou])).length) Slot.unset).toArray = ls at hl ⊢
  have hl : lv_has ls 3 [(0, .ref ho), (1, .ref ou)] := hl
  refine qgen (fun Q hQ => ?_)
  refine hgen (fun H locs hP hD hS => ?_) hP hD
  refine lv_aload_n hx hb dL_meanGivens_0 rfl (lv_at hl 1 rfl) ?_
  refine lv_iconst (v := nI 0) hx hb dL_meanGivens_1 (by decide) ?_
  refine lv_aload_n hx hb dL_meanGivens_2 rfl (lv_at hl 0 rfl) ?_
  refine finx hP hD hS hA [0, 1] [2] (wr := [(ou, .inl (gyD G, 1, .inr (.inr (.inr (.inl fo)))))]) rfl rfl (by decide) (by decide) (vx_runV (As := []) (rest := [.int (nI 0), .ref ou]) ⟨hx, hb, hml, hown, hts⟩ (c_mean l G ho al ts pb lr sv md hst H.size) (cwV 0 hts (gV q915 q916 q917 q45 q918) rfl rfl rfl (by decide +kernel) ⟨Nat.le_of_ble_eq_true rfl, Nat.le_of_ble_eq_true rfl⟩) (preV (q0 := 0) (ci := 11) hK hE hP hD hS hA [0, 1] rfl (by decide) rfl rfl) rfl rfl hl.1 rfl (lv_room (Nat.le_of_ble_eq_true rfl)) dL_meanGivens_3 ⟨Nat.le_of_ble_eq_true rfl, Nat.le_of_ble_eq_true rfl⟩) (fun ce9 q9 H locs hP hD hS hc9 hv9 hf9 => ?_)
  have hP : va_P (gD G) vwCl [(ou, .inl (gyD G, 1, .inr (.inr (.inr (.inl fo))))), (ho, .inr (11, [.ref al, .ref sv, .ref ts, .ref pb, .null, .int lr])), (al, .inr (4, [.int md, .ref (gE G), .int (nI 0)]))] H := hP
  have hD : va_D A [(ou, .inl (gyD G, 1, .inr (.inr (.inr (.inl fo))))), (ho, .inr (11, [.ref al, .ref sv, .ref ts, .ref pb, .null, .int lr])), (al, .inr (4, [.int md, .ref (gE G), .int (nI 0)]))] := hD
  refine vx_catch (own := RL) (name := "java/lang/ArithmeticException") (E := "java/lang/ArithmeticException") hown [] ⟨0, 7, 10, 97⟩ [] (htab.trans rfl) (fun z9 h9 => nomatch h9) (by decide) (by decide) (hts _ q891) (nw_use rfl (hE.1.1 _ nq903)) hc9 hv9 hf9 ?_
  refine lv_astore_n (lv' := [(2, .ref q9), (0, .ref ho), (1, .ref ou)]) hx hb dL_meanGivens_10 rfl hl (by decide) rfl (fun ls hl => ?_)
  refine lv_iconst (v := nI 1) hx hb dL_meanGivens_11 (by decide) ?_
  have hP9 := hP.sub (ws' := [(ho, .inr (11, [.ref al, .ref sv, .ref ts, .ref pb, .null, .int lr])), (al, .inr (4, [.int md, .ref (gE G), .int (nI 0)])), (ou, .inl (gyD G, 1, .inr (.inr (.inr (.inl fo)))))]) [1, 2, 0] rfl
  have hD9 := hD.sub (ws' := [(ho, .inr (11, [.ref al, .ref sv, .ref ts, .ref pb, .null, .int lr])), (al, .inr (4, [.int md, .ref (gE G), .int (nI 0)])), (ou, .inl (gyD G, 1, .inr (.inr (.inr (.inl fo)))))]) [1, 2, 0] (by decide) rfl
  subst hQ
  exact W.iret (v := nI 1) hx hb hr (fun t ht hW => ⟨⟨nI 1, (), rfl, rfl, by rw [ht]; exact hP9, hD9⟩, hS.F ht⟩) hS.2.2 dL_meanGivens_12
set_option maxHeartbeats 4000000 in
set_option maxRecDepth 100000 in
theorem l_make_1a (l : Launch) (G : GG) (ho : Nat) (al : Nat) (ts : Nat) (pb : Nat) (lr : Int32) (sv : Nat) (md : Int32) (v : Int32) (v2 : Int32) (ou : Nat) (fo : Nat → Int64) (hbad : v < nI 0 ∨ nI 9999 < v) (hst : l.stackTraces = false) : Mh l G yL_make cL_make 5 [(0, 10, 13, 21), (0, 10, 17, 13)] ({ frames := 7, cells := 1, slots := 6, locals := 106 } : Room) [.ref ho, .int v, .int v2, .ref ou] [(ho, .inr (11, [.ref al, .ref sv, .ref ts, .ref pb, .null, .int lr])), (al, .inr (4, [.int md, .ref (gE G), .int (nI 0)])), (ou, .inl (gyL G, 1, .inr (.inl fo)))] (fun (r : Int32) (u : Unit) => r = nI 1) (fun (u : Unit) => [(ho, .inr (11, [.ref al, .ref sv, .ref ts, .ref pb, .null, .int lr])), (al, .inr (4, [.int md, .ref (gE G), .int (nI 0)])), (ou, .inl (gyL G, 1, .inr (.inl fo)))]) := by
  intro sz
  refine met_ofWH (cc := cL_make) (maxL := 5) (ret := (some .int)) (hh := [(0, 10, 13, 21), (0, 10, 17, 13)]) (by decide) rfl ?_
  intro p e s m args below meth c s₁ B9 hml hv
  obtain ⟨rfl, hsz, hP, hK, hD0, hE⟩ := hv
  have hx := B9.exec
  have hb := B9.bytes
  have hr := B9.returns
  have hts : ∀ w ∈ WW, w.before ([.ref ho, .int v, .int v2, .ref ou] : List Value).toArray s = true := fun w h => atoms_spec (ws := .codeWith yL_make cL_make 5 (some .int) [(0, 10, 13, 21), (0, 10, 17, 13)] :: WW) B9.pre w (List.mem_cons_of_mem _ h)
  have htab := vx_table (x := yL_make) B9 (atoms_spec (ws := .codeWith yL_make cL_make 5 (some .int) [(0, 10, 13, 21), (0, 10, 17, 13)] :: WW) B9.pre _ List.mem_cons_self)
  have hown : s.vm.findClass RL = some m.cls := findClass_of_methodNamed B9.named
  subst hsz
  have hD := hD0.self (sz := s.heap.size)
  generalize hAe : va_A [(ho, .inr (11, [.ref al, .ref sv, .ref ts, .ref pb, .null, .int lr])), (al, .inr (4, [.int md, .ref (gE G), .int (nI 0)])), (ou, .inl (gyL G, 1, .inr (.inl fo)))] s.heap.size = A at hD hE ⊢
  have hA : ∀ q : Nat, s.heap.size ≤ q → A q := fun q h => by rw [← hAe]; exact Or.inr h
  have hl := lv_entry ([.ref ho, .int v, .int v2, .ref ou]) (n := 5) (Nat.le_of_ble_eq_true rfl)
  rw [lg_entry_eq]
  generalize (lg_sl ([.ref ho, .int v, .int v2, .ref ou]) ++ List.replicate (5 - (lg_sl ([.ref ho, .int v, .int v2, .ref ou])).length) Slot.unset).toArray = ls at hl ⊢
  have hl : lv_has ls 5 [(0, .ref ho), (1, .int v), (2, .int v2), (3, .ref ou)] := hl
  refine qgen (fun Q hQ => ?_)
  refine hgen (fun H locs hP hD hS => ?_) hP hD
  refine lv_aload_n hx hb dL_make_0 rfl (lv_at hl 3 rfl) ?_
  refine lv_iconst (v := nI 0) hx hb dL_make_1 (by decide) ?_
  refine lv_aload_n hx hb dL_make_2 rfl (lv_at hl 0 rfl) ?_
  refine lv_iload_n hx hb dL_make_3 rfl (lv_at hl 1 rfl) ?_
  refine lv_iload_n hx hb dL_make_4 rfl (lv_at hl 2 rfl) ?_
  refine finx hP hD hS hA [0, 1] [2] (wr := [(ou, .inl (gyL G, 1, .inr (.inl fo)))]) rfl rfl (by decide) (by decide) (vx_runV (As := [.int v, .int v2]) (rest := [.int (nI 0), .ref ou]) ⟨hx, hb, hml, hown, hts⟩ (c_make_1a l G ho al ts pb lr sv md v v2 hst (by omega) H.size) (cwV 2 hts (gV q660 q661 q662 q45 q663) rfl rfl rfl (by decide +kernel) ⟨Nat.le_of_ble_eq_true rfl, Nat.le_of_ble_eq_true rfl⟩) (preV (q0 := 0) (ci := 11) hK hE hP hD hS hA [0, 1] rfl (by decide) rfl rfl) rfl rfl hl.1 rfl (lv_room (Nat.le_of_ble_eq_true rfl)) dL_make_5 ⟨Nat.le_of_ble_eq_true rfl, Nat.le_of_ble_eq_true rfl⟩) (fun ce9 q9 H locs hP hD hS hc9 hv9 hf9 => ?_)
  have hP : va_P (gD G) vwCl [(ou, .inl (gyL G, 1, .inr (.inl fo))), (ho, .inr (11, [.ref al, .ref sv, .ref ts, .ref pb, .null, .int lr])), (al, .inr (4, [.int md, .ref (gE G), .int (nI 0)]))] H := hP
  have hD : va_D A [(ou, .inl (gyL G, 1, .inr (.inl fo))), (ho, .inr (11, [.ref al, .ref sv, .ref ts, .ref pb, .null, .int lr])), (al, .inr (4, [.int md, .ref (gE G), .int (nI 0)]))] := hD
  refine vx_catch (own := RL) (name := "java/lang/IllegalArgumentException") (E := "java/lang/IllegalArgumentException") hown [] ⟨0, 10, 13, 21⟩ [⟨0, 10, 17, 13⟩] (htab.trans rfl) (fun z9 h9 => nomatch h9) (by decide) (by decide) (hts _ q561) (nw_use rfl (hE.1.1 _ nq592)) hc9 hv9 hf9 ?_
  refine lv_astore (lv' := [(4, .ref q9), (0, .ref ho), (1, .int v), (2, .int v2), (3, .ref ou)]) hx hb dL_make_13 hl (by decide) rfl (fun ls hl => ?_)
  refine lv_iconst (v := nI 1) hx hb dL_make_15 (by decide) ?_
  have hP9 := hP.sub (ws' := [(ho, .inr (11, [.ref al, .ref sv, .ref ts, .ref pb, .null, .int lr])), (al, .inr (4, [.int md, .ref (gE G), .int (nI 0)])), (ou, .inl (gyL G, 1, .inr (.inl fo)))]) [1, 2, 0] rfl
  have hD9 := hD.sub (ws' := [(ho, .inr (11, [.ref al, .ref sv, .ref ts, .ref pb, .null, .int lr])), (al, .inr (4, [.int md, .ref (gE G), .int (nI 0)])), (ou, .inl (gyL G, 1, .inr (.inl fo)))]) [1, 2, 0] (by decide) rfl
  subst hQ
  exact W.iret (v := nI 1) hx hb hr (fun t ht hW => ⟨⟨nI 1, (), rfl, rfl, by rw [ht]; exact hP9, hD9⟩, hS.F ht⟩) hS.2.2 dL_make_16
set_option maxHeartbeats 4000000 in
set_option maxRecDepth 100000 in
theorem l_make_1b (l : Launch) (G : GG) (ho : Nat) (al : Nat) (ts : Nat) (pb : Nat) (lr : Int32) (sv : Nat) (md : Int32) (sd : Nat) (v2 : Int32) (ou : Nat) (fo : Nat → Int64) (hsd : sd ≤ 9999) (hbad : v2 < nI 1 ∨ nI 3 < v2) (hst : l.stackTraces = false) : Mh l G yL_make cL_make 5 [(0, 10, 13, 21), (0, 10, 17, 13)] ({ frames := 7, cells := 1, slots := 6, locals := 106 } : Room) [.ref ho, .int (nI sd), .int v2, .ref ou] [(ho, .inr (11, [.ref al, .ref sv, .ref ts, .ref pb, .null, .int lr])), (al, .inr (4, [.int md, .ref (gE G), .int (nI 0)])), (ou, .inl (gyL G, 1, .inr (.inl fo)))] (fun (r : Int32) (u : Unit) => r = nI 1) (fun (u : Unit) => [(ho, .inr (11, [.ref al, .ref sv, .ref ts, .ref pb, .null, .int lr])), (al, .inr (4, [.int md, .ref (gE G), .int (nI 0)])), (ou, .inl (gyL G, 1, .inr (.inl fo)))]) := by
  intro sz
  refine met_ofWH (cc := cL_make) (maxL := 5) (ret := (some .int)) (hh := [(0, 10, 13, 21), (0, 10, 17, 13)]) (by decide) rfl ?_
  intro p e s m args below meth c s₁ B9 hml hv
  obtain ⟨rfl, hsz, hP, hK, hD0, hE⟩ := hv
  have hx := B9.exec
  have hb := B9.bytes
  have hr := B9.returns
  have hts : ∀ w ∈ WW, w.before ([.ref ho, .int (nI sd), .int v2, .ref ou] : List Value).toArray s = true := fun w h => atoms_spec (ws := .codeWith yL_make cL_make 5 (some .int) [(0, 10, 13, 21), (0, 10, 17, 13)] :: WW) B9.pre w (List.mem_cons_of_mem _ h)
  have htab := vx_table (x := yL_make) B9 (atoms_spec (ws := .codeWith yL_make cL_make 5 (some .int) [(0, 10, 13, 21), (0, 10, 17, 13)] :: WW) B9.pre _ List.mem_cons_self)
  have hown : s.vm.findClass RL = some m.cls := findClass_of_methodNamed B9.named
  subst hsz
  have hD := hD0.self (sz := s.heap.size)
  generalize hAe : va_A [(ho, .inr (11, [.ref al, .ref sv, .ref ts, .ref pb, .null, .int lr])), (al, .inr (4, [.int md, .ref (gE G), .int (nI 0)])), (ou, .inl (gyL G, 1, .inr (.inl fo)))] s.heap.size = A at hD hE ⊢
  have hA : ∀ q : Nat, s.heap.size ≤ q → A q := fun q h => by rw [← hAe]; exact Or.inr h
  have hl := lv_entry ([.ref ho, .int (nI sd), .int v2, .ref ou]) (n := 5) (Nat.le_of_ble_eq_true rfl)
  rw [lg_entry_eq]
  generalize (lg_sl ([.ref ho, .int (nI sd), .int v2, .ref ou]) ++ List.replicate (5 - (lg_sl ([.ref ho, .int (nI sd), .int v2, .ref ou])).length) Slot.unset).toArray = ls at hl ⊢
  have hl : lv_has ls 5 [(0, .ref ho), (1, .int (nI sd)), (2, .int v2), (3, .ref ou)] := hl
  refine qgen (fun Q hQ => ?_)
  refine hgen (fun H locs hP hD hS => ?_) hP hD
  refine lv_aload_n hx hb dL_make_0 rfl (lv_at hl 3 rfl) ?_
  refine lv_iconst (v := nI 0) hx hb dL_make_1 (by decide) ?_
  refine lv_aload_n hx hb dL_make_2 rfl (lv_at hl 0 rfl) ?_
  refine lv_iload_n hx hb dL_make_3 rfl (lv_at hl 1 rfl) ?_
  refine lv_iload_n hx hb dL_make_4 rfl (lv_at hl 2 rfl) ?_
  refine finx hP hD hS hA [0, 1] [2] (wr := [(ou, .inl (gyL G, 1, .inr (.inl fo)))]) rfl rfl (by decide) (by decide) (vx_runV (As := [.int (nI sd), .int v2]) (rest := [.int (nI 0), .ref ou]) ⟨hx, hb, hml, hown, hts⟩ (c_make_1b l G ho al ts pb lr sv md sd v2 hst (by omega) (by omega) H.size) (cwV 2 hts (gV q660 q661 q662 q45 q663) rfl rfl rfl (by decide +kernel) ⟨Nat.le_of_ble_eq_true rfl, Nat.le_of_ble_eq_true rfl⟩) (preV (q0 := 0) (ci := 11) hK hE hP hD hS hA [0, 1] rfl (by decide) rfl rfl) rfl rfl hl.1 rfl (lv_room (Nat.le_of_ble_eq_true rfl)) dL_make_5 ⟨Nat.le_of_ble_eq_true rfl, Nat.le_of_ble_eq_true rfl⟩) (fun ce9 q9 H locs hP hD hS hc9 hv9 hf9 => ?_)
  have hP : va_P (gD G) vwCl [(ou, .inl (gyL G, 1, .inr (.inl fo))), (ho, .inr (11, [.ref al, .ref sv, .ref ts, .ref pb, .null, .int lr])), (al, .inr (4, [.int md, .ref (gE G), .int (nI 0)]))] H := hP
  have hD : va_D A [(ou, .inl (gyL G, 1, .inr (.inl fo))), (ho, .inr (11, [.ref al, .ref sv, .ref ts, .ref pb, .null, .int lr])), (al, .inr (4, [.int md, .ref (gE G), .int (nI 0)]))] := hD
  refine vx_catch (own := RL) (name := "java/lang/IllegalArgumentException") (E := "java/lang/IllegalArgumentException") hown [] ⟨0, 10, 13, 21⟩ [⟨0, 10, 17, 13⟩] (htab.trans rfl) (fun z9 h9 => nomatch h9) (by decide) (by decide) (hts _ q561) (nw_use rfl (hE.1.1 _ nq592)) hc9 hv9 hf9 ?_
  refine lv_astore (lv' := [(4, .ref q9), (0, .ref ho), (1, .int (nI sd)), (2, .int v2), (3, .ref ou)]) hx hb dL_make_13 hl (by decide) rfl (fun ls hl => ?_)
  refine lv_iconst (v := nI 1) hx hb dL_make_15 (by decide) ?_
  have hP9 := hP.sub (ws' := [(ho, .inr (11, [.ref al, .ref sv, .ref ts, .ref pb, .null, .int lr])), (al, .inr (4, [.int md, .ref (gE G), .int (nI 0)])), (ou, .inl (gyL G, 1, .inr (.inl fo)))]) [1, 2, 0] rfl
  have hD9 := hD.sub (ws' := [(ho, .inr (11, [.ref al, .ref sv, .ref ts, .ref pb, .null, .int lr])), (al, .inr (4, [.int md, .ref (gE G), .int (nI 0)])), (ou, .inl (gyL G, 1, .inr (.inl fo)))]) [1, 2, 0] (by decide) rfl
  subst hQ
  exact W.iret (v := nI 1) hx hb hr (fun t ht hW => ⟨⟨nI 1, (), rfl, rfl, by rw [ht]; exact hP9, hD9⟩, hS.F ht⟩) hS.2.2 dL_make_16
set_option maxHeartbeats 4000000 in
set_option maxRecDepth 100000 in
theorem l_puzzle (l : Launch) (G : GG) (ho : Nat) (al : Nat) (ts : Nat) (pb : Nat) (lr : Int32) (sv : Nat) (md : Int32) (ou : Nat) (fo : Nat → Int64) (hst : l.stackTraces = false) : Mh l G yL_puzzle cL_puzzle 3 [(0, 8, 11, 13)] ({ frames := 6, cells := 20, slots := 300, locals := 147 } : Room) [.ref ho, .ref ou] [(ho, .inr (11, [.ref al, .ref sv, .ref ts, .ref pb, .null, .int lr])), (al, .inr (4, [.int md, .ref (gE G), .int (nI 0)])), (ou, .inl (gyL G, 1, .inr (.inl fo)))] (fun (r : Int32) (u : (Nat → Int64)) => r = nI 0 ∧ u 0 = lN 0) (fun (u : (Nat → Int64)) => [(ou, .inl (gyL G, 1, .inr (.inl u)))]) := by
  intro sz
  refine met_ofWH (cc := cL_puzzle) (maxL := 3) (ret := (some .int)) (hh := [(0, 8, 11, 13)]) (by decide) rfl ?_
  intro p e s m args below meth c s₁ B9 hml hv
  obtain ⟨rfl, hsz, hP, hK, hD0, hE⟩ := hv
  have hx := B9.exec
  have hb := B9.bytes
  have hr := B9.returns
  have hts : ∀ w ∈ WW, w.before ([.ref ho, .ref ou] : List Value).toArray s = true := fun w h => atoms_spec (ws := .codeWith yL_puzzle cL_puzzle 3 (some .int) [(0, 8, 11, 13)] :: WW) B9.pre w (List.mem_cons_of_mem _ h)
  have htab := vx_table (x := yL_puzzle) B9 (atoms_spec (ws := .codeWith yL_puzzle cL_puzzle 3 (some .int) [(0, 8, 11, 13)] :: WW) B9.pre _ List.mem_cons_self)
  have hown : s.vm.findClass RL = some m.cls := findClass_of_methodNamed B9.named
  subst hsz
  have hD := hD0.self (sz := s.heap.size)
  generalize hAe : va_A [(ho, .inr (11, [.ref al, .ref sv, .ref ts, .ref pb, .null, .int lr])), (al, .inr (4, [.int md, .ref (gE G), .int (nI 0)])), (ou, .inl (gyL G, 1, .inr (.inl fo)))] s.heap.size = A at hD hE ⊢
  have hA : ∀ q : Nat, s.heap.size ≤ q → A q := fun q h => by rw [← hAe]; exact Or.inr h
  have hl := lv_entry ([.ref ho, .ref ou]) (n := 3) (Nat.le_of_ble_eq_true rfl)
  rw [lg_entry_eq]
  generalize (lg_sl ([.ref ho, .ref ou]) ++ List.replicate (3 - (lg_sl ([.ref ho, .ref ou])).length) Slot.unset).toArray = ls at hl ⊢
  have hl : lv_has ls 3 [(0, .ref ho), (1, .ref ou)] := hl
  refine qgen (fun Q hQ => ?_)
  refine hgen (fun H locs hP hD hS => ?_) hP hD
  refine lv_aload_n hx hb dL_puzzle_0 rfl (lv_at hl 1 rfl) ?_
  refine lv_iconst (v := nI 0) hx hb dL_puzzle_1 (by decide) ?_
  refine lv_aload_n hx hb dL_puzzle_2 rfl (lv_at hl 0 rfl) ?_
  refine fin_i hP hD hS hA [0, 1] [2] (wr := [(ou, .inl (gyL G, 1, .inr (.inl fo)))]) rfl rfl (by decide) (by decide) (va_runV (As := []) (rest := [.int (nI 0), .ref ou]) ⟨hx, hb, hml, hown, hts⟩ (c_puzzle_ok l G ho al ts pb lr sv md H.size) (cwV 0 hts (gV q353 q354 q355 q45 q356) rfl rfl rfl (by decide +kernel) ⟨Nat.le_of_ble_eq_true rfl, Nat.le_of_ble_eq_true rfl⟩) (preV (q0 := 0) (ci := 11) hK hE hP hD hS hA [0, 1] rfl (by decide) rfl rfl) rfl rfl hl.1 rfl (lv_room (Nat.le_of_ble_eq_true rfl)) dL_puzzle_3 ⟨Nat.le_of_ble_eq_true rfl, Nat.le_of_ble_eq_true rfl⟩) (fun r_2 u9 hw_1 H locs hP hD hS => ?_)
  subst hw_1
  have hP : va_P (gD G) vwCl [(ou, .inl (gyL G, 1, .inr (.inl fo)))] H := hP
  have hD : va_D A [(ou, .inl (gyL G, 1, .inr (.inl fo)))] := hD
  refine lv_i2l (v := lN 0) hx hb dL_puzzle_6 (nI_l (by omega)) ?_
  refine va_last (D := gD G) (cA := gyL G) (n := 1) (f := fo) hx hb hK hP hD hS 0 2 rfl rfl (vp_in_nI (n := 0) (N := 1) (by omega) (by omega)) dL_puzzle_7 (fun H locs hP hD hS => ?_)
  have hfo_4 : (vp_updL fo (nI 0).toNatClampNeg (lN 0)) 0 = lN 0 := by rw [nI_clamp (by omega)]; exact if_pos rfl
  generalize vp_updL fo (nI 0).toNatClampNeg (lN 0) = f_3 at hP hD hfo_4
  have hP : va_P (gD G) vwCl [(ou, .inl (gyL G, 1, .inr (.inl f_3)))] H := hP
  have hD : va_D A [(ou, .inl (gyL G, 1, .inr (.inl f_3)))] := hD
  refine lv_goto (tgt := 14) hx hb dL_puzzle_8 (by decide) ?_
  refine lv_iconst (v := nI 0) hx hb dL_puzzle_14 (by decide) ?_
  have hP9 := hP.sub (ws' := [(ou, .inl (gyL G, 1, .inr (.inl f_3)))]) [0] rfl
  have hD9 := hD.sub (ws' := [(ou, .inl (gyL G, 1, .inr (.inl f_3)))]) [0] (by decide) rfl
  subst hQ
  exact W.iret (v := nI 0) hx hb hr (fun t ht hW => ⟨⟨nI 0, f_3, rfl, ⟨rfl, hfo_4⟩, by rw [ht]; exact hP9, hD9⟩, hS.F ht⟩) hS.2.2 dL_puzzle_15
set_option maxHeartbeats 4000000 in
set_option maxRecDepth 100000 in
theorem l_make_ok (l : Launch) (G : GG) (ho : Nat) (al : Nat) (ts : Nat) (pb : Nat) (lr : Int32) (md : Int32) (sv : Nat) (b : Nat) (mm : Nat) (sr : Nat) (se : Nat) (f : Nat → Int32) (g : Nat → Int32) (hh : Nat → Int32) (sc : Nat) (tc : Nat) (oc : Int32) (sd : Nat) (hi : Nat) (ou : Nat) (fo : Nat → Int64) (hsc : sc ≤ 64) (htc : tc ≤ 16) (hsd : sd ≤ 9999) (hh1 : 1 ≤ hi) (hh2 : hi ≤ 3) (hst : l.stackTraces = false) : Mh l G yL_make cL_make 5 [(0, 10, 13, 21), (0, 10, 17, 13)] ({ frames := 7, cells := 20, slots := 300, locals := 174 } : Room) [.ref ho, .int (nI sd), .int (nI hi), .ref ou] [(ho, .inr (11, [.ref al, .ref sv, .ref ts, .ref pb, .null, .int lr])), (al, .inr (4, [.int md, .ref (gE G), .int (nI 0)])), (sv, .inr (10, [.ref b, .ref sr, .ref se, .int (nI sc), .int (nI tc), .int oc])), (b, .inr (5, [.ref mm])), (mm, .inl (gyI G, 16, .inl f)), (sr, .inl (gyI G, 64, .inl g)), (se, .inl (gyI G, 16, .inl hh)), (ou, .inl (gyL G, 1, .inr (.inl fo)))] (fun (r : Int32) (u : (Nat → Int64)) => r = nI 0 ∧ u 0 = lN 0) (fun (u : (Nat → Int64)) => [(ou, .inl (gyL G, 1, .inr (.inl u)))]) := by
  intro sz
  refine met_ofWH (cc := cL_make) (maxL := 5) (ret := (some .int)) (hh := [(0, 10, 13, 21), (0, 10, 17, 13)]) (by decide) rfl ?_
  intro p e s m args below meth c s₁ B9 hml hv
  obtain ⟨rfl, hsz, hP, hK, hD0, hE⟩ := hv
  have hx := B9.exec
  have hb := B9.bytes
  have hr := B9.returns
  have hts : ∀ w ∈ WW, w.before ([.ref ho, .int (nI sd), .int (nI hi), .ref ou] : List Value).toArray s = true := fun w h => atoms_spec (ws := .codeWith yL_make cL_make 5 (some .int) [(0, 10, 13, 21), (0, 10, 17, 13)] :: WW) B9.pre w (List.mem_cons_of_mem _ h)
  have htab := vx_table (x := yL_make) B9 (atoms_spec (ws := .codeWith yL_make cL_make 5 (some .int) [(0, 10, 13, 21), (0, 10, 17, 13)] :: WW) B9.pre _ List.mem_cons_self)
  have hown : s.vm.findClass RL = some m.cls := findClass_of_methodNamed B9.named
  subst hsz
  have hD := hD0.self (sz := s.heap.size)
  generalize hAe : va_A [(ho, .inr (11, [.ref al, .ref sv, .ref ts, .ref pb, .null, .int lr])), (al, .inr (4, [.int md, .ref (gE G), .int (nI 0)])), (sv, .inr (10, [.ref b, .ref sr, .ref se, .int (nI sc), .int (nI tc), .int oc])), (b, .inr (5, [.ref mm])), (mm, .inl (gyI G, 16, .inl f)), (sr, .inl (gyI G, 64, .inl g)), (se, .inl (gyI G, 16, .inl hh)), (ou, .inl (gyL G, 1, .inr (.inl fo)))] s.heap.size = A at hD hE ⊢
  have hA : ∀ q : Nat, s.heap.size ≤ q → A q := fun q h => by rw [← hAe]; exact Or.inr h
  have hl := lv_entry ([.ref ho, .int (nI sd), .int (nI hi), .ref ou]) (n := 5) (Nat.le_of_ble_eq_true rfl)
  rw [lg_entry_eq]
  generalize (lg_sl ([.ref ho, .int (nI sd), .int (nI hi), .ref ou]) ++ List.replicate (5 - (lg_sl ([.ref ho, .int (nI sd), .int (nI hi), .ref ou])).length) Slot.unset).toArray = ls at hl ⊢
  have hl : lv_has ls 5 [(0, .ref ho), (1, .int (nI sd)), (2, .int (nI hi)), (3, .ref ou)] := hl
  refine qgen (fun Q hQ => ?_)
  refine hgen (fun H locs hP hD hS => ?_) hP hD
  refine lv_aload_n hx hb dL_make_0 rfl (lv_at hl 3 rfl) ?_
  refine lv_iconst (v := nI 0) hx hb dL_make_1 (by decide) ?_
  refine lv_aload_n hx hb dL_make_2 rfl (lv_at hl 0 rfl) ?_
  refine lv_iload_n hx hb dL_make_3 rfl (lv_at hl 1 rfl) ?_
  refine lv_iload_n hx hb dL_make_4 rfl (lv_at hl 2 rfl) ?_
  refine fin_i hP hD hS hA [0, 1, 2, 3, 4, 5, 6] [7] (wr := [(ou, .inl (gyL G, 1, .inr (.inl fo)))]) rfl rfl (by decide) (by decide) (va_runV (As := [.int (nI sd), .int (nI hi)]) (rest := [.int (nI 0), .ref ou]) ⟨hx, hb, hml, hown, hts⟩ (c_make_ok l G ho al ts pb lr md sv b mm sr se f g hh sc tc oc sd hi (by omega) (by omega) (by omega) (by omega) (by omega) H.size) (cwV 2 hts (gV q660 q661 q662 q45 q663) rfl rfl rfl (by decide +kernel) ⟨Nat.le_of_ble_eq_true rfl, Nat.le_of_ble_eq_true rfl⟩) (preV (q0 := 0) (ci := 11) hK hE hP hD hS hA [0, 1, 2, 3, 4, 5, 6] rfl (by decide) rfl rfl) rfl rfl hl.1 rfl (lv_room (Nat.le_of_ble_eq_true rfl)) dL_make_5 ⟨Nat.le_of_ble_eq_true rfl, Nat.le_of_ble_eq_true rfl⟩) (fun r_2 u9 hw_1 H locs hP hD hS => ?_)
  subst hw_1
  have hP : va_P (gD G) vwCl [(ou, .inl (gyL G, 1, .inr (.inl fo)))] H := hP
  have hD : va_D A [(ou, .inl (gyL G, 1, .inr (.inl fo)))] := hD
  refine lv_i2l (v := lN 0) hx hb dL_make_8 (nI_l (by omega)) ?_
  refine va_last (D := gD G) (cA := gyL G) (n := 1) (f := fo) hx hb hK hP hD hS 0 2 rfl rfl (vp_in_nI (n := 0) (N := 1) (by omega) (by omega)) dL_make_9 (fun H locs hP hD hS => ?_)
  have hfo_4 : (vp_updL fo (nI 0).toNatClampNeg (lN 0)) 0 = lN 0 := by rw [nI_clamp (by omega)]; exact if_pos rfl
  generalize vp_updL fo (nI 0).toNatClampNeg (lN 0) = f_3 at hP hD hfo_4
  have hP : va_P (gD G) vwCl [(ou, .inl (gyL G, 1, .inr (.inl f_3)))] H := hP
  have hD : va_D A [(ou, .inl (gyL G, 1, .inr (.inl f_3)))] := hD
  refine lv_goto (tgt := 21) hx hb dL_make_10 (by decide) ?_
  refine lv_iconst (v := nI 0) hx hb dL_make_21 (by decide) ?_
  have hP9 := hP.sub (ws' := [(ou, .inl (gyL G, 1, .inr (.inl f_3)))]) [0] rfl
  have hD9 := hD.sub (ws' := [(ou, .inl (gyL G, 1, .inr (.inl f_3)))]) [0] (by decide) rfl
  subst hQ
  exact W.iret (v := nI 0) hx hb hr (fun t ht hW => ⟨⟨nI 0, f_3, rfl, ⟨rfl, hfo_4⟩, by rw [ht]; exact hP9, hD9⟩, hS.F ht⟩) hS.2.2 dL_make_22
