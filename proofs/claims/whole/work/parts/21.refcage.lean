theorem q52 : (Jvm.Cond.initialized "PegboardryModel") ∈ WW := inW 52 (by decide +kernel) rfl
theorem q73 : (Jvm.Cond.initialized "PegboardryModel$Cage") ∈ WW := inW 73 (by decide +kernel) rfl
theorem q1031 : (Jvm.Cond.fieldLink "PegboardryModel$Cage" (9 : Nat) "PegboardryModel$Cage" "cells" "I") ∈ WW := inW 1031 (by decide +kernel) rfl
theorem q1077 : (Jvm.Cond.static ({ cls := "PegboardryModel", name := "isIn", desc := "(II)Z" } : Jvm.MethodName)) ∈ WW := inW 1077 (by decide +kernel) rfl
theorem q1078 : (Jvm.Cond.code ({ cls := "PegboardryModel", name := "isIn", desc := "(II)Z" } : Jvm.MethodName) prog_9_method_6_code (2 : Nat) (Option.some Jvm.ClassFile.FieldType.boolean)) ∈ WW := inW 1078 (by decide +kernel) rfl
theorem q1087 : (Jvm.Cond.static ({ cls := "PegboardryModel", name := "areInLine", desc := "(II)Z" } : Jvm.MethodName)) ∈ WW := inW 1087 (by decide +kernel) rfl
theorem q1088 : (Jvm.Cond.code ({ cls := "PegboardryModel", name := "areInLine", desc := "(II)Z" } : Jvm.MethodName) prog_9_method_7_code (2 : Nat) (Option.some Jvm.ClassFile.FieldType.boolean)) ∈ WW := inW 1088 (by decide +kernel) rfl
theorem q1165 : (Jvm.Cond.instanceMethod ({ cls := "PegboardryModel$Cage", name := "has", desc := "(I)Z" } : Jvm.MethodName)) ∈ WW := inW 1165 (by decide +kernel) rfl
theorem q1166 : (Jvm.Cond.selects "PegboardryModel$Cage" ({ cls := "PegboardryModel$Cage", name := "has", desc := "(I)Z" } : Jvm.MethodName) ({ cls := "PegboardryModel$Cage", name := "has", desc := "(I)Z" } : Jvm.MethodName)) ∈ WW := inW 1166 (by decide +kernel) rfl
theorem q1167 : (Jvm.Cond.code ({ cls := "PegboardryModel$Cage", name := "has", desc := "(I)Z" } : Jvm.MethodName) prog_10_method_2_code (2 : Nat) (Option.some Jvm.ClassFile.FieldType.boolean)) ∈ WW := inW 1167 (by decide +kernel) rfl
theorem q1169 : (Jvm.Cond.instanceMethod ({ cls := "PegboardryModel$Cage", name := "fits", desc := "(II[I[I)Z" } : Jvm.MethodName)) ∈ WW := inW 1169 (by decide +kernel) rfl
theorem q1170 : (Jvm.Cond.selects "PegboardryModel$Cage" ({ cls := "PegboardryModel$Cage", name := "fits", desc := "(II[I[I)Z" } : Jvm.MethodName) ({ cls := "PegboardryModel$Cage", name := "fits", desc := "(II[I[I)Z" } : Jvm.MethodName)) ∈ WW := inW 1170 (by decide +kernel) rfl
theorem q1171 : (Jvm.Cond.code ({ cls := "PegboardryModel$Cage", name := "fits", desc := "(II[I[I)Z" } : Jvm.MethodName) prog_10_method_3_code (8 : Nat) (Option.some Jvm.ClassFile.FieldType.boolean)) ∈ WW := inW 1171 (by decide +kernel) rfl
theorem q1172 : (Jvm.Cond.methodLink "PegboardryModel$Cage" (18 : Nat) ({ cls := "PegboardryModel$Cage", name := "has", desc := "(I)Z" } : Jvm.MethodName)) ∈ WW := inW 1172 (by decide +kernel) rfl
theorem q1173 : (Jvm.Cond.methodLink "PegboardryModel$Cage" (22 : Nat) ({ cls := "PegboardryModel$Cage", name := "fits", desc := "(II[I[I)Z" } : Jvm.MethodName)) ∈ WW := inW 1173 (by decide +kernel) rfl
theorem nq1174 : (Jvm.Cond.methodLinkNest "PegboardryModel$Cage" (26 : Nat) ({ cls := "PegboardryModel", name := "isIn", desc := "(II)Z" } : Jvm.MethodName) "PegboardryModel") ∈ NWs := inN 1174 (by decide +kernel) rfl
theorem nq1175 : (Jvm.Cond.methodLinkNest "PegboardryModel$Cage" (30 : Nat) ({ cls := "PegboardryModel", name := "areInLine", desc := "(II)Z" } : Jvm.MethodName) "PegboardryModel") ∈ NWs := inN 1175 (by decide +kernel) rfl
theorem dX10_isIn_0 : decode cX10_isIn 0 = .ok (.iload_n 0, 1) := by decide +kernel
theorem dX10_isIn_1 : decode cX10_isIn 1 = .ok (.iload_n 1, 1) := by decide +kernel
theorem dX10_isIn_2 : decode cX10_isIn 2 = .ok (.iconst 1, 1) := by decide +kernel
theorem dX10_isIn_3 : decode cX10_isIn 3 = .ok (.isub, 1) := by decide +kernel
theorem dX10_isIn_4 : decode cX10_isIn 4 = .ok (.ishr, 1) := by decide +kernel
theorem dX10_isIn_5 : decode cX10_isIn 5 = .ok (.iconst 1, 1) := by decide +kernel
theorem dX10_isIn_6 : decode cX10_isIn 6 = .ok (.iand, 1) := by decide +kernel
theorem dX10_isIn_7 : decode cX10_isIn 7 = .ok (.ifCond .eq 7, 3) := by decide +kernel
theorem dX10_isIn_14 : decode cX10_isIn 14 = .ok (.iconst 0, 1) := by decide +kernel
theorem dX10_isIn_15 : decode cX10_isIn 15 = .ok (.ireturn, 1) := by decide +kernel
theorem dX10_isIn_10 : decode cX10_isIn 10 = .ok (.iconst 1, 1) := by decide +kernel
theorem dX10_isIn_11 : decode cX10_isIn 11 = .ok (.goto 4, 3) := by decide +kernel
theorem dX10_areInLine_0 : decode cX10_areInLine 0 = .ok (.iload_n 0, 1) := by decide +kernel
theorem dX10_areInLine_1 : decode cX10_areInLine 1 = .ok (.iload_n 1, 1) := by decide +kernel
theorem dX10_areInLine_2 : decode cX10_areInLine 2 = .ok (.if_icmp .eq 25, 3) := by decide +kernel
theorem dX10_areInLine_27 : decode cX10_areInLine 27 = .ok (.iconst 0, 1) := by decide +kernel
theorem dX10_areInLine_28 : decode cX10_areInLine 28 = .ok (.ireturn, 1) := by decide +kernel
theorem dX10_areInLine_5 : decode cX10_areInLine 5 = .ok (.iload_n 0, 1) := by decide +kernel
theorem dX10_areInLine_6 : decode cX10_areInLine 6 = .ok (.iconst 4, 1) := by decide +kernel
theorem dX10_areInLine_7 : decode cX10_areInLine 7 = .ok (.idiv, 1) := by decide +kernel
theorem dX10_areInLine_8 : decode cX10_areInLine 8 = .ok (.iload_n 1, 1) := by decide +kernel
theorem dX10_areInLine_9 : decode cX10_areInLine 9 = .ok (.iconst 4, 1) := by decide +kernel
theorem dX10_areInLine_10 : decode cX10_areInLine 10 = .ok (.idiv, 1) := by decide +kernel
theorem dX10_areInLine_11 : decode cX10_areInLine 11 = .ok (.if_icmp .eq 12, 3) := by decide +kernel
theorem dX10_areInLine_23 : decode cX10_areInLine 23 = .ok (.iconst 1, 1) := by decide +kernel
theorem dX10_areInLine_24 : decode cX10_areInLine 24 = .ok (.goto 4, 3) := by decide +kernel
theorem dX10_areInLine_14 : decode cX10_areInLine 14 = .ok (.iload_n 0, 1) := by decide +kernel
theorem dX10_areInLine_15 : decode cX10_areInLine 15 = .ok (.iconst 4, 1) := by decide +kernel
theorem dX10_areInLine_16 : decode cX10_areInLine 16 = .ok (.irem, 1) := by decide +kernel
theorem dX10_areInLine_17 : decode cX10_areInLine 17 = .ok (.iload_n 1, 1) := by decide +kernel
theorem dX10_areInLine_18 : decode cX10_areInLine 18 = .ok (.iconst 4, 1) := by decide +kernel
theorem dX10_areInLine_19 : decode cX10_areInLine 19 = .ok (.irem, 1) := by decide +kernel
theorem dX10_areInLine_20 : decode cX10_areInLine 20 = .ok (.if_icmp .ne 7, 3) := by decide +kernel
theorem dX7_has_0 : decode cX7_has 0 = .ok (.aload_n 0, 1) := by decide +kernel
theorem dX7_has_1 : decode cX7_has 1 = .ok (.getfield 9, 3) := by decide +kernel
theorem dX7_has_4 : decode cX7_has 4 = .ok (.iload_n 1, 1) := by decide +kernel
theorem dX7_has_5 : decode cX7_has 5 = .ok (.ishr, 1) := by decide +kernel
theorem dX7_has_6 : decode cX7_has 6 = .ok (.iconst 1, 1) := by decide +kernel
theorem dX7_has_7 : decode cX7_has 7 = .ok (.iand, 1) := by decide +kernel
theorem dX7_has_8 : decode cX7_has 8 = .ok (.ifCond .eq 7, 3) := by decide +kernel
theorem dX7_has_15 : decode cX7_has 15 = .ok (.iconst 0, 1) := by decide +kernel
theorem dX7_has_16 : decode cX7_has 16 = .ok (.ireturn, 1) := by decide +kernel
theorem dX7_has_11 : decode cX7_has 11 = .ok (.iconst 1, 1) := by decide +kernel
theorem dX7_has_12 : decode cX7_has 12 = .ok (.goto 4, 3) := by decide +kernel
theorem dX7_fits_0 : decode cX7_fits 0 = .ok (.iload_n 1, 1) := by decide +kernel
theorem dX7_fits_1 : decode cX7_fits 1 = .ok (.bipush 16, 2) := by decide +kernel
theorem dX7_fits_3 : decode cX7_fits 3 = .ok (.if_icmp .ne 13, 3) := by decide +kernel
theorem dX7_fits_6 : decode cX7_fits 6 = .ok (.iload_n 2, 1) := by decide +kernel
theorem dX7_fits_7 : decode cX7_fits 7 = .ok (.ifCond .ne 7, 3) := by decide +kernel
theorem dX7_fits_14 : decode cX7_fits 14 = .ok (.iconst 0, 1) := by decide +kernel
theorem dX7_fits_15 : decode cX7_fits 15 = .ok (.ireturn, 1) := by decide +kernel
theorem dX7_fits_16 : decode cX7_fits 16 = .ok (.aload_n 0, 1) := by decide +kernel
theorem dX7_fits_17 : decode cX7_fits 17 = .ok (.iload_n 1, 1) := by decide +kernel
theorem dX7_fits_18 : decode cX7_fits 18 = .ok (.invokevirtual 18, 3) := by decide +kernel
theorem dX7_fits_21 : decode cX7_fits 21 = .ok (.ifCond .eq 9, 3) := by decide +kernel
theorem dX7_fits_24 : decode cX7_fits 24 = .ok (.aload_n 3, 1) := by decide +kernel
theorem dX7_fits_25 : decode cX7_fits 25 = .ok (.iload_n 1, 1) := by decide +kernel
theorem dX7_fits_26 : decode cX7_fits 26 = .ok (.iaload, 1) := by decide +kernel
theorem dX7_fits_27 : decode cX7_fits 27 = .ok (.ifCond .le 15, 3) := by decide +kernel
theorem dX7_fits_42 : decode cX7_fits 42 = .ok (.iconst 1, 1) := by decide +kernel
theorem dX7_fits_43 : decode cX7_fits 43 = .ok (.istore 5, 2) := by decide +kernel
theorem dX7_fits_45 : decode cX7_fits 45 = .ok (.iload 5, 2) := by decide +kernel
theorem dX7_fits_47 : decode cX7_fits 47 = .ok (.iconst 4, 1) := by decide +kernel
theorem dX7_fits_48 : decode cX7_fits 48 = .ok (.if_icmp .gt 113, 3) := by decide +kernel
theorem dX7_fits_161 : decode cX7_fits 161 = .ok (.iconst 0, 1) := by decide +kernel
theorem dX7_fits_162 : decode cX7_fits 162 = .ok (.ireturn, 1) := by decide +kernel
theorem dX7_fits_51 : decode cX7_fits 51 = .ok (.aload 4, 2) := by decide +kernel
theorem dX7_fits_53 : decode cX7_fits 53 = .ok (.iload_n 1, 1) := by decide +kernel
theorem dX7_fits_54 : decode cX7_fits 54 = .ok (.iaload, 1) := by decide +kernel
theorem dX7_fits_55 : decode cX7_fits 55 = .ok (.iload 5, 2) := by decide +kernel
theorem dX7_fits_57 : decode cX7_fits 57 = .ok (.invokestatic 26, 3) := by decide +kernel
theorem dX7_fits_60 : decode cX7_fits 60 = .ok (.istore 6, 2) := by decide +kernel
theorem dX7_fits_62 : decode cX7_fits 62 = .ok (.iconst 0, 1) := by decide +kernel
theorem dX7_fits_63 : decode cX7_fits 63 = .ok (.istore 7, 2) := by decide +kernel
theorem dX7_fits_65 : decode cX7_fits 65 = .ok (.iload 7, 2) := by decide +kernel
theorem dX7_fits_67 : decode cX7_fits 67 = .ok (.bipush 16, 2) := by decide +kernel
theorem dX7_fits_69 : decode cX7_fits 69 = .ok (.if_icmp .ge 46, 3) := by decide +kernel
theorem dX7_fits_115 : decode cX7_fits 115 = .ok (.iload 6, 2) := by decide +kernel
theorem dX7_fits_117 : decode cX7_fits 117 = .ok (.ifCond .ne 6, 3) := by decide +kernel
theorem dX7_fits_123 : decode cX7_fits 123 = .ok (.aload_n 3, 1) := by decide +kernel
theorem dX7_fits_124 : decode cX7_fits 124 = .ok (.iload_n 1, 1) := by decide +kernel
theorem dX7_fits_125 : decode cX7_fits 125 = .ok (.iload 5, 2) := by decide +kernel
theorem dX7_fits_127 : decode cX7_fits 127 = .ok (.iastore, 1) := by decide +kernel
theorem dX7_fits_128 : decode cX7_fits 128 = .ok (.aload_n 0, 1) := by decide +kernel
theorem dX7_fits_129 : decode cX7_fits 129 = .ok (.iload_n 1, 1) := by decide +kernel
theorem dX7_fits_130 : decode cX7_fits 130 = .ok (.iconst 1, 1) := by decide +kernel
theorem dX7_fits_131 : decode cX7_fits 131 = .ok (.iadd, 1) := by decide +kernel
theorem dX7_fits_132 : decode cX7_fits 132 = .ok (.iload_n 2, 1) := by decide +kernel
theorem dX7_fits_133 : decode cX7_fits 133 = .ok (.iload 5, 2) := by decide +kernel
theorem dX7_fits_135 : decode cX7_fits 135 = .ok (.isub, 1) := by decide +kernel
theorem dX7_fits_136 : decode cX7_fits 136 = .ok (.aload_n 3, 1) := by decide +kernel
theorem dX7_fits_137 : decode cX7_fits 137 = .ok (.aload 4, 2) := by decide +kernel
theorem dX7_fits_139 : decode cX7_fits 139 = .ok (.invokevirtual 22, 3) := by decide +kernel
theorem dX7_fits_142 : decode cX7_fits 142 = .ok (.istore 7, 2) := by decide +kernel
theorem dX7_fits_144 : decode cX7_fits 144 = .ok (.aload_n 3, 1) := by decide +kernel
theorem dX7_fits_145 : decode cX7_fits 145 = .ok (.iload_n 1, 1) := by decide +kernel
theorem dX7_fits_146 : decode cX7_fits 146 = .ok (.iconst 0, 1) := by decide +kernel
theorem dX7_fits_147 : decode cX7_fits 147 = .ok (.iastore, 1) := by decide +kernel
theorem dX7_fits_148 : decode cX7_fits 148 = .ok (.iload 7, 2) := by decide +kernel
theorem dX7_fits_150 : decode cX7_fits 150 = .ok (.ifCond .eq 5, 3) := by decide +kernel
theorem dX7_fits_155 : decode cX7_fits 155 = .ok (.iinc 5 1, 3) := by decide +kernel
theorem dX7_fits_158 : decode cX7_fits 158 = .ok (.goto (-113), 3) := by decide +kernel
theorem dX7_fits_120 : decode cX7_fits 120 = .ok (.goto 35, 3) := by decide +kernel
theorem dX7_fits_72 : decode cX7_fits 72 = .ok (.iload 6, 2) := by decide +kernel
theorem dX7_fits_74 : decode cX7_fits 74 = .ok (.aload_n 0, 1) := by decide +kernel
theorem dX7_fits_75 : decode cX7_fits 75 = .ok (.iload 7, 2) := by decide +kernel
theorem dX7_fits_77 : decode cX7_fits 77 = .ok (.invokevirtual 18, 3) := by decide +kernel
theorem dX7_fits_80 : decode cX7_fits 80 = .ok (.ifCond .eq 21, 3) := by decide +kernel
theorem dX7_fits_101 : decode cX7_fits 101 = .ok (.iconst 1, 1) := by decide +kernel
theorem dX7_fits_102 : decode cX7_fits 102 = .ok (.goto 4, 3) := by decide +kernel
theorem dX7_fits_106 : decode cX7_fits 106 = .ok (.iand, 1) := by decide +kernel
theorem dX7_fits_107 : decode cX7_fits 107 = .ok (.istore 6, 2) := by decide +kernel
theorem dX7_fits_109 : decode cX7_fits 109 = .ok (.iinc 7 1, 3) := by decide +kernel
theorem dX7_fits_112 : decode cX7_fits 112 = .ok (.goto (-47), 3) := by decide +kernel
theorem dX7_fits_83 : decode cX7_fits 83 = .ok (.iload 7, 2) := by decide +kernel
theorem dX7_fits_85 : decode cX7_fits 85 = .ok (.iload_n 1, 1) := by decide +kernel
theorem dX7_fits_86 : decode cX7_fits 86 = .ok (.invokestatic 30, 3) := by decide +kernel
theorem dX7_fits_89 : decode cX7_fits 89 = .ok (.ifCond .eq 12, 3) := by decide +kernel
theorem dX7_fits_92 : decode cX7_fits 92 = .ok (.aload_n 3, 1) := by decide +kernel
theorem dX7_fits_93 : decode cX7_fits 93 = .ok (.iload 7, 2) := by decide +kernel
theorem dX7_fits_95 : decode cX7_fits 95 = .ok (.iaload, 1) := by decide +kernel
theorem dX7_fits_96 : decode cX7_fits 96 = .ok (.iload 5, 2) := by decide +kernel
theorem dX7_fits_98 : decode cX7_fits 98 = .ok (.if_icmp .eq 7, 3) := by decide +kernel
theorem dX7_fits_105 : decode cX7_fits 105 = .ok (.iconst 0, 1) := by decide +kernel
theorem dX7_fits_30 : decode cX7_fits 30 = .ok (.aload_n 0, 1) := by decide +kernel
theorem dX7_fits_31 : decode cX7_fits 31 = .ok (.iload_n 1, 1) := by decide +kernel
theorem dX7_fits_32 : decode cX7_fits 32 = .ok (.iconst 1, 1) := by decide +kernel
theorem dX7_fits_33 : decode cX7_fits 33 = .ok (.iadd, 1) := by decide +kernel
theorem dX7_fits_34 : decode cX7_fits 34 = .ok (.iload_n 2, 1) := by decide +kernel
theorem dX7_fits_35 : decode cX7_fits 35 = .ok (.aload_n 3, 1) := by decide +kernel
theorem dX7_fits_36 : decode cX7_fits 36 = .ok (.aload 4, 2) := by decide +kernel
theorem dX7_fits_38 : decode cX7_fits 38 = .ok (.invokevirtual 22, 3) := by decide +kernel
theorem dX7_fits_41 : decode cX7_fits 41 = .ok (.ireturn, 1) := by decide +kernel
set_option maxHeartbeats 4000000 in
set_option maxRecDepth 100000 in
theorem c_isIn (l : Launch) (G : GG) (st : Nat) (v : Nat) (hst : st < 16) (hv1 : 1 ≤ v) (hv4 : v ≤ 4) : Mi l G yX10_isIn cX10_isIn 2 (some .boolean) ({ frames := 0, cells := 0, slots := 0, locals := 0 } : Room) [.int (nI st), .int (nI v)] [] (fun (r : Int32) (u : Nat) => r = nI u ∧ u ≤ 1 ∧ st / pw v % 2 = u) (fun (u : Nat) => []) := by
  intro sz
  refine Met.ofW (cc := cX10_isIn) (maxL := 2) (ret := (some .boolean)) (by decide) rfl ?_
  intro p e s m args below meth c s₁ B9 hml hv
  obtain ⟨rfl, hsz, hP, hK, hD0, hE⟩ := hv
  have hx := B9.exec
  have hb := B9.bytes
  have hr := B9.returns
  have hts : ∀ w ∈ WW, w.before ([.int (nI st), .int (nI v)] : List Value).toArray s = true := fun w h => atoms_spec (ws := .code yX10_isIn cX10_isIn 2 (some .boolean) :: WW) B9.pre w (List.mem_cons_of_mem _ h)
  have hown : s.vm.findClass RX10 = some m.cls := findClass_of_methodNamed B9.named
  subst hsz
  have hD := hD0.self (sz := s.heap.size)
  generalize hAe : va_A [] s.heap.size = A at hD hE ⊢
  have hA : ∀ q : Nat, s.heap.size ≤ q → A q := fun q h => by rw [← hAe]; exact Or.inr h
  have hl := lv_entry ([.int (nI st), .int (nI v)]) (n := 2) (Nat.le_of_ble_eq_true rfl)
  rw [lg_entry_eq]
  generalize (lg_sl ([.int (nI st), .int (nI v)]) ++ List.replicate (2 - (lg_sl ([.int (nI st), .int (nI v)])).length) Slot.unset).toArray = ls at hl ⊢
  have hl : lv_has ls 2 [(0, .int (nI st)), (1, .int (nI v))] := hl
  refine qgen (fun Q hQ => ?_)
  refine hgen (fun H locs hP hD hS => ?_) hP hD
  rcases (show v = 1 ∨ v = 2 ∨ v = 3 ∨ v = 4 by omega) with rfl | rfl | rfl | rfl
  · skip
    refine lv_iload_n hx hb dX10_isIn_0 rfl (lv_at hl 0 rfl) ?_
    refine lv_iload_n hx hb dX10_isIn_1 rfl (lv_at hl 1 rfl) ?_
    refine lv_iconst (v := nI 1) hx hb dX10_isIn_2 (by decide) ?_
    refine lv_isub hx hb dX10_isIn_3 ?_
    refine lv_toe (show _ = nI 0 by decide) ?_
    refine lv_ishr hx hb dX10_isIn_4 ?_
    refine lv_toe (show _ = nI (st / 1) from pk_shrN (n := st) (by omega) (nI 0 &&& 31) 0 (by decide)) ?_
    refine lv_iconst (v := nI 1) hx hb dX10_isIn_5 (by decide) ?_
    refine lv_iand hx hb dX10_isIn_6 ?_
    refine lv_toe (andm _ (by omega)) ?_
    refine lv_if_eq (tgt := 14) hx hb dX10_isIn_7 (by decide) (fun c_1 => ?_) (fun c_1 => ?_)
    · skip
      have c_1 : ((st / 1) % 2) = 0 := (nI_eq (a := (st / 1) % 2) (b := 0) (by omega) (by omega)).mp c_1
      refine lv_iconst (v := nI 0) hx hb dX10_isIn_14 (by decide) ?_
      have hP9 := hP.sub (ws' := []) [] rfl
      have hD9 := hD.sub (ws' := []) [] (by decide) rfl
      subst hQ
      exact W.zret (v := nI 0) hx hb hr (by decide) (fun t ht hW => ⟨⟨nI 0, 0, rfl, ⟨rfl, (show 0 ≤ 1 by omega), (by show st / 1 % 2 = 0; omega)⟩, by rw [ht]; exact hP9, hD9⟩, hS.F ht⟩) hS.2.2 dX10_isIn_15
    · skip
      have c_1 : ¬ ((st / 1) % 2) = 0 := fun z => c_1 ((nI_eq (a := (st / 1) % 2) (b := 0) (by omega) (by omega)).mpr z)
      refine lv_iconst (v := nI 1) hx hb dX10_isIn_10 (by decide) ?_
      refine lv_goto (tgt := 15) hx hb dX10_isIn_11 (by decide) ?_
      have hP9 := hP.sub (ws' := []) [] rfl
      have hD9 := hD.sub (ws' := []) [] (by decide) rfl
      subst hQ
      exact W.zret (v := nI 1) hx hb hr (by decide) (fun t ht hW => ⟨⟨nI 1, 1, rfl, ⟨rfl, (show 1 ≤ 1 by omega), (by show st / 1 % 2 = 1; omega)⟩, by rw [ht]; exact hP9, hD9⟩, hS.F ht⟩) hS.2.2 dX10_isIn_15
  · skip
    refine lv_iload_n hx hb dX10_isIn_0 rfl (lv_at hl 0 rfl) ?_
    refine lv_iload_n hx hb dX10_isIn_1 rfl (lv_at hl 1 rfl) ?_
    refine lv_iconst (v := nI 1) hx hb dX10_isIn_2 (by decide) ?_
    refine lv_isub hx hb dX10_isIn_3 ?_
    refine lv_toe (show _ = nI 1 by decide) ?_
    refine lv_ishr hx hb dX10_isIn_4 ?_
    refine lv_toe (show _ = nI (st / 2) from pk_shrN (n := st) (by omega) (nI 1 &&& 31) 1 (by decide)) ?_
    refine lv_iconst (v := nI 1) hx hb dX10_isIn_5 (by decide) ?_
    refine lv_iand hx hb dX10_isIn_6 ?_
    refine lv_toe (andm _ (by omega)) ?_
    refine lv_if_eq (tgt := 14) hx hb dX10_isIn_7 (by decide) (fun c_2 => ?_) (fun c_2 => ?_)
    · skip
      have c_2 : ((st / 2) % 2) = 0 := (nI_eq (a := (st / 2) % 2) (b := 0) (by omega) (by omega)).mp c_2
      refine lv_iconst (v := nI 0) hx hb dX10_isIn_14 (by decide) ?_
      have hP9 := hP.sub (ws' := []) [] rfl
      have hD9 := hD.sub (ws' := []) [] (by decide) rfl
      subst hQ
      exact W.zret (v := nI 0) hx hb hr (by decide) (fun t ht hW => ⟨⟨nI 0, 0, rfl, ⟨rfl, (show 0 ≤ 1 by omega), (by show st / 2 % 2 = 0; omega)⟩, by rw [ht]; exact hP9, hD9⟩, hS.F ht⟩) hS.2.2 dX10_isIn_15
    · skip
      have c_2 : ¬ ((st / 2) % 2) = 0 := fun z => c_2 ((nI_eq (a := (st / 2) % 2) (b := 0) (by omega) (by omega)).mpr z)
      refine lv_iconst (v := nI 1) hx hb dX10_isIn_10 (by decide) ?_
      refine lv_goto (tgt := 15) hx hb dX10_isIn_11 (by decide) ?_
      have hP9 := hP.sub (ws' := []) [] rfl
      have hD9 := hD.sub (ws' := []) [] (by decide) rfl
      subst hQ
      exact W.zret (v := nI 1) hx hb hr (by decide) (fun t ht hW => ⟨⟨nI 1, 1, rfl, ⟨rfl, (show 1 ≤ 1 by omega), (by show st / 2 % 2 = 1; omega)⟩, by rw [ht]; exact hP9, hD9⟩, hS.F ht⟩) hS.2.2 dX10_isIn_15
  · skip
    refine lv_iload_n hx hb dX10_isIn_0 rfl (lv_at hl 0 rfl) ?_
    refine lv_iload_n hx hb dX10_isIn_1 rfl (lv_at hl 1 rfl) ?_
    refine lv_iconst (v := nI 1) hx hb dX10_isIn_2 (by decide) ?_
    refine lv_isub hx hb dX10_isIn_3 ?_
    refine lv_toe (show _ = nI 2 by decide) ?_
    refine lv_ishr hx hb dX10_isIn_4 ?_
    refine lv_toe (show _ = nI (st / 4) from pk_shrN (n := st) (by omega) (nI 2 &&& 31) 2 (by decide)) ?_
    refine lv_iconst (v := nI 1) hx hb dX10_isIn_5 (by decide) ?_
    refine lv_iand hx hb dX10_isIn_6 ?_
    refine lv_toe (andm _ (by omega)) ?_
    refine lv_if_eq (tgt := 14) hx hb dX10_isIn_7 (by decide) (fun c_3 => ?_) (fun c_3 => ?_)
    · skip
      have c_3 : ((st / 4) % 2) = 0 := (nI_eq (a := (st / 4) % 2) (b := 0) (by omega) (by omega)).mp c_3
      refine lv_iconst (v := nI 0) hx hb dX10_isIn_14 (by decide) ?_
      have hP9 := hP.sub (ws' := []) [] rfl
      have hD9 := hD.sub (ws' := []) [] (by decide) rfl
      subst hQ
      exact W.zret (v := nI 0) hx hb hr (by decide) (fun t ht hW => ⟨⟨nI 0, 0, rfl, ⟨rfl, (show 0 ≤ 1 by omega), (by show st / 4 % 2 = 0; omega)⟩, by rw [ht]; exact hP9, hD9⟩, hS.F ht⟩) hS.2.2 dX10_isIn_15
    · skip
      have c_3 : ¬ ((st / 4) % 2) = 0 := fun z => c_3 ((nI_eq (a := (st / 4) % 2) (b := 0) (by omega) (by omega)).mpr z)
      refine lv_iconst (v := nI 1) hx hb dX10_isIn_10 (by decide) ?_
      refine lv_goto (tgt := 15) hx hb dX10_isIn_11 (by decide) ?_
      have hP9 := hP.sub (ws' := []) [] rfl
      have hD9 := hD.sub (ws' := []) [] (by decide) rfl
      subst hQ
      exact W.zret (v := nI 1) hx hb hr (by decide) (fun t ht hW => ⟨⟨nI 1, 1, rfl, ⟨rfl, (show 1 ≤ 1 by omega), (by show st / 4 % 2 = 1; omega)⟩, by rw [ht]; exact hP9, hD9⟩, hS.F ht⟩) hS.2.2 dX10_isIn_15
  · skip
    refine lv_iload_n hx hb dX10_isIn_0 rfl (lv_at hl 0 rfl) ?_
    refine lv_iload_n hx hb dX10_isIn_1 rfl (lv_at hl 1 rfl) ?_
    refine lv_iconst (v := nI 1) hx hb dX10_isIn_2 (by decide) ?_
    refine lv_isub hx hb dX10_isIn_3 ?_
    refine lv_toe (show _ = nI 3 by decide) ?_
    refine lv_ishr hx hb dX10_isIn_4 ?_
    refine lv_toe (show _ = nI (st / 8) from pk_shrN (n := st) (by omega) (nI 3 &&& 31) 3 (by decide)) ?_
    refine lv_iconst (v := nI 1) hx hb dX10_isIn_5 (by decide) ?_
    refine lv_iand hx hb dX10_isIn_6 ?_
    refine lv_toe (andm _ (by omega)) ?_
    refine lv_if_eq (tgt := 14) hx hb dX10_isIn_7 (by decide) (fun c_4 => ?_) (fun c_4 => ?_)
    · skip
      have c_4 : ((st / 8) % 2) = 0 := (nI_eq (a := (st / 8) % 2) (b := 0) (by omega) (by omega)).mp c_4
      refine lv_iconst (v := nI 0) hx hb dX10_isIn_14 (by decide) ?_
      have hP9 := hP.sub (ws' := []) [] rfl
      have hD9 := hD.sub (ws' := []) [] (by decide) rfl
      subst hQ
      exact W.zret (v := nI 0) hx hb hr (by decide) (fun t ht hW => ⟨⟨nI 0, 0, rfl, ⟨rfl, (show 0 ≤ 1 by omega), (by show st / 8 % 2 = 0; omega)⟩, by rw [ht]; exact hP9, hD9⟩, hS.F ht⟩) hS.2.2 dX10_isIn_15
    · skip
      have c_4 : ¬ ((st / 8) % 2) = 0 := fun z => c_4 ((nI_eq (a := (st / 8) % 2) (b := 0) (by omega) (by omega)).mpr z)
      refine lv_iconst (v := nI 1) hx hb dX10_isIn_10 (by decide) ?_
      refine lv_goto (tgt := 15) hx hb dX10_isIn_11 (by decide) ?_
      have hP9 := hP.sub (ws' := []) [] rfl
      have hD9 := hD.sub (ws' := []) [] (by decide) rfl
      subst hQ
      exact W.zret (v := nI 1) hx hb hr (by decide) (fun t ht hW => ⟨⟨nI 1, 1, rfl, ⟨rfl, (show 1 ≤ 1 by omega), (by show st / 8 % 2 = 1; omega)⟩, by rw [ht]; exact hP9, hD9⟩, hS.F ht⟩) hS.2.2 dX10_isIn_15
set_option maxHeartbeats 4000000 in
set_option maxRecDepth 100000 in
theorem c_isIn_any (l : Launch) (G : GG) (st : Int32) (v : Int32) : Mi l G yX10_isIn cX10_isIn 2 (some .boolean) ({ frames := 0, cells := 0, slots := 0, locals := 0 } : Room) [.int st, .int v] [] (fun (r : Int32) (u : Unit) => True) (fun (u : Unit) => []) := by
  intro sz
  refine Met.ofW (cc := cX10_isIn) (maxL := 2) (ret := (some .boolean)) (by decide) rfl ?_
  intro p e s m args below meth c s₁ B9 hml hv
  obtain ⟨rfl, hsz, hP, hK, hD0, hE⟩ := hv
  have hx := B9.exec
  have hb := B9.bytes
  have hr := B9.returns
  have hts : ∀ w ∈ WW, w.before ([.int st, .int v] : List Value).toArray s = true := fun w h => atoms_spec (ws := .code yX10_isIn cX10_isIn 2 (some .boolean) :: WW) B9.pre w (List.mem_cons_of_mem _ h)
  have hown : s.vm.findClass RX10 = some m.cls := findClass_of_methodNamed B9.named
  subst hsz
  have hD := hD0.self (sz := s.heap.size)
  generalize hAe : va_A [] s.heap.size = A at hD hE ⊢
  have hA : ∀ q : Nat, s.heap.size ≤ q → A q := fun q h => by rw [← hAe]; exact Or.inr h
  have hl := lv_entry ([.int st, .int v]) (n := 2) (Nat.le_of_ble_eq_true rfl)
  rw [lg_entry_eq]
  generalize (lg_sl ([.int st, .int v]) ++ List.replicate (2 - (lg_sl ([.int st, .int v])).length) Slot.unset).toArray = ls at hl ⊢
  have hl : lv_has ls 2 [(0, .int st), (1, .int v)] := hl
  refine qgen (fun Q hQ => ?_)
  refine hgen (fun H locs hP hD hS => ?_) hP hD
  refine lv_iload_n hx hb dX10_isIn_0 rfl (lv_at hl 0 rfl) ?_
  refine lv_iload_n hx hb dX10_isIn_1 rfl (lv_at hl 1 rfl) ?_
  refine lv_iconst (v := nI 1) hx hb dX10_isIn_2 (by decide) ?_
  refine lv_isub hx hb dX10_isIn_3 ?_
  refine lv_topi (fun w_1 ew_1 => ?_)
  refine lv_ishr hx hb dX10_isIn_4 ?_
  refine lv_topi (fun w_2 ew_2 => ?_)
  refine lv_iconst (v := nI 1) hx hb dX10_isIn_5 (by decide) ?_
  refine lv_iand hx hb dX10_isIn_6 ?_
  refine lv_topi (fun w_3 ew_3 => ?_)
  refine lv_if_eq (tgt := 14) hx hb dX10_isIn_7 (by decide) (fun c_4 => ?_) (fun c_4 => ?_)
  · skip
    refine lv_iconst (v := nI 0) hx hb dX10_isIn_14 (by decide) ?_
    have hP9 := hP.sub (ws' := []) [] rfl
    have hD9 := hD.sub (ws' := []) [] (by decide) rfl
    subst hQ
    exact W.zret (v := nI 0) hx hb hr (by decide) (fun t ht hW => ⟨⟨nI 0, (), rfl, trivial, by rw [ht]; exact hP9, hD9⟩, hS.F ht⟩) hS.2.2 dX10_isIn_15
  · skip
    refine lv_iconst (v := nI 1) hx hb dX10_isIn_10 (by decide) ?_
    refine lv_goto (tgt := 15) hx hb dX10_isIn_11 (by decide) ?_
    have hP9 := hP.sub (ws' := []) [] rfl
    have hD9 := hD.sub (ws' := []) [] (by decide) rfl
    subst hQ
    exact W.zret (v := nI 1) hx hb hr (by decide) (fun t ht hW => ⟨⟨nI 1, (), rfl, trivial, by rw [ht]; exact hP9, hD9⟩, hS.F ht⟩) hS.2.2 dX10_isIn_15
set_option maxHeartbeats 4000000 in
set_option maxRecDepth 100000 in
theorem c_X10_areInLine (l : Launch) (G : GG) (a : Nat) (b : Nat) (ha : a < 16) (hb2 : b < 16) : Mi l G yX10_areInLine cX10_areInLine 2 (some .boolean) ({ frames := 0, cells := 0, slots := 0, locals := 0 } : Room) [.int (nI a), .int (nI b)] [] (fun (r : Int32) (u : Unit) => True) (fun (u : Unit) => []) := by
  intro sz
  refine Met.ofW (cc := cX10_areInLine) (maxL := 2) (ret := (some .boolean)) (by decide) rfl ?_
  intro p e s m args below meth c s₁ B9 hml hv
  obtain ⟨rfl, hsz, hP, hK, hD0, hE⟩ := hv
  have hx := B9.exec
  have hb := B9.bytes
  have hr := B9.returns
  have hts : ∀ w ∈ WW, w.before ([.int (nI a), .int (nI b)] : List Value).toArray s = true := fun w h => atoms_spec (ws := .code yX10_areInLine cX10_areInLine 2 (some .boolean) :: WW) B9.pre w (List.mem_cons_of_mem _ h)
  have hown : s.vm.findClass RX10 = some m.cls := findClass_of_methodNamed B9.named
  subst hsz
  have hD := hD0.self (sz := s.heap.size)
  generalize hAe : va_A [] s.heap.size = A at hD hE ⊢
  have hA : ∀ q : Nat, s.heap.size ≤ q → A q := fun q h => by rw [← hAe]; exact Or.inr h
  have hl := lv_entry ([.int (nI a), .int (nI b)]) (n := 2) (Nat.le_of_ble_eq_true rfl)
  rw [lg_entry_eq]
  generalize (lg_sl ([.int (nI a), .int (nI b)]) ++ List.replicate (2 - (lg_sl ([.int (nI a), .int (nI b)])).length) Slot.unset).toArray = ls at hl ⊢
  have hl : lv_has ls 2 [(0, .int (nI a)), (1, .int (nI b))] := hl
  refine qgen (fun Q hQ => ?_)
  refine hgen (fun H locs hP hD hS => ?_) hP hD
  refine lv_iload_n hx hb dX10_areInLine_0 rfl (lv_at hl 0 rfl) ?_
  refine lv_iload_n hx hb dX10_areInLine_1 rfl (lv_at hl 1 rfl) ?_
  refine lv_icmp_eq (tgt := 27) hx hb dX10_areInLine_2 (by decide) (fun c_1 => ?_) (fun c_1 => ?_)
  · skip
    have c_1 : a = b := (nI_eq (a := a) (b := b) (by omega) (by omega)).mp c_1
    refine lv_iconst (v := nI 0) hx hb dX10_areInLine_27 (by decide) ?_
    have hP9 := hP.sub (ws' := []) [] rfl
    have hD9 := hD.sub (ws' := []) [] (by decide) rfl
    subst hQ
    exact W.zret (v := nI 0) hx hb hr (by decide) (fun t ht hW => ⟨⟨nI 0, (), rfl, trivial, by rw [ht]; exact hP9, hD9⟩, hS.F ht⟩) hS.2.2 dX10_areInLine_28
  · skip
    have c_1 : ¬ a = b := fun z => c_1 ((nI_eq (a := a) (b := b) (by omega) (by omega)).mpr z)
    refine lv_iload_n hx hb dX10_areInLine_5 rfl (lv_at hl 0 rfl) ?_
    refine lv_iconst (v := nI 4) hx hb dX10_areInLine_6 (by decide) ?_
    refine lv_idiv hx hb dX10_areInLine_7 (nI_ne0 (by omega) (by omega)) ?_
    refine lv_toe (pk_div (a := a) (d := 4) (by omega) (by omega) (by omega)) ?_
    refine lv_iload_n hx hb dX10_areInLine_8 rfl (lv_at hl 1 rfl) ?_
    refine lv_iconst (v := nI 4) hx hb dX10_areInLine_9 (by decide) ?_
    refine lv_idiv hx hb dX10_areInLine_10 (nI_ne0 (by omega) (by omega)) ?_
    refine lv_toe (pk_div (a := b) (d := 4) (by omega) (by omega) (by omega)) ?_
    refine lv_icmp_eq (tgt := 23) hx hb dX10_areInLine_11 (by decide) (fun c_2 => ?_) (fun c_2 => ?_)
    · skip
      have c_2 : (a / 4) = (b / 4) := (nI_eq (a := a / 4) (b := b / 4) (by omega) (by omega)).mp c_2
      refine lv_iconst (v := nI 1) hx hb dX10_areInLine_23 (by decide) ?_
      refine lv_goto (tgt := 28) hx hb dX10_areInLine_24 (by decide) ?_
      have hP9 := hP.sub (ws' := []) [] rfl
      have hD9 := hD.sub (ws' := []) [] (by decide) rfl
      subst hQ
      exact W.zret (v := nI 1) hx hb hr (by decide) (fun t ht hW => ⟨⟨nI 1, (), rfl, trivial, by rw [ht]; exact hP9, hD9⟩, hS.F ht⟩) hS.2.2 dX10_areInLine_28
    · skip
      have c_2 : ¬ (a / 4) = (b / 4) := fun z => c_2 ((nI_eq (a := a / 4) (b := b / 4) (by omega) (by omega)).mpr z)
      refine lv_iload_n hx hb dX10_areInLine_14 rfl (lv_at hl 0 rfl) ?_
      refine lv_iconst (v := nI 4) hx hb dX10_areInLine_15 (by decide) ?_
      refine lv_irem hx hb dX10_areInLine_16 (nI_ne0 (by omega) (by omega)) ?_
      refine lv_toe (pk_rem (a := a) (d := 4) (by omega) (by omega) (by omega)) ?_
      refine lv_iload_n hx hb dX10_areInLine_17 rfl (lv_at hl 1 rfl) ?_
      refine lv_iconst (v := nI 4) hx hb dX10_areInLine_18 (by decide) ?_
      refine lv_irem hx hb dX10_areInLine_19 (nI_ne0 (by omega) (by omega)) ?_
      refine lv_toe (pk_rem (a := b) (d := 4) (by omega) (by omega) (by omega)) ?_
      refine lv_icmp_ne (tgt := 27) hx hb dX10_areInLine_20 (by decide) (fun c_3 => ?_) (fun c_3 => ?_)
      · skip
        have c_3 : ¬ (a % 4) = (b % 4) := fun z => c_3 ((nI_eq (a := a % 4) (b := b % 4) (by omega) (by omega)).mpr z)
        refine lv_iconst (v := nI 0) hx hb dX10_areInLine_27 (by decide) ?_
        have hP9 := hP.sub (ws' := []) [] rfl
        have hD9 := hD.sub (ws' := []) [] (by decide) rfl
        subst hQ
        exact W.zret (v := nI 0) hx hb hr (by decide) (fun t ht hW => ⟨⟨nI 0, (), rfl, trivial, by rw [ht]; exact hP9, hD9⟩, hS.F ht⟩) hS.2.2 dX10_areInLine_28
      · skip
        have c_3 : (a % 4) = (b % 4) := (nI_eq (a := a % 4) (b := b % 4) (by omega) (by omega)).mp c_3
        refine lv_iconst (v := nI 1) hx hb dX10_areInLine_23 (by decide) ?_
        refine lv_goto (tgt := 28) hx hb dX10_areInLine_24 (by decide) ?_
        have hP9 := hP.sub (ws' := []) [] rfl
        have hD9 := hD.sub (ws' := []) [] (by decide) rfl
        subst hQ
        exact W.zret (v := nI 1) hx hb hr (by decide) (fun t ht hW => ⟨⟨nI 1, (), rfl, trivial, by rw [ht]; exact hP9, hD9⟩, hS.F ht⟩) hS.2.2 dX10_areInLine_28
set_option maxHeartbeats 4000000 in
set_option maxRecDepth 100000 in
theorem c_X7_has (l : Launch) (G : GG) (cg : Nat) (k : Nat) (hk : k < 16) : Mi l G yX7_has cX7_has 2 (some .boolean) ({ frames := 0, cells := 0, slots := 0, locals := 0 } : Room) [.ref cg, .int (nI k)] [(cg, .inr (12, [.int (nI 49152), .int (nI 16)]))] (fun (r : Int32) (u : Nat) => r = nI u ∧ u ≤ 1 ∧ (k < 14 → u = 0) ∧ (14 ≤ k → u = 1)) (fun (u : Nat) => [(cg, .inr (12, [.int (nI 49152), .int (nI 16)]))]) := by
  intro sz
  refine Met.ofW (cc := cX7_has) (maxL := 2) (ret := (some .boolean)) (by decide) rfl ?_
  intro p e s m args below meth c s₁ B9 hml hv
  obtain ⟨rfl, hsz, hP, hK, hD0, hE⟩ := hv
  have hx := B9.exec
  have hb := B9.bytes
  have hr := B9.returns
  have hts : ∀ w ∈ WW, w.before ([.ref cg, .int (nI k)] : List Value).toArray s = true := fun w h => atoms_spec (ws := .code yX7_has cX7_has 2 (some .boolean) :: WW) B9.pre w (List.mem_cons_of_mem _ h)
  have hown : s.vm.findClass RX7 = some m.cls := findClass_of_methodNamed B9.named
  subst hsz
  have hD := hD0.self (sz := s.heap.size)
  generalize hAe : va_A [(cg, .inr (12, [.int (nI 49152), .int (nI 16)]))] s.heap.size = A at hD hE ⊢
  have hA : ∀ q : Nat, s.heap.size ≤ q → A q := fun q h => by rw [← hAe]; exact Or.inr h
  have hl := lv_entry ([.ref cg, .int (nI k)]) (n := 2) (Nat.le_of_ble_eq_true rfl)
  rw [lg_entry_eq]
  generalize (lg_sl ([.ref cg, .int (nI k)]) ++ List.replicate (2 - (lg_sl ([.ref cg, .int (nI k)])).length) Slot.unset).toArray = ls at hl ⊢
  have hl : lv_has ls 2 [(0, .ref cg), (1, .int (nI k))] := hl
  refine qgen (fun Q hQ => ?_)
  refine hgen (fun H locs hP hD hS => ?_) hP hD
  rcases (show k = 0 ∨ k = 1 ∨ k = 2 ∨ k = 3 ∨ k = 4 ∨ k = 5 ∨ k = 6 ∨ k = 7 ∨ k = 8 ∨ k = 9 ∨ k = 10 ∨ k = 11 ∨ k = 12 ∨ k = 13 ∨ k = 14 ∨ k = 15 by omega) with rfl | rfl | rfl | rfl | rfl | rfl | rfl | rfl | rfl | rfl | rfl | rfl | rfl | rfl | rfl | rfl
  · skip
    refine lv_aload_n hx hb dX7_has_0 rfl (lv_at hl 0 rfl) ?_
    refine va_get (D := gD G) (ci := 12) (v := .int (nI 49152)) (C := RX7) (T := TX7) (N := 2) hx hb hts fwX7 hown hK hP 0 rfl rfl 0 (by decide) (hts _ q1031) (fun _ h9 => h9) rfl dX7_has_1 ?_
    refine lv_iload_n hx hb dX7_has_4 rfl (lv_at hl 1 rfl) ?_
    refine lv_ishr hx hb dX7_has_5 ?_
    refine lv_toe (show _ = nI 49152 by decide) ?_
    refine lv_iconst (v := nI 1) hx hb dX7_has_6 (by decide) ?_
    refine lv_iand hx hb dX7_has_7 ?_
    refine lv_toe (show _ = nI 0 by decide) ?_
    refine lv_if_eq (tgt := 15) hx hb dX7_has_8 (by decide) (fun c_1 => ?_) (fun c_1 => ?_)
    · skip
      have c_1 : 0 = 0 := (nI_eq (a := 0) (b := 0) (by omega) (by omega)).mp c_1
      refine lv_iconst (v := nI 0) hx hb dX7_has_15 (by decide) ?_
      have hP9 := hP.sub (ws' := [(cg, .inr (12, [.int (nI 49152), .int (nI 16)]))]) [0] rfl
      have hD9 := hD.sub (ws' := [(cg, .inr (12, [.int (nI 49152), .int (nI 16)]))]) [0] (by decide) rfl
      subst hQ
      exact W.zret (v := nI 0) hx hb hr (by decide) (fun t ht hW => ⟨⟨nI 0, 0, rfl, ⟨rfl, (show 0 ≤ 1 by omega), (show 0 < 14 → 0 = 0 by omega), (show 14 ≤ 0 → 0 = 1 by omega)⟩, by rw [ht]; exact hP9, hD9⟩, hS.F ht⟩) hS.2.2 dX7_has_16
    · skip
      have c_1 : ¬ 0 = 0 := fun z => c_1 ((nI_eq (a := 0) (b := 0) (by omega) (by omega)).mpr z)
      exact absurd c_1 (by decide)
  · skip
    refine lv_aload_n hx hb dX7_has_0 rfl (lv_at hl 0 rfl) ?_
    refine va_get (D := gD G) (ci := 12) (v := .int (nI 49152)) (C := RX7) (T := TX7) (N := 2) hx hb hts fwX7 hown hK hP 0 rfl rfl 0 (by decide) (hts _ q1031) (fun _ h9 => h9) rfl dX7_has_1 ?_
    refine lv_iload_n hx hb dX7_has_4 rfl (lv_at hl 1 rfl) ?_
    refine lv_ishr hx hb dX7_has_5 ?_
    refine lv_toe (show _ = nI 24576 by decide) ?_
    refine lv_iconst (v := nI 1) hx hb dX7_has_6 (by decide) ?_
    refine lv_iand hx hb dX7_has_7 ?_
    refine lv_toe (show _ = nI 0 by decide) ?_
    refine lv_if_eq (tgt := 15) hx hb dX7_has_8 (by decide) (fun c_2 => ?_) (fun c_2 => ?_)
    · skip
      have c_2 : 0 = 0 := (nI_eq (a := 0) (b := 0) (by omega) (by omega)).mp c_2
      refine lv_iconst (v := nI 0) hx hb dX7_has_15 (by decide) ?_
      have hP9 := hP.sub (ws' := [(cg, .inr (12, [.int (nI 49152), .int (nI 16)]))]) [0] rfl
      have hD9 := hD.sub (ws' := [(cg, .inr (12, [.int (nI 49152), .int (nI 16)]))]) [0] (by decide) rfl
      subst hQ
      exact W.zret (v := nI 0) hx hb hr (by decide) (fun t ht hW => ⟨⟨nI 0, 0, rfl, ⟨rfl, (show 0 ≤ 1 by omega), (show 1 < 14 → 0 = 0 by omega), (show 14 ≤ 1 → 0 = 1 by omega)⟩, by rw [ht]; exact hP9, hD9⟩, hS.F ht⟩) hS.2.2 dX7_has_16
    · skip
      have c_2 : ¬ 0 = 0 := fun z => c_2 ((nI_eq (a := 0) (b := 0) (by omega) (by omega)).mpr z)
      exact absurd c_2 (by decide)
  · skip
    refine lv_aload_n hx hb dX7_has_0 rfl (lv_at hl 0 rfl) ?_
    refine va_get (D := gD G) (ci := 12) (v := .int (nI 49152)) (C := RX7) (T := TX7) (N := 2) hx hb hts fwX7 hown hK hP 0 rfl rfl 0 (by decide) (hts _ q1031) (fun _ h9 => h9) rfl dX7_has_1 ?_
    refine lv_iload_n hx hb dX7_has_4 rfl (lv_at hl 1 rfl) ?_
    refine lv_ishr hx hb dX7_has_5 ?_
    refine lv_toe (show _ = nI 12288 by decide) ?_
    refine lv_iconst (v := nI 1) hx hb dX7_has_6 (by decide) ?_
    refine lv_iand hx hb dX7_has_7 ?_
    refine lv_toe (show _ = nI 0 by decide) ?_
    refine lv_if_eq (tgt := 15) hx hb dX7_has_8 (by decide) (fun c_3 => ?_) (fun c_3 => ?_)
    · skip
      have c_3 : 0 = 0 := (nI_eq (a := 0) (b := 0) (by omega) (by omega)).mp c_3
      refine lv_iconst (v := nI 0) hx hb dX7_has_15 (by decide) ?_
      have hP9 := hP.sub (ws' := [(cg, .inr (12, [.int (nI 49152), .int (nI 16)]))]) [0] rfl
      have hD9 := hD.sub (ws' := [(cg, .inr (12, [.int (nI 49152), .int (nI 16)]))]) [0] (by decide) rfl
      subst hQ
      exact W.zret (v := nI 0) hx hb hr (by decide) (fun t ht hW => ⟨⟨nI 0, 0, rfl, ⟨rfl, (show 0 ≤ 1 by omega), (show 2 < 14 → 0 = 0 by omega), (show 14 ≤ 2 → 0 = 1 by omega)⟩, by rw [ht]; exact hP9, hD9⟩, hS.F ht⟩) hS.2.2 dX7_has_16
    · skip
      have c_3 : ¬ 0 = 0 := fun z => c_3 ((nI_eq (a := 0) (b := 0) (by omega) (by omega)).mpr z)
      exact absurd c_3 (by decide)
  · skip
    refine lv_aload_n hx hb dX7_has_0 rfl (lv_at hl 0 rfl) ?_
    refine va_get (D := gD G) (ci := 12) (v := .int (nI 49152)) (C := RX7) (T := TX7) (N := 2) hx hb hts fwX7 hown hK hP 0 rfl rfl 0 (by decide) (hts _ q1031) (fun _ h9 => h9) rfl dX7_has_1 ?_
    refine lv_iload_n hx hb dX7_has_4 rfl (lv_at hl 1 rfl) ?_
    refine lv_ishr hx hb dX7_has_5 ?_
    refine lv_toe (show _ = nI 6144 by decide) ?_
    refine lv_iconst (v := nI 1) hx hb dX7_has_6 (by decide) ?_
    refine lv_iand hx hb dX7_has_7 ?_
    refine lv_toe (show _ = nI 0 by decide) ?_
    refine lv_if_eq (tgt := 15) hx hb dX7_has_8 (by decide) (fun c_4 => ?_) (fun c_4 => ?_)
    · skip
      have c_4 : 0 = 0 := (nI_eq (a := 0) (b := 0) (by omega) (by omega)).mp c_4
      refine lv_iconst (v := nI 0) hx hb dX7_has_15 (by decide) ?_
      have hP9 := hP.sub (ws' := [(cg, .inr (12, [.int (nI 49152), .int (nI 16)]))]) [0] rfl
      have hD9 := hD.sub (ws' := [(cg, .inr (12, [.int (nI 49152), .int (nI 16)]))]) [0] (by decide) rfl
      subst hQ
      exact W.zret (v := nI 0) hx hb hr (by decide) (fun t ht hW => ⟨⟨nI 0, 0, rfl, ⟨rfl, (show 0 ≤ 1 by omega), (show 3 < 14 → 0 = 0 by omega), (show 14 ≤ 3 → 0 = 1 by omega)⟩, by rw [ht]; exact hP9, hD9⟩, hS.F ht⟩) hS.2.2 dX7_has_16
    · skip
      have c_4 : ¬ 0 = 0 := fun z => c_4 ((nI_eq (a := 0) (b := 0) (by omega) (by omega)).mpr z)
      exact absurd c_4 (by decide)
  · skip
    refine lv_aload_n hx hb dX7_has_0 rfl (lv_at hl 0 rfl) ?_
    refine va_get (D := gD G) (ci := 12) (v := .int (nI 49152)) (C := RX7) (T := TX7) (N := 2) hx hb hts fwX7 hown hK hP 0 rfl rfl 0 (by decide) (hts _ q1031) (fun _ h9 => h9) rfl dX7_has_1 ?_
    refine lv_iload_n hx hb dX7_has_4 rfl (lv_at hl 1 rfl) ?_
    refine lv_ishr hx hb dX7_has_5 ?_
    refine lv_toe (show _ = nI 3072 by decide) ?_
    refine lv_iconst (v := nI 1) hx hb dX7_has_6 (by decide) ?_
    refine lv_iand hx hb dX7_has_7 ?_
    refine lv_toe (show _ = nI 0 by decide) ?_
    refine lv_if_eq (tgt := 15) hx hb dX7_has_8 (by decide) (fun c_5 => ?_) (fun c_5 => ?_)
    · skip
      have c_5 : 0 = 0 := (nI_eq (a := 0) (b := 0) (by omega) (by omega)).mp c_5
      refine lv_iconst (v := nI 0) hx hb dX7_has_15 (by decide) ?_
      have hP9 := hP.sub (ws' := [(cg, .inr (12, [.int (nI 49152), .int (nI 16)]))]) [0] rfl
      have hD9 := hD.sub (ws' := [(cg, .inr (12, [.int (nI 49152), .int (nI 16)]))]) [0] (by decide) rfl
      subst hQ
      exact W.zret (v := nI 0) hx hb hr (by decide) (fun t ht hW => ⟨⟨nI 0, 0, rfl, ⟨rfl, (show 0 ≤ 1 by omega), (show 4 < 14 → 0 = 0 by omega), (show 14 ≤ 4 → 0 = 1 by omega)⟩, by rw [ht]; exact hP9, hD9⟩, hS.F ht⟩) hS.2.2 dX7_has_16
    · skip
      have c_5 : ¬ 0 = 0 := fun z => c_5 ((nI_eq (a := 0) (b := 0) (by omega) (by omega)).mpr z)
      exact absurd c_5 (by decide)
  · skip
    refine lv_aload_n hx hb dX7_has_0 rfl (lv_at hl 0 rfl) ?_
    refine va_get (D := gD G) (ci := 12) (v := .int (nI 49152)) (C := RX7) (T := TX7) (N := 2) hx hb hts fwX7 hown hK hP 0 rfl rfl 0 (by decide) (hts _ q1031) (fun _ h9 => h9) rfl dX7_has_1 ?_
    refine lv_iload_n hx hb dX7_has_4 rfl (lv_at hl 1 rfl) ?_
    refine lv_ishr hx hb dX7_has_5 ?_
    refine lv_toe (show _ = nI 1536 by decide) ?_
    refine lv_iconst (v := nI 1) hx hb dX7_has_6 (by decide) ?_
    refine lv_iand hx hb dX7_has_7 ?_
    refine lv_toe (show _ = nI 0 by decide) ?_
    refine lv_if_eq (tgt := 15) hx hb dX7_has_8 (by decide) (fun c_6 => ?_) (fun c_6 => ?_)
    · skip
      have c_6 : 0 = 0 := (nI_eq (a := 0) (b := 0) (by omega) (by omega)).mp c_6
      refine lv_iconst (v := nI 0) hx hb dX7_has_15 (by decide) ?_
      have hP9 := hP.sub (ws' := [(cg, .inr (12, [.int (nI 49152), .int (nI 16)]))]) [0] rfl
      have hD9 := hD.sub (ws' := [(cg, .inr (12, [.int (nI 49152), .int (nI 16)]))]) [0] (by decide) rfl
      subst hQ
      exact W.zret (v := nI 0) hx hb hr (by decide) (fun t ht hW => ⟨⟨nI 0, 0, rfl, ⟨rfl, (show 0 ≤ 1 by omega), (show 5 < 14 → 0 = 0 by omega), (show 14 ≤ 5 → 0 = 1 by omega)⟩, by rw [ht]; exact hP9, hD9⟩, hS.F ht⟩) hS.2.2 dX7_has_16
    · skip
      have c_6 : ¬ 0 = 0 := fun z => c_6 ((nI_eq (a := 0) (b := 0) (by omega) (by omega)).mpr z)
      exact absurd c_6 (by decide)
  · skip
    refine lv_aload_n hx hb dX7_has_0 rfl (lv_at hl 0 rfl) ?_
    refine va_get (D := gD G) (ci := 12) (v := .int (nI 49152)) (C := RX7) (T := TX7) (N := 2) hx hb hts fwX7 hown hK hP 0 rfl rfl 0 (by decide) (hts _ q1031) (fun _ h9 => h9) rfl dX7_has_1 ?_
    refine lv_iload_n hx hb dX7_has_4 rfl (lv_at hl 1 rfl) ?_
    refine lv_ishr hx hb dX7_has_5 ?_
    refine lv_toe (show _ = nI 768 by decide) ?_
    refine lv_iconst (v := nI 1) hx hb dX7_has_6 (by decide) ?_
    refine lv_iand hx hb dX7_has_7 ?_
    refine lv_toe (show _ = nI 0 by decide) ?_
    refine lv_if_eq (tgt := 15) hx hb dX7_has_8 (by decide) (fun c_7 => ?_) (fun c_7 => ?_)
    · skip
      have c_7 : 0 = 0 := (nI_eq (a := 0) (b := 0) (by omega) (by omega)).mp c_7
      refine lv_iconst (v := nI 0) hx hb dX7_has_15 (by decide) ?_
      have hP9 := hP.sub (ws' := [(cg, .inr (12, [.int (nI 49152), .int (nI 16)]))]) [0] rfl
      have hD9 := hD.sub (ws' := [(cg, .inr (12, [.int (nI 49152), .int (nI 16)]))]) [0] (by decide) rfl
      subst hQ
      exact W.zret (v := nI 0) hx hb hr (by decide) (fun t ht hW => ⟨⟨nI 0, 0, rfl, ⟨rfl, (show 0 ≤ 1 by omega), (show 6 < 14 → 0 = 0 by omega), (show 14 ≤ 6 → 0 = 1 by omega)⟩, by rw [ht]; exact hP9, hD9⟩, hS.F ht⟩) hS.2.2 dX7_has_16
    · skip
      have c_7 : ¬ 0 = 0 := fun z => c_7 ((nI_eq (a := 0) (b := 0) (by omega) (by omega)).mpr z)
      exact absurd c_7 (by decide)
  · skip
    refine lv_aload_n hx hb dX7_has_0 rfl (lv_at hl 0 rfl) ?_
    refine va_get (D := gD G) (ci := 12) (v := .int (nI 49152)) (C := RX7) (T := TX7) (N := 2) hx hb hts fwX7 hown hK hP 0 rfl rfl 0 (by decide) (hts _ q1031) (fun _ h9 => h9) rfl dX7_has_1 ?_
    refine lv_iload_n hx hb dX7_has_4 rfl (lv_at hl 1 rfl) ?_
    refine lv_ishr hx hb dX7_has_5 ?_
    refine lv_toe (show _ = nI 384 by decide) ?_
    refine lv_iconst (v := nI 1) hx hb dX7_has_6 (by decide) ?_
    refine lv_iand hx hb dX7_has_7 ?_
    refine lv_toe (show _ = nI 0 by decide) ?_
    refine lv_if_eq (tgt := 15) hx hb dX7_has_8 (by decide) (fun c_8 => ?_) (fun c_8 => ?_)
    · skip
      have c_8 : 0 = 0 := (nI_eq (a := 0) (b := 0) (by omega) (by omega)).mp c_8
      refine lv_iconst (v := nI 0) hx hb dX7_has_15 (by decide) ?_
      have hP9 := hP.sub (ws' := [(cg, .inr (12, [.int (nI 49152), .int (nI 16)]))]) [0] rfl
      have hD9 := hD.sub (ws' := [(cg, .inr (12, [.int (nI 49152), .int (nI 16)]))]) [0] (by decide) rfl
      subst hQ
      exact W.zret (v := nI 0) hx hb hr (by decide) (fun t ht hW => ⟨⟨nI 0, 0, rfl, ⟨rfl, (show 0 ≤ 1 by omega), (show 7 < 14 → 0 = 0 by omega), (show 14 ≤ 7 → 0 = 1 by omega)⟩, by rw [ht]; exact hP9, hD9⟩, hS.F ht⟩) hS.2.2 dX7_has_16
    · skip
      have c_8 : ¬ 0 = 0 := fun z => c_8 ((nI_eq (a := 0) (b := 0) (by omega) (by omega)).mpr z)
      exact absurd c_8 (by decide)
  · skip
    refine lv_aload_n hx hb dX7_has_0 rfl (lv_at hl 0 rfl) ?_
    refine va_get (D := gD G) (ci := 12) (v := .int (nI 49152)) (C := RX7) (T := TX7) (N := 2) hx hb hts fwX7 hown hK hP 0 rfl rfl 0 (by decide) (hts _ q1031) (fun _ h9 => h9) rfl dX7_has_1 ?_
    refine lv_iload_n hx hb dX7_has_4 rfl (lv_at hl 1 rfl) ?_
    refine lv_ishr hx hb dX7_has_5 ?_
    refine lv_toe (show _ = nI 192 by decide) ?_
    refine lv_iconst (v := nI 1) hx hb dX7_has_6 (by decide) ?_
    refine lv_iand hx hb dX7_has_7 ?_
    refine lv_toe (show _ = nI 0 by decide) ?_
    refine lv_if_eq (tgt := 15) hx hb dX7_has_8 (by decide) (fun c_9 => ?_) (fun c_9 => ?_)
    · skip
      have c_9 : 0 = 0 := (nI_eq (a := 0) (b := 0) (by omega) (by omega)).mp c_9
      refine lv_iconst (v := nI 0) hx hb dX7_has_15 (by decide) ?_
      have hP9 := hP.sub (ws' := [(cg, .inr (12, [.int (nI 49152), .int (nI 16)]))]) [0] rfl
      have hD9 := hD.sub (ws' := [(cg, .inr (12, [.int (nI 49152), .int (nI 16)]))]) [0] (by decide) rfl
      subst hQ
      exact W.zret (v := nI 0) hx hb hr (by decide) (fun t ht hW => ⟨⟨nI 0, 0, rfl, ⟨rfl, (show 0 ≤ 1 by omega), (show 8 < 14 → 0 = 0 by omega), (show 14 ≤ 8 → 0 = 1 by omega)⟩, by rw [ht]; exact hP9, hD9⟩, hS.F ht⟩) hS.2.2 dX7_has_16
    · skip
      have c_9 : ¬ 0 = 0 := fun z => c_9 ((nI_eq (a := 0) (b := 0) (by omega) (by omega)).mpr z)
      exact absurd c_9 (by decide)
  · skip
    refine lv_aload_n hx hb dX7_has_0 rfl (lv_at hl 0 rfl) ?_
    refine va_get (D := gD G) (ci := 12) (v := .int (nI 49152)) (C := RX7) (T := TX7) (N := 2) hx hb hts fwX7 hown hK hP 0 rfl rfl 0 (by decide) (hts _ q1031) (fun _ h9 => h9) rfl dX7_has_1 ?_
    refine lv_iload_n hx hb dX7_has_4 rfl (lv_at hl 1 rfl) ?_
    refine lv_ishr hx hb dX7_has_5 ?_
    refine lv_toe (show _ = nI 96 by decide) ?_
    refine lv_iconst (v := nI 1) hx hb dX7_has_6 (by decide) ?_
    refine lv_iand hx hb dX7_has_7 ?_
    refine lv_toe (show _ = nI 0 by decide) ?_
    refine lv_if_eq (tgt := 15) hx hb dX7_has_8 (by decide) (fun c_10 => ?_) (fun c_10 => ?_)
    · skip
      have c_10 : 0 = 0 := (nI_eq (a := 0) (b := 0) (by omega) (by omega)).mp c_10
      refine lv_iconst (v := nI 0) hx hb dX7_has_15 (by decide) ?_
      have hP9 := hP.sub (ws' := [(cg, .inr (12, [.int (nI 49152), .int (nI 16)]))]) [0] rfl
      have hD9 := hD.sub (ws' := [(cg, .inr (12, [.int (nI 49152), .int (nI 16)]))]) [0] (by decide) rfl
      subst hQ
      exact W.zret (v := nI 0) hx hb hr (by decide) (fun t ht hW => ⟨⟨nI 0, 0, rfl, ⟨rfl, (show 0 ≤ 1 by omega), (show 9 < 14 → 0 = 0 by omega), (show 14 ≤ 9 → 0 = 1 by omega)⟩, by rw [ht]; exact hP9, hD9⟩, hS.F ht⟩) hS.2.2 dX7_has_16
    · skip
      have c_10 : ¬ 0 = 0 := fun z => c_10 ((nI_eq (a := 0) (b := 0) (by omega) (by omega)).mpr z)
      exact absurd c_10 (by decide)
  · skip
    refine lv_aload_n hx hb dX7_has_0 rfl (lv_at hl 0 rfl) ?_
    refine va_get (D := gD G) (ci := 12) (v := .int (nI 49152)) (C := RX7) (T := TX7) (N := 2) hx hb hts fwX7 hown hK hP 0 rfl rfl 0 (by decide) (hts _ q1031) (fun _ h9 => h9) rfl dX7_has_1 ?_
    refine lv_iload_n hx hb dX7_has_4 rfl (lv_at hl 1 rfl) ?_
    refine lv_ishr hx hb dX7_has_5 ?_
    refine lv_toe (show _ = nI 48 by decide) ?_
    refine lv_iconst (v := nI 1) hx hb dX7_has_6 (by decide) ?_
    refine lv_iand hx hb dX7_has_7 ?_
    refine lv_toe (show _ = nI 0 by decide) ?_
    refine lv_if_eq (tgt := 15) hx hb dX7_has_8 (by decide) (fun c_11 => ?_) (fun c_11 => ?_)
    · skip
      have c_11 : 0 = 0 := (nI_eq (a := 0) (b := 0) (by omega) (by omega)).mp c_11
      refine lv_iconst (v := nI 0) hx hb dX7_has_15 (by decide) ?_
      have hP9 := hP.sub (ws' := [(cg, .inr (12, [.int (nI 49152), .int (nI 16)]))]) [0] rfl
      have hD9 := hD.sub (ws' := [(cg, .inr (12, [.int (nI 49152), .int (nI 16)]))]) [0] (by decide) rfl
      subst hQ
      exact W.zret (v := nI 0) hx hb hr (by decide) (fun t ht hW => ⟨⟨nI 0, 0, rfl, ⟨rfl, (show 0 ≤ 1 by omega), (show 10 < 14 → 0 = 0 by omega), (show 14 ≤ 10 → 0 = 1 by omega)⟩, by rw [ht]; exact hP9, hD9⟩, hS.F ht⟩) hS.2.2 dX7_has_16
    · skip
      have c_11 : ¬ 0 = 0 := fun z => c_11 ((nI_eq (a := 0) (b := 0) (by omega) (by omega)).mpr z)
      exact absurd c_11 (by decide)
  · skip
    refine lv_aload_n hx hb dX7_has_0 rfl (lv_at hl 0 rfl) ?_
    refine va_get (D := gD G) (ci := 12) (v := .int (nI 49152)) (C := RX7) (T := TX7) (N := 2) hx hb hts fwX7 hown hK hP 0 rfl rfl 0 (by decide) (hts _ q1031) (fun _ h9 => h9) rfl dX7_has_1 ?_
    refine lv_iload_n hx hb dX7_has_4 rfl (lv_at hl 1 rfl) ?_
    refine lv_ishr hx hb dX7_has_5 ?_
    refine lv_toe (show _ = nI 24 by decide) ?_
    refine lv_iconst (v := nI 1) hx hb dX7_has_6 (by decide) ?_
    refine lv_iand hx hb dX7_has_7 ?_
    refine lv_toe (show _ = nI 0 by decide) ?_
    refine lv_if_eq (tgt := 15) hx hb dX7_has_8 (by decide) (fun c_12 => ?_) (fun c_12 => ?_)
    · skip
      have c_12 : 0 = 0 := (nI_eq (a := 0) (b := 0) (by omega) (by omega)).mp c_12
      refine lv_iconst (v := nI 0) hx hb dX7_has_15 (by decide) ?_
      have hP9 := hP.sub (ws' := [(cg, .inr (12, [.int (nI 49152), .int (nI 16)]))]) [0] rfl
      have hD9 := hD.sub (ws' := [(cg, .inr (12, [.int (nI 49152), .int (nI 16)]))]) [0] (by decide) rfl
      subst hQ
      exact W.zret (v := nI 0) hx hb hr (by decide) (fun t ht hW => ⟨⟨nI 0, 0, rfl, ⟨rfl, (show 0 ≤ 1 by omega), (show 11 < 14 → 0 = 0 by omega), (show 14 ≤ 11 → 0 = 1 by omega)⟩, by rw [ht]; exact hP9, hD9⟩, hS.F ht⟩) hS.2.2 dX7_has_16
    · skip
      have c_12 : ¬ 0 = 0 := fun z => c_12 ((nI_eq (a := 0) (b := 0) (by omega) (by omega)).mpr z)
      exact absurd c_12 (by decide)
  · skip
    refine lv_aload_n hx hb dX7_has_0 rfl (lv_at hl 0 rfl) ?_
    refine va_get (D := gD G) (ci := 12) (v := .int (nI 49152)) (C := RX7) (T := TX7) (N := 2) hx hb hts fwX7 hown hK hP 0 rfl rfl 0 (by decide) (hts _ q1031) (fun _ h9 => h9) rfl dX7_has_1 ?_
    refine lv_iload_n hx hb dX7_has_4 rfl (lv_at hl 1 rfl) ?_
    refine lv_ishr hx hb dX7_has_5 ?_
    refine lv_toe (show _ = nI 12 by decide) ?_
    refine lv_iconst (v := nI 1) hx hb dX7_has_6 (by decide) ?_
    refine lv_iand hx hb dX7_has_7 ?_
    refine lv_toe (show _ = nI 0 by decide) ?_
    refine lv_if_eq (tgt := 15) hx hb dX7_has_8 (by decide) (fun c_13 => ?_) (fun c_13 => ?_)
    · skip
      have c_13 : 0 = 0 := (nI_eq (a := 0) (b := 0) (by omega) (by omega)).mp c_13
      refine lv_iconst (v := nI 0) hx hb dX7_has_15 (by decide) ?_
      have hP9 := hP.sub (ws' := [(cg, .inr (12, [.int (nI 49152), .int (nI 16)]))]) [0] rfl
      have hD9 := hD.sub (ws' := [(cg, .inr (12, [.int (nI 49152), .int (nI 16)]))]) [0] (by decide) rfl
      subst hQ
      exact W.zret (v := nI 0) hx hb hr (by decide) (fun t ht hW => ⟨⟨nI 0, 0, rfl, ⟨rfl, (show 0 ≤ 1 by omega), (show 12 < 14 → 0 = 0 by omega), (show 14 ≤ 12 → 0 = 1 by omega)⟩, by rw [ht]; exact hP9, hD9⟩, hS.F ht⟩) hS.2.2 dX7_has_16
    · skip
      have c_13 : ¬ 0 = 0 := fun z => c_13 ((nI_eq (a := 0) (b := 0) (by omega) (by omega)).mpr z)
      exact absurd c_13 (by decide)
  · skip
    refine lv_aload_n hx hb dX7_has_0 rfl (lv_at hl 0 rfl) ?_
    refine va_get (D := gD G) (ci := 12) (v := .int (nI 49152)) (C := RX7) (T := TX7) (N := 2) hx hb hts fwX7 hown hK hP 0 rfl rfl 0 (by decide) (hts _ q1031) (fun _ h9 => h9) rfl dX7_has_1 ?_
    refine lv_iload_n hx hb dX7_has_4 rfl (lv_at hl 1 rfl) ?_
    refine lv_ishr hx hb dX7_has_5 ?_
    refine lv_toe (show _ = nI 6 by decide) ?_
    refine lv_iconst (v := nI 1) hx hb dX7_has_6 (by decide) ?_
    refine lv_iand hx hb dX7_has_7 ?_
    refine lv_toe (show _ = nI 0 by decide) ?_
    refine lv_if_eq (tgt := 15) hx hb dX7_has_8 (by decide) (fun c_14 => ?_) (fun c_14 => ?_)
    · skip
      have c_14 : 0 = 0 := (nI_eq (a := 0) (b := 0) (by omega) (by omega)).mp c_14
      refine lv_iconst (v := nI 0) hx hb dX7_has_15 (by decide) ?_
      have hP9 := hP.sub (ws' := [(cg, .inr (12, [.int (nI 49152), .int (nI 16)]))]) [0] rfl
      have hD9 := hD.sub (ws' := [(cg, .inr (12, [.int (nI 49152), .int (nI 16)]))]) [0] (by decide) rfl
      subst hQ
      exact W.zret (v := nI 0) hx hb hr (by decide) (fun t ht hW => ⟨⟨nI 0, 0, rfl, ⟨rfl, (show 0 ≤ 1 by omega), (show 13 < 14 → 0 = 0 by omega), (show 14 ≤ 13 → 0 = 1 by omega)⟩, by rw [ht]; exact hP9, hD9⟩, hS.F ht⟩) hS.2.2 dX7_has_16
    · skip
      have c_14 : ¬ 0 = 0 := fun z => c_14 ((nI_eq (a := 0) (b := 0) (by omega) (by omega)).mpr z)
      exact absurd c_14 (by decide)
  · skip
    refine lv_aload_n hx hb dX7_has_0 rfl (lv_at hl 0 rfl) ?_
    refine va_get (D := gD G) (ci := 12) (v := .int (nI 49152)) (C := RX7) (T := TX7) (N := 2) hx hb hts fwX7 hown hK hP 0 rfl rfl 0 (by decide) (hts _ q1031) (fun _ h9 => h9) rfl dX7_has_1 ?_
    refine lv_iload_n hx hb dX7_has_4 rfl (lv_at hl 1 rfl) ?_
    refine lv_ishr hx hb dX7_has_5 ?_
    refine lv_toe (show _ = nI 3 by decide) ?_
    refine lv_iconst (v := nI 1) hx hb dX7_has_6 (by decide) ?_
    refine lv_iand hx hb dX7_has_7 ?_
    refine lv_toe (show _ = nI 1 by decide) ?_
    refine lv_if_eq (tgt := 15) hx hb dX7_has_8 (by decide) (fun c_15 => ?_) (fun c_15 => ?_)
    · skip
      have c_15 : 1 = 0 := (nI_eq (a := 1) (b := 0) (by omega) (by omega)).mp c_15
      exact absurd c_15 (by decide)
    · skip
      have c_15 : ¬ 1 = 0 := fun z => c_15 ((nI_eq (a := 1) (b := 0) (by omega) (by omega)).mpr z)
      refine lv_iconst (v := nI 1) hx hb dX7_has_11 (by decide) ?_
      refine lv_goto (tgt := 16) hx hb dX7_has_12 (by decide) ?_
      have hP9 := hP.sub (ws' := [(cg, .inr (12, [.int (nI 49152), .int (nI 16)]))]) [0] rfl
      have hD9 := hD.sub (ws' := [(cg, .inr (12, [.int (nI 49152), .int (nI 16)]))]) [0] (by decide) rfl
      subst hQ
      exact W.zret (v := nI 1) hx hb hr (by decide) (fun t ht hW => ⟨⟨nI 1, 1, rfl, ⟨rfl, (show 1 ≤ 1 by omega), (show 14 < 14 → 1 = 0 by omega), (show 14 ≤ 14 → 1 = 1 by omega)⟩, by rw [ht]; exact hP9, hD9⟩, hS.F ht⟩) hS.2.2 dX7_has_16
  · skip
    refine lv_aload_n hx hb dX7_has_0 rfl (lv_at hl 0 rfl) ?_
    refine va_get (D := gD G) (ci := 12) (v := .int (nI 49152)) (C := RX7) (T := TX7) (N := 2) hx hb hts fwX7 hown hK hP 0 rfl rfl 0 (by decide) (hts _ q1031) (fun _ h9 => h9) rfl dX7_has_1 ?_
    refine lv_iload_n hx hb dX7_has_4 rfl (lv_at hl 1 rfl) ?_
    refine lv_ishr hx hb dX7_has_5 ?_
    refine lv_toe (show _ = nI 1 by decide) ?_
    refine lv_iconst (v := nI 1) hx hb dX7_has_6 (by decide) ?_
    refine lv_iand hx hb dX7_has_7 ?_
    refine lv_toe (show _ = nI 1 by decide) ?_
    refine lv_if_eq (tgt := 15) hx hb dX7_has_8 (by decide) (fun c_16 => ?_) (fun c_16 => ?_)
    · skip
      have c_16 : 1 = 0 := (nI_eq (a := 1) (b := 0) (by omega) (by omega)).mp c_16
      exact absurd c_16 (by decide)
    · skip
      have c_16 : ¬ 1 = 0 := fun z => c_16 ((nI_eq (a := 1) (b := 0) (by omega) (by omega)).mpr z)
      refine lv_iconst (v := nI 1) hx hb dX7_has_11 (by decide) ?_
      refine lv_goto (tgt := 16) hx hb dX7_has_12 (by decide) ?_
      have hP9 := hP.sub (ws' := [(cg, .inr (12, [.int (nI 49152), .int (nI 16)]))]) [0] rfl
      have hD9 := hD.sub (ws' := [(cg, .inr (12, [.int (nI 49152), .int (nI 16)]))]) [0] (by decide) rfl
      subst hQ
      exact W.zret (v := nI 1) hx hb hr (by decide) (fun t ht hW => ⟨⟨nI 1, 1, rfl, ⟨rfl, (show 1 ≤ 1 by omega), (show 15 < 14 → 1 = 0 by omega), (show 14 ≤ 15 → 1 = 1 by omega)⟩, by rw [ht]; exact hP9, hD9⟩, hS.F ht⟩) hS.2.2 dX7_has_16
set_option maxHeartbeats 4000000 in
set_option maxRecDepth 100000 in
theorem c_fits_16 (l : Launch) (G : GG) (cg : Nat) (lf : Nat) (va : Nat) (h : Nat → Int32) (ca : Nat) (f : Nat → Int32) (hlf : 0 < lf) (hlf16 : lf ≤ 16) : Mi l G yX7_fits cX7_fits 8 (some .boolean) ({ frames := 0, cells := 0, slots := 0, locals := 0 } : Room) [.ref cg, .int (nI 16), .int (nI lf), .ref va, .ref ca] [(cg, .inr (12, [.int (nI 49152), .int (nI 16)])), (va, .inl (gyI G, 16, .inl h)), (ca, .inl (gyI G, 16, .inl f))] (fun (r : Int32) (u : (Nat → Int32)) => r = nI 0) (fun (u : (Nat → Int32)) => [(cg, .inr (12, [.int (nI 49152), .int (nI 16)])), (va, .inl (gyI G, 16, .inl u)), (ca, .inl (gyI G, 16, .inl f))]) := by
  intro sz
  refine Met.ofW (cc := cX7_fits) (maxL := 8) (ret := (some .boolean)) (by decide) rfl ?_
  intro p e s m args below meth c s₁ B9 hml hv
  obtain ⟨rfl, hsz, hP, hK, hD0, hE⟩ := hv
  have hx := B9.exec
  have hb := B9.bytes
  have hr := B9.returns
  have hts : ∀ w ∈ WW, w.before ([.ref cg, .int (nI 16), .int (nI lf), .ref va, .ref ca] : List Value).toArray s = true := fun w h => atoms_spec (ws := .code yX7_fits cX7_fits 8 (some .boolean) :: WW) B9.pre w (List.mem_cons_of_mem _ h)
  have hown : s.vm.findClass RX7 = some m.cls := findClass_of_methodNamed B9.named
  subst hsz
  have hD := hD0.self (sz := s.heap.size)
  generalize hAe : va_A [(cg, .inr (12, [.int (nI 49152), .int (nI 16)])), (va, .inl (gyI G, 16, .inl h)), (ca, .inl (gyI G, 16, .inl f))] s.heap.size = A at hD hE ⊢
  have hA : ∀ q : Nat, s.heap.size ≤ q → A q := fun q h => by rw [← hAe]; exact Or.inr h
  have hl := lv_entry ([.ref cg, .int (nI 16), .int (nI lf), .ref va, .ref ca]) (n := 8) (Nat.le_of_ble_eq_true rfl)
  rw [lg_entry_eq]
  generalize (lg_sl ([.ref cg, .int (nI 16), .int (nI lf), .ref va, .ref ca]) ++ List.replicate (8 - (lg_sl ([.ref cg, .int (nI 16), .int (nI lf), .ref va, .ref ca])).length) Slot.unset).toArray = ls at hl ⊢
  have hl : lv_has ls 8 [(0, .ref cg), (1, .int (nI 16)), (2, .int (nI lf)), (3, .ref va), (4, .ref ca)] := hl
  refine qgen (fun Q hQ => ?_)
  refine hgen (fun H locs hP hD hS => ?_) hP hD
  refine lv_iload_n hx hb dX7_fits_0 rfl (lv_at hl 1 rfl) ?_
  refine lv_bipush (v := nI 16) hx hb dX7_fits_1 (by decide) ?_
  refine lv_icmp_ne (tgt := 16) hx hb dX7_fits_3 (by decide) (fun c_1 => ?_) (fun c_1 => ?_)
  · skip
    have c_1 : ¬ 16 = 16 := fun z => c_1 ((nI_eq (a := 16) (b := 16) (by omega) (by omega)).mpr z)
    exact absurd c_1 (by decide)
  · skip
    have c_1 : 16 = 16 := (nI_eq (a := 16) (b := 16) (by omega) (by omega)).mp c_1
    refine lv_iload_n hx hb dX7_fits_6 rfl (lv_at hl 2 rfl) ?_
    refine lv_if_ne (tgt := 14) hx hb dX7_fits_7 (by decide) (fun c_2 => ?_) (fun c_2 => ?_)
    · skip
      have c_2 : ¬ lf = 0 := fun z => c_2 ((nI_eq (a := lf) (b := 0) (by omega) (by omega)).mpr z)
      refine lv_iconst (v := nI 0) hx hb dX7_fits_14 (by decide) ?_
      have hP9 := hP.sub (ws' := [(cg, .inr (12, [.int (nI 49152), .int (nI 16)])), (va, .inl (gyI G, 16, .inl h)), (ca, .inl (gyI G, 16, .inl f))]) [0, 1, 2] rfl
      have hD9 := hD.sub (ws' := [(cg, .inr (12, [.int (nI 49152), .int (nI 16)])), (va, .inl (gyI G, 16, .inl h)), (ca, .inl (gyI G, 16, .inl f))]) [0, 1, 2] (by decide) rfl
      subst hQ
      exact W.zret (v := nI 0) hx hb hr (by decide) (fun t ht hW => ⟨⟨nI 0, h, rfl, rfl, by rw [ht]; exact hP9, hD9⟩, hS.F ht⟩) hS.2.2 dX7_fits_15
    · skip
      have c_2 : lf = 0 := (nI_eq (a := lf) (b := 0) (by omega) (by omega)).mp c_2
      exfalso; omega
set_option maxHeartbeats 4000000 in
set_option maxRecDepth 100000 in
theorem c_fits_15 (l : Launch) (G : GG) (cg : Nat) (lf : Nat) (va : Nat) (h : Nat → Int32) (ca : Nat) (f : Nat → Int32) (hlf : 4 < lf) (hlf16 : lf ≤ 16) : Mi l G yX7_fits cX7_fits 8 (some .boolean) ({ frames := 1, cells := 0, slots := 0, locals := 27 } : Room) [.ref cg, .int (nI 15), .int (nI lf), .ref va, .ref ca] [(cg, .inr (12, [.int (nI 49152), .int (nI 16)])), (va, .inl (gyI G, 16, .inl h)), (ca, .inl (gyI G, 16, .inl f))] (fun (r : Int32) (u : (Nat → Int32)) => r = nI 0) (fun (u : (Nat → Int32)) => [(cg, .inr (12, [.int (nI 49152), .int (nI 16)])), (va, .inl (gyI G, 16, .inl u)), (ca, .inl (gyI G, 16, .inl f))]) := by
  intro sz
  refine Met.ofW (cc := cX7_fits) (maxL := 8) (ret := (some .boolean)) (by decide) rfl ?_
  intro p e s m args below meth c s₁ B9 hml hv
  obtain ⟨rfl, hsz, hP, hK, hD0, hE⟩ := hv
  have hx := B9.exec
  have hb := B9.bytes
  have hr := B9.returns
  have hts : ∀ w ∈ WW, w.before ([.ref cg, .int (nI 15), .int (nI lf), .ref va, .ref ca] : List Value).toArray s = true := fun w h => atoms_spec (ws := .code yX7_fits cX7_fits 8 (some .boolean) :: WW) B9.pre w (List.mem_cons_of_mem _ h)
  have hown : s.vm.findClass RX7 = some m.cls := findClass_of_methodNamed B9.named
  subst hsz
  have hD := hD0.self (sz := s.heap.size)
  generalize hAe : va_A [(cg, .inr (12, [.int (nI 49152), .int (nI 16)])), (va, .inl (gyI G, 16, .inl h)), (ca, .inl (gyI G, 16, .inl f))] s.heap.size = A at hD hE ⊢
  have hA : ∀ q : Nat, s.heap.size ≤ q → A q := fun q h => by rw [← hAe]; exact Or.inr h
  have hl := lv_entry ([.ref cg, .int (nI 15), .int (nI lf), .ref va, .ref ca]) (n := 8) (Nat.le_of_ble_eq_true rfl)
  rw [lg_entry_eq]
  generalize (lg_sl ([.ref cg, .int (nI 15), .int (nI lf), .ref va, .ref ca]) ++ List.replicate (8 - (lg_sl ([.ref cg, .int (nI 15), .int (nI lf), .ref va, .ref ca])).length) Slot.unset).toArray = ls at hl ⊢
  have hl : lv_has ls 8 [(0, .ref cg), (1, .int (nI 15)), (2, .int (nI lf)), (3, .ref va), (4, .ref ca)] := hl
  refine qgen (fun Q hQ => ?_)
  refine hgen (fun H locs hP hD hS => ?_) hP hD
  refine lv_iload_n hx hb dX7_fits_0 rfl (lv_at hl 1 rfl) ?_
  refine lv_bipush (v := nI 16) hx hb dX7_fits_1 (by decide) ?_
  refine lv_icmp_ne (tgt := 16) hx hb dX7_fits_3 (by decide) (fun c_1 => ?_) (fun c_1 => ?_)
  · skip
    have c_1 : ¬ 15 = 16 := fun z => c_1 ((nI_eq (a := 15) (b := 16) (by omega) (by omega)).mpr z)
    refine lv_aload_n hx hb dX7_fits_16 rfl (lv_at hl 0 rfl) ?_
    refine lv_iload_n hx hb dX7_fits_17 rfl (lv_at hl 1 rfl) ?_
    refine fin_i hP hD hS hA [0] [1, 2] (wr := [(va, .inl (gyI G, 16, .inl h)), (ca, .inl (gyI G, 16, .inl f))]) rfl rfl (by decide) (by decide) (va_runV (As := [.int (nI 15)]) (rest := []) ⟨hx, hb, hml, hown, hts⟩ (c_X7_has l G cg 15 (by omega) H.size) (cwV 1 hts (gV q1172 q1165 q1166 q73 q1167) rfl rfl rfl (by decide +kernel) ⟨Nat.le_of_ble_eq_true rfl, Nat.le_of_ble_eq_true rfl⟩) (preV (q0 := 0) (ci := 12) hK hE hP hD hS hA [0] rfl (by decide) rfl rfl) rfl rfl hl.1 rfl (lv_room (Nat.le_of_ble_eq_true rfl)) dX7_fits_18 ⟨Nat.le_of_ble_eq_true rfl, Nat.le_of_ble_eq_true rfl⟩) (fun r_4 u9 hw_3 H locs hP hD hS => ?_)
    obtain ⟨bn_2, rfl⟩ : ∃ z, z = u9 := ⟨_, rfl⟩
    obtain ⟨rfl, hbn_5, hlo_6, hhi_7⟩ := hw_3
    have hbn_5 : bn_2 ≤ 1 := hbn_5
    have hlo_6 : 15 < 14 → bn_2 = 0 := hlo_6
    have hhi_7 : 14 ≤ 15 → bn_2 = 1 := hhi_7
    have hP : va_P (gD G) vwCl [(va, .inl (gyI G, 16, .inl h)), (ca, .inl (gyI G, 16, .inl f)), (cg, .inr (12, [.int (nI 49152), .int (nI 16)]))] H := hP
    have hD : va_D A [(va, .inl (gyI G, 16, .inl h)), (ca, .inl (gyI G, 16, .inl f)), (cg, .inr (12, [.int (nI 49152), .int (nI 16)]))] := hD
    refine lv_if_eq (tgt := 30) hx hb dX7_fits_21 (by decide) (fun c_8 => ?_) (fun c_8 => ?_)
    · skip
      have c_8 : bn_2 = 0 := (nI_eq (a := bn_2) (b := 0) (by omega) (by omega)).mp c_8
      exfalso; omega
    · skip
      have c_8 : ¬ bn_2 = 0 := fun z => c_8 ((nI_eq (a := bn_2) (b := 0) (by omega) (by omega)).mpr z)
      refine lv_aload_n hx hb dX7_fits_24 rfl (lv_at hl 3 rfl) ?_
      refine lv_iload_n hx hb dX7_fits_25 rfl (lv_at hl 1 rfl) ?_
      refine va_iald (D := gD G) (cA := gyI G) (n := 16) (f := h) hx hb hK hP 0 0 rfl rfl (vp_in_nI (n := 15) (N := 16) (by omega) (by omega)) dX7_fits_26 ?_
      refine lv_topi (fun w_9 ew_9 => ?_)
      refine lv_if_le (tgt := 42) hx hb dX7_fits_27 (by decide) (fun c_10 => ?_) (fun c_10 => ?_)
      · skip
        refine lv_iconst (v := nI 1) hx hb dX7_fits_42 (by decide) ?_
        refine lv_istore (lv' := [(5, .int (nI 1)), (0, .ref cg), (1, .int (nI 15)), (2, .int (nI lf)), (3, .ref va), (4, .ref ca)]) hx hb dX7_fits_43 hl (by decide) rfl (fun ls hl => ?_)
        have cut_45_1 : ∀ (n9 : Nat) (x : Nat) (h3 : Nat → Int32) (hx1 : 1 ≤ x) (hx5 : x ≤ 5) (hm9 : 5 - x < n9) (H : Heap) (locs : List Loc), va_P (gD G) vwCl [(cg, .inr (12, [.int (nI 49152), .int (nI 16)])), (va, .inl (gyI G, 16, .inl h3)), (ca, .inl (gyI G, 16, .inl f))] H → va_D A [(cg, .inr (12, [.int (nI 49152), .int (nI 16)])), (va, .inl (gyI G, 16, .inl h3)), (ca, .inl (gyI G, 16, .inl f))] → va_S A s.heap H locs → ∀ (ls : Array Slot), lv_has ls 8 [(0, .ref cg), (1, .int (nI 15)), (2, .int (nI lf)), (3, .ref va), (4, .ref ca), (5, .int (nI x))] → W p l e ({ frames := 1, cells := 0, slots := 0, locals := 27 } : Room) s m ([.ref cg, .int (nI 15), .int (nI lf), .ref va, .ref ca] : List Value).toArray below meth c H locs 0 0 Q (F0 m 45 ls []) := by
          intro n9
          induction n9 with
          | zero =>
            intro x h3 hx1 hx5 hm9
            exact absurd hm9 (Nat.not_lt_zero _)
          | succ n9 ih_45_1 =>
            intro x h3 hx1 hx5 hm9 H locs hP hD hS ls hl
            refine lv_iload hx hb dX7_fits_45 (lv_at hl 5 rfl) ?_
            refine lv_iconst (v := nI 4) hx hb dX7_fits_47 (by decide) ?_
            refine lv_icmp_gt (tgt := 161) hx hb dX7_fits_48 (by decide) (fun c_11 => ?_) (fun c_11 => ?_)
            · skip
              have c_11 : 4 < x := (nI_ltI (a := 4) (b := x) (by omega) (by omega)).mp c_11
              refine lv_iconst (v := nI 0) hx hb dX7_fits_161 (by decide) ?_
              have hP9 := hP.sub (ws' := [(cg, .inr (12, [.int (nI 49152), .int (nI 16)])), (va, .inl (gyI G, 16, .inl h3)), (ca, .inl (gyI G, 16, .inl f))]) [0, 1, 2] rfl
              have hD9 := hD.sub (ws' := [(cg, .inr (12, [.int (nI 49152), .int (nI 16)])), (va, .inl (gyI G, 16, .inl h3)), (ca, .inl (gyI G, 16, .inl f))]) [0, 1, 2] (by decide) rfl
              subst hQ
              exact W.zret (v := nI 0) hx hb hr (by decide) (fun t ht hW => ⟨⟨nI 0, h3, rfl, rfl, by rw [ht]; exact hP9, hD9⟩, hS.F ht⟩) hS.2.2 dX7_fits_162
            · skip
              have c_11 : ¬ 4 < x := fun z => c_11 ((nI_ltI (a := 4) (b := x) (by omega) (by omega)).mpr z)
              refine lv_aload hx hb dX7_fits_51 (lv_at hl 4 rfl) ?_
              refine lv_iload_n hx hb dX7_fits_53 rfl (lv_at hl 1 rfl) ?_
              refine va_iald (D := gD G) (cA := gyI G) (n := 16) (f := f) hx hb hK hP 2 0 rfl rfl (vp_in_nI (n := 15) (N := 16) (by omega) (by omega)) dX7_fits_54 ?_
              refine lv_topi (fun w_12 ew_12 => ?_)
              refine lv_iload hx hb dX7_fits_55 (lv_at hl 5 rfl) ?_
              refine fin_i hP hD hS hA [] [0, 1, 2] (wr := [(cg, .inr (12, [.int (nI 49152), .int (nI 16)])), (va, .inl (gyI G, 16, .inl h3)), (ca, .inl (gyI G, 16, .inl f))]) rfl rfl (by decide) (by decide) (va_runSN (As := [.int w_12, .int (nI x)]) (rest := []) ⟨hx, hb, hml, hown, hts⟩ (c_isIn_any l G w_12 (nI x) H.size) ⟨(va_cnB 2 hts (gI q1078) rfl rfl rfl (hE.1.1 _ nq1174) (hts _ q52) (by decide +kernel) ⟨Nat.le_of_ble_eq_true rfl, Nat.le_of_ble_eq_true rfl⟩), hts _ q1077, trivial⟩ (preS hK hE hP hD hS hA [] rfl (by decide)) rfl rfl hl.1 rfl (lv_room (Nat.le_of_ble_eq_true rfl)) dX7_fits_57 ⟨Nat.le_of_ble_eq_true rfl, Nat.le_of_ble_eq_true rfl⟩) (fun r_14 u9 hw_13 H locs hP hD hS => ?_)
              have hP : va_P (gD G) vwCl [(cg, .inr (12, [.int (nI 49152), .int (nI 16)])), (va, .inl (gyI G, 16, .inl h3)), (ca, .inl (gyI G, 16, .inl f))] H := hP
              have hD : va_D A [(cg, .inr (12, [.int (nI 49152), .int (nI 16)])), (va, .inl (gyI G, 16, .inl h3)), (ca, .inl (gyI G, 16, .inl f))] := hD
              refine lv_istore (lv' := [(6, .int r_14), (0, .ref cg), (1, .int (nI 15)), (2, .int (nI lf)), (3, .ref va), (4, .ref ca), (5, .int (nI x))]) hx hb dX7_fits_60 hl (by decide) rfl (fun ls hl => ?_)
              refine lv_iconst (v := nI 0) hx hb dX7_fits_62 (by decide) ?_
              refine lv_istore (lv' := [(7, .int (nI 0)), (6, .int r_14), (0, .ref cg), (1, .int (nI 15)), (2, .int (nI lf)), (3, .ref va), (4, .ref ca), (5, .int (nI x))]) hx hb dX7_fits_63 hl (by decide) rfl (fun ls hl => ?_)
              have cut_65_2 : ∀ (n9 : Nat) (y : Int32) (i : Nat) (hi : i ≤ 16) (hm9 : 16 - i < n9) (H : Heap) (locs : List Loc), va_P (gD G) vwCl [(cg, .inr (12, [.int (nI 49152), .int (nI 16)])), (va, .inl (gyI G, 16, .inl h3)), (ca, .inl (gyI G, 16, .inl f))] H → va_D A [(cg, .inr (12, [.int (nI 49152), .int (nI 16)])), (va, .inl (gyI G, 16, .inl h3)), (ca, .inl (gyI G, 16, .inl f))] → va_S A s.heap H locs → ∀ (ls : Array Slot), lv_has ls 8 [(0, .ref cg), (1, .int (nI 15)), (2, .int (nI lf)), (3, .ref va), (4, .ref ca), (5, .int (nI x)), (6, .int y), (7, .int (nI i))] → W p l e ({ frames := 1, cells := 0, slots := 0, locals := 27 } : Room) s m ([.ref cg, .int (nI 15), .int (nI lf), .ref va, .ref ca] : List Value).toArray below meth c H locs 0 0 Q (F0 m 65 ls []) := by
                intro n9
                induction n9 with
                | zero =>
                  intro y i hi hm9
                  exact absurd hm9 (Nat.not_lt_zero _)
                | succ n9 ih_65_2 =>
                  intro y i hi hm9 H locs hP hD hS ls hl
                  refine lv_iload hx hb dX7_fits_65 (lv_at hl 7 rfl) ?_
                  refine lv_bipush (v := nI 16) hx hb dX7_fits_67 (by decide) ?_
                  refine lv_icmp_ge (tgt := 115) hx hb dX7_fits_69 (by decide) (fun c_15 => ?_) (fun c_15 => ?_)
                  · skip
                    have c_15 : 16 ≤ i := (nI_leI (a := 16) (b := i) (by omega) (by omega)).mp c_15
                    refine lv_iload hx hb dX7_fits_115 (lv_at hl 6 rfl) ?_
                    refine lv_if_ne (tgt := 123) hx hb dX7_fits_117 (by decide) (fun c_16 => ?_) (fun c_16 => ?_)
                    · skip
                      refine lv_aload_n hx hb dX7_fits_123 rfl (lv_at hl 3 rfl) ?_
                      refine lv_iload_n hx hb dX7_fits_124 rfl (lv_at hl 1 rfl) ?_
                      refine lv_iload hx hb dX7_fits_125 (lv_at hl 5 rfl) ?_
                      refine va_iast (D := gD G) (cA := gyI G) (n := 16) (f := h3) hx hb hK hP hD hS 1 0 rfl rfl (vp_in_nI (n := 15) (N := 16) (by omega) (by omega)) dX7_fits_127 (fun H locs hP hD hS => ?_)
                      generalize upd h3 (nI 15).toNatClampNeg (nI x) = f_17 at hP hD
                      have hP : va_P (gD G) vwCl [(cg, .inr (12, [.int (nI 49152), .int (nI 16)])), (va, .inl (gyI G, 16, .inl f_17)), (ca, .inl (gyI G, 16, .inl f))] H := hP
                      have hD : va_D A [(cg, .inr (12, [.int (nI 49152), .int (nI 16)])), (va, .inl (gyI G, 16, .inl f_17)), (ca, .inl (gyI G, 16, .inl f))] := hD
                      refine lv_aload_n hx hb dX7_fits_128 rfl (lv_at hl 0 rfl) ?_
                      refine lv_iload_n hx hb dX7_fits_129 rfl (lv_at hl 1 rfl) ?_
                      refine lv_iconst (v := nI 1) hx hb dX7_fits_130 (by decide) ?_
                      refine lv_iadd hx hb dX7_fits_131 ?_
                      refine lv_toe (show _ = nI 16 by decide) ?_
                      refine lv_iload_n hx hb dX7_fits_132 rfl (lv_at hl 2 rfl) ?_
                      refine lv_iload hx hb dX7_fits_133 (lv_at hl 5 rfl) ?_
                      refine lv_isub hx hb dX7_fits_135 ?_
                      refine lv_toe (pk_sub (a := lf) (b := x) (by omega)) ?_
                      refine lv_aload_n hx hb dX7_fits_136 rfl (lv_at hl 3 rfl) ?_
                      refine lv_aload hx hb dX7_fits_137 (lv_at hl 4 rfl) ?_
                      refine fin_i hP hD hS hA [0, 1, 2] [] (wr := []) rfl rfl (by decide) (by decide) (va_runV (As := [.int (nI 16), .int (nI (lf - x)), .ref va, .ref ca]) (rest := []) ⟨hx, hb, hml, hown, hts⟩ (c_fits_16 l G cg (lf - x) va f_17 ca f (by omega) (by omega) H.size) (cwV 4 hts (gV q1173 q1169 q1170 q73 q1171) rfl rfl rfl (by decide +kernel) ⟨Nat.le_of_ble_eq_true rfl, Nat.le_of_ble_eq_true rfl⟩) (preV (q0 := 0) (ci := 12) hK hE hP hD hS hA [0, 1, 2] rfl (by decide) rfl rfl) rfl rfl hl.1 rfl (lv_room (Nat.le_of_ble_eq_true rfl)) dX7_fits_139 ⟨Nat.le_of_ble_eq_true rfl, Nat.le_of_ble_eq_true rfl⟩) (fun r_20 u9 hw_19 H locs hP hD hS => ?_)
                      obtain ⟨h2_18, rfl⟩ : ∃ z, z = u9 := ⟨_, rfl⟩
                      subst hw_19
                      have hP : va_P (gD G) vwCl [(cg, .inr (12, [.int (nI 49152), .int (nI 16)])), (va, .inl (gyI G, 16, .inl h2_18)), (ca, .inl (gyI G, 16, .inl f))] H := hP
                      have hD : va_D A [(cg, .inr (12, [.int (nI 49152), .int (nI 16)])), (va, .inl (gyI G, 16, .inl h2_18)), (ca, .inl (gyI G, 16, .inl f))] := hD
                      refine lv_istore (lv' := [(7, .int (nI 0)), (0, .ref cg), (1, .int (nI 15)), (2, .int (nI lf)), (3, .ref va), (4, .ref ca), (5, .int (nI x)), (6, .int y)]) hx hb dX7_fits_142 hl (by decide) rfl (fun ls hl => ?_)
                      refine lv_aload_n hx hb dX7_fits_144 rfl (lv_at hl 4 rfl) ?_
                      refine lv_iload_n hx hb dX7_fits_145 rfl (lv_at hl 2 rfl) ?_
                      refine lv_iconst (v := nI 0) hx hb dX7_fits_146 (by decide) ?_
                      refine va_iast (D := gD G) (cA := gyI G) (n := 16) (f := h2_18) hx hb hK hP hD hS 1 0 rfl rfl (vp_in_nI (n := 15) (N := 16) (by omega) (by omega)) dX7_fits_147 (fun H locs hP hD hS => ?_)
                      generalize upd h2_18 (nI 15).toNatClampNeg (nI 0) = f_21 at hP hD
                      have hP : va_P (gD G) vwCl [(cg, .inr (12, [.int (nI 49152), .int (nI 16)])), (va, .inl (gyI G, 16, .inl f_21)), (ca, .inl (gyI G, 16, .inl f))] H := hP
                      have hD : va_D A [(cg, .inr (12, [.int (nI 49152), .int (nI 16)])), (va, .inl (gyI G, 16, .inl f_21)), (ca, .inl (gyI G, 16, .inl f))] := hD
                      refine lv_iload hx hb dX7_fits_148 (lv_at hl 0 rfl) ?_
                      refine lv_if_eq (tgt := 155) hx hb dX7_fits_150 (by decide) (fun c_22 => ?_) (fun c_22 => ?_)
                      · skip
                        have c_22 : 0 = 0 := (nI_eq (a := 0) (b := 0) (by omega) (by omega)).mp c_22
                        refine lv_iinc (v := nI (x + 1)) (lv' := [(5, .int (nI (x + 1))), (7, .int (nI 0)), (0, .ref cg), (1, .int (nI 15)), (2, .int (nI lf)), (3, .ref va), (4, .ref ca), (6, .int y)]) hx hb dX7_fits_155 hl (k := 6) rfl (nI_add x 1) (by decide) rfl (fun ls hl => ?_)
                        refine lv_goto (tgt := 45) hx hb dX7_fits_158 (by decide) ?_
                        exact ih_45_1 (x + 1) f_21 (by omega) (by omega) (by omega) _ _ (hP.sub [0, 1, 2] rfl) (hD.sub [0, 1, 2] (by decide) rfl) hS ls (lv_sub hl [2, 3, 4, 5, 6, 0] rfl)
                      · skip
                        have c_22 : ¬ 0 = 0 := fun z => c_22 ((nI_eq (a := 0) (b := 0) (by omega) (by omega)).mpr z)
                        exact absurd c_22 (by decide)
                    · skip
                      refine lv_goto (tgt := 155) hx hb dX7_fits_120 (by decide) ?_
                      refine lv_iinc (v := nI (x + 1)) (lv' := [(5, .int (nI (x + 1))), (0, .ref cg), (1, .int (nI 15)), (2, .int (nI lf)), (3, .ref va), (4, .ref ca), (6, .int y), (7, .int (nI i))]) hx hb dX7_fits_155 hl (k := 5) rfl (nI_add x 1) (by decide) rfl (fun ls hl => ?_)
                      refine lv_goto (tgt := 45) hx hb dX7_fits_158 (by decide) ?_
                      exact ih_45_1 (x + 1) h3 (by omega) (by omega) (by omega) _ _ (hP.sub [0, 1, 2] rfl) (hD.sub [0, 1, 2] (by decide) rfl) hS ls (lv_sub hl [1, 2, 3, 4, 5, 0] rfl)
                  · skip
                    have c_15 : ¬ 16 ≤ i := fun z => c_15 ((nI_leI (a := 16) (b := i) (by omega) (by omega)).mpr z)
                    refine lv_iload hx hb dX7_fits_72 (lv_at hl 6 rfl) ?_
                    refine lv_aload_n hx hb dX7_fits_74 rfl (lv_at hl 0 rfl) ?_
                    refine lv_iload hx hb dX7_fits_75 (lv_at hl 7 rfl) ?_
                    refine fin_i hP hD hS hA [0] [1, 2] (wr := [(va, .inl (gyI G, 16, .inl h3)), (ca, .inl (gyI G, 16, .inl f))]) rfl rfl (by decide) (by decide) (va_runV (As := [.int (nI i)]) (rest := [.int y]) ⟨hx, hb, hml, hown, hts⟩ (c_X7_has l G cg i (by omega) H.size) (cwV 1 hts (gV q1172 q1165 q1166 q73 q1167) rfl rfl rfl (by decide +kernel) ⟨Nat.le_of_ble_eq_true rfl, Nat.le_of_ble_eq_true rfl⟩) (preV (q0 := 0) (ci := 12) hK hE hP hD hS hA [0] rfl (by decide) rfl rfl) rfl rfl hl.1 rfl (lv_room (Nat.le_of_ble_eq_true rfl)) dX7_fits_77 ⟨Nat.le_of_ble_eq_true rfl, Nat.le_of_ble_eq_true rfl⟩) (fun r_25 u9 hw_24 H locs hP hD hS => ?_)
                    obtain ⟨bn_23, rfl⟩ : ∃ z, z = u9 := ⟨_, rfl⟩
                    obtain ⟨rfl, hbn_26, hlo_27, hhi_28⟩ := hw_24
                    have hbn_26 : bn_23 ≤ 1 := hbn_26
                    have hlo_27 : i < 14 → bn_23 = 0 := hlo_27
                    have hhi_28 : 14 ≤ i → bn_23 = 1 := hhi_28
                    have hP : va_P (gD G) vwCl [(va, .inl (gyI G, 16, .inl h3)), (ca, .inl (gyI G, 16, .inl f)), (cg, .inr (12, [.int (nI 49152), .int (nI 16)]))] H := hP
                    have hD : va_D A [(va, .inl (gyI G, 16, .inl h3)), (ca, .inl (gyI G, 16, .inl f)), (cg, .inr (12, [.int (nI 49152), .int (nI 16)]))] := hD
                    refine lv_if_eq (tgt := 101) hx hb dX7_fits_80 (by decide) (fun c_29 => ?_) (fun c_29 => ?_)
                    · skip
                      have c_29 : bn_23 = 0 := (nI_eq (a := bn_23) (b := 0) (by omega) (by omega)).mp c_29
                      refine lv_iconst (v := nI 1) hx hb dX7_fits_101 (by decide) ?_
                      refine lv_goto (tgt := 106) hx hb dX7_fits_102 (by decide) ?_
                      refine lv_iand hx hb dX7_fits_106 ?_
                      refine lv_topi (fun w_30 ew_30 => ?_)
                      refine lv_istore (lv' := [(6, .int w_30), (0, .ref cg), (1, .int (nI 15)), (2, .int (nI lf)), (3, .ref va), (4, .ref ca), (5, .int (nI x)), (7, .int (nI i))]) hx hb dX7_fits_107 hl (by decide) rfl (fun ls hl => ?_)
                      refine lv_iinc (v := nI (i + 1)) (lv' := [(7, .int (nI (i + 1))), (6, .int w_30), (0, .ref cg), (1, .int (nI 15)), (2, .int (nI lf)), (3, .ref va), (4, .ref ca), (5, .int (nI x))]) hx hb dX7_fits_109 hl (k := 7) rfl (nI_add i 1) (by decide) rfl (fun ls hl => ?_)
                      refine lv_goto (tgt := 65) hx hb dX7_fits_112 (by decide) ?_
                      exact ih_65_2 w_30 (i + 1) (by omega) (by omega) _ _ (hP.sub [2, 0, 1] rfl) (hD.sub [2, 0, 1] (by decide) rfl) hS ls (lv_sub hl [2, 3, 4, 5, 6, 7, 1, 0] rfl)
                    · skip
                      have c_29 : ¬ bn_23 = 0 := fun z => c_29 ((nI_eq (a := bn_23) (b := 0) (by omega) (by omega)).mpr z)
                      refine lv_iload hx hb dX7_fits_83 (lv_at hl 7 rfl) ?_
                      refine lv_iload_n hx hb dX7_fits_85 rfl (lv_at hl 1 rfl) ?_
                      refine fin_i hP hD hS hA [] [0, 1, 2] (wr := [(va, .inl (gyI G, 16, .inl h3)), (ca, .inl (gyI G, 16, .inl f)), (cg, .inr (12, [.int (nI 49152), .int (nI 16)]))]) rfl rfl (by decide) (by decide) (va_runSN (As := [.int (nI i), .int (nI 15)]) (rest := [.int y]) ⟨hx, hb, hml, hown, hts⟩ (c_X10_areInLine l G i 15 (by omega) (by omega) H.size) ⟨(va_cnB 2 hts (gI q1088) rfl rfl rfl (hE.1.1 _ nq1175) (hts _ q52) (by decide +kernel) ⟨Nat.le_of_ble_eq_true rfl, Nat.le_of_ble_eq_true rfl⟩), hts _ q1087, trivial⟩ (preS hK hE hP hD hS hA [] rfl (by decide)) rfl rfl hl.1 rfl (lv_room (Nat.le_of_ble_eq_true rfl)) dX7_fits_86 ⟨Nat.le_of_ble_eq_true rfl, Nat.le_of_ble_eq_true rfl⟩) (fun r_32 u9 hw_31 H locs hP hD hS => ?_)
                      have hP : va_P (gD G) vwCl [(va, .inl (gyI G, 16, .inl h3)), (ca, .inl (gyI G, 16, .inl f)), (cg, .inr (12, [.int (nI 49152), .int (nI 16)]))] H := hP
                      have hD : va_D A [(va, .inl (gyI G, 16, .inl h3)), (ca, .inl (gyI G, 16, .inl f)), (cg, .inr (12, [.int (nI 49152), .int (nI 16)]))] := hD
                      refine lv_if_eq (tgt := 101) hx hb dX7_fits_89 (by decide) (fun c_33 => ?_) (fun c_33 => ?_)
                      · skip
                        refine lv_iconst (v := nI 1) hx hb dX7_fits_101 (by decide) ?_
                        refine lv_goto (tgt := 106) hx hb dX7_fits_102 (by decide) ?_
                        refine lv_iand hx hb dX7_fits_106 ?_
                        refine lv_topi (fun w_34 ew_34 => ?_)
                        refine lv_istore (lv' := [(6, .int w_34), (0, .ref cg), (1, .int (nI 15)), (2, .int (nI lf)), (3, .ref va), (4, .ref ca), (5, .int (nI x)), (7, .int (nI i))]) hx hb dX7_fits_107 hl (by decide) rfl (fun ls hl => ?_)
                        refine lv_iinc (v := nI (i + 1)) (lv' := [(7, .int (nI (i + 1))), (6, .int w_34), (0, .ref cg), (1, .int (nI 15)), (2, .int (nI lf)), (3, .ref va), (4, .ref ca), (5, .int (nI x))]) hx hb dX7_fits_109 hl (k := 7) rfl (nI_add i 1) (by decide) rfl (fun ls hl => ?_)
                        refine lv_goto (tgt := 65) hx hb dX7_fits_112 (by decide) ?_
                        exact ih_65_2 w_34 (i + 1) (by omega) (by omega) _ _ (hP.sub [2, 0, 1] rfl) (hD.sub [2, 0, 1] (by decide) rfl) hS ls (lv_sub hl [2, 3, 4, 5, 6, 7, 1, 0] rfl)
                      · skip
                        refine lv_aload_n hx hb dX7_fits_92 rfl (lv_at hl 3 rfl) ?_
                        refine lv_iload hx hb dX7_fits_93 (lv_at hl 7 rfl) ?_
                        refine va_iald (D := gD G) (cA := gyI G) (n := 16) (f := h3) hx hb hK hP 0 0 rfl rfl (vp_in_nI (n := i) (N := 16) (by omega) (by omega)) dX7_fits_95 ?_
                        refine lv_topi (fun w_35 ew_35 => ?_)
                        refine lv_iload hx hb dX7_fits_96 (lv_at hl 5 rfl) ?_
                        refine lv_icmp_eq (tgt := 105) hx hb dX7_fits_98 (by decide) (fun c_36 => ?_) (fun c_36 => ?_)
                        · skip
                          refine lv_iconst (v := nI 0) hx hb dX7_fits_105 (by decide) ?_
                          refine lv_iand hx hb dX7_fits_106 ?_
                          refine lv_topi (fun w_37 ew_37 => ?_)
                          refine lv_istore (lv' := [(6, .int w_37), (0, .ref cg), (1, .int (nI 15)), (2, .int (nI lf)), (3, .ref va), (4, .ref ca), (5, .int (nI x)), (7, .int (nI i))]) hx hb dX7_fits_107 hl (by decide) rfl (fun ls hl => ?_)
                          refine lv_iinc (v := nI (i + 1)) (lv' := [(7, .int (nI (i + 1))), (6, .int w_37), (0, .ref cg), (1, .int (nI 15)), (2, .int (nI lf)), (3, .ref va), (4, .ref ca), (5, .int (nI x))]) hx hb dX7_fits_109 hl (k := 7) rfl (nI_add i 1) (by decide) rfl (fun ls hl => ?_)
                          refine lv_goto (tgt := 65) hx hb dX7_fits_112 (by decide) ?_
                          exact ih_65_2 w_37 (i + 1) (by omega) (by omega) _ _ (hP.sub [2, 0, 1] rfl) (hD.sub [2, 0, 1] (by decide) rfl) hS ls (lv_sub hl [2, 3, 4, 5, 6, 7, 1, 0] rfl)
                        · skip
                          refine lv_iconst (v := nI 1) hx hb dX7_fits_101 (by decide) ?_
                          refine lv_goto (tgt := 106) hx hb dX7_fits_102 (by decide) ?_
                          refine lv_iand hx hb dX7_fits_106 ?_
                          refine lv_topi (fun w_38 ew_38 => ?_)
                          refine lv_istore (lv' := [(6, .int w_38), (0, .ref cg), (1, .int (nI 15)), (2, .int (nI lf)), (3, .ref va), (4, .ref ca), (5, .int (nI x)), (7, .int (nI i))]) hx hb dX7_fits_107 hl (by decide) rfl (fun ls hl => ?_)
                          refine lv_iinc (v := nI (i + 1)) (lv' := [(7, .int (nI (i + 1))), (6, .int w_38), (0, .ref cg), (1, .int (nI 15)), (2, .int (nI lf)), (3, .ref va), (4, .ref ca), (5, .int (nI x))]) hx hb dX7_fits_109 hl (k := 7) rfl (nI_add i 1) (by decide) rfl (fun ls hl => ?_)
                          refine lv_goto (tgt := 65) hx hb dX7_fits_112 (by decide) ?_
                          exact ih_65_2 w_38 (i + 1) (by omega) (by omega) _ _ (hP.sub [2, 0, 1] rfl) (hD.sub [2, 0, 1] (by decide) rfl) hS ls (lv_sub hl [2, 3, 4, 5, 6, 7, 1, 0] rfl)
              exact cut_65_2 (16 - 0 + 1) r_14 0 (by omega) (Nat.lt_succ_self _) _ _ (hP.sub [0, 1, 2] rfl) (hD.sub [0, 1, 2] (by decide) rfl) hS ls (lv_sub hl [2, 3, 4, 5, 6, 7, 1, 0] rfl)
        exact cut_45_1 (5 - 1 + 1) 1 h (by omega) (by omega) (Nat.lt_succ_self _) _ _ (hP.sub [2, 0, 1] rfl) (hD.sub [2, 0, 1] (by decide) rfl) hS ls (lv_sub hl [1, 2, 3, 4, 5, 0] rfl)
      · skip
        refine lv_aload_n hx hb dX7_fits_30 rfl (lv_at hl 0 rfl) ?_
        refine lv_iload_n hx hb dX7_fits_31 rfl (lv_at hl 1 rfl) ?_
        refine lv_iconst (v := nI 1) hx hb dX7_fits_32 (by decide) ?_
        refine lv_iadd hx hb dX7_fits_33 ?_
        refine lv_toe (show _ = nI 16 by decide) ?_
        refine lv_iload_n hx hb dX7_fits_34 rfl (lv_at hl 2 rfl) ?_
        refine lv_aload_n hx hb dX7_fits_35 rfl (lv_at hl 3 rfl) ?_
        refine lv_aload hx hb dX7_fits_36 (lv_at hl 4 rfl) ?_
        refine fin_i hP hD hS hA [2, 0, 1] [] (wr := []) rfl rfl (by decide) (by decide) (va_runV (As := [.int (nI 16), .int (nI lf), .ref va, .ref ca]) (rest := []) ⟨hx, hb, hml, hown, hts⟩ (c_fits_16 l G cg lf va h ca f (by omega) (by omega) H.size) (cwV 4 hts (gV q1173 q1169 q1170 q73 q1171) rfl rfl rfl (by decide +kernel) ⟨Nat.le_of_ble_eq_true rfl, Nat.le_of_ble_eq_true rfl⟩) (preV (q0 := 2) (ci := 12) hK hE hP hD hS hA [2, 0, 1] rfl (by decide) rfl rfl) rfl rfl hl.1 rfl (lv_room (Nat.le_of_ble_eq_true rfl)) dX7_fits_38 ⟨Nat.le_of_ble_eq_true rfl, Nat.le_of_ble_eq_true rfl⟩) (fun r_41 u9 hw_40 H locs hP hD hS => ?_)
        obtain ⟨h2_39, rfl⟩ : ∃ z, z = u9 := ⟨_, rfl⟩
        subst hw_40
        have hP : va_P (gD G) vwCl [(cg, .inr (12, [.int (nI 49152), .int (nI 16)])), (va, .inl (gyI G, 16, .inl h2_39)), (ca, .inl (gyI G, 16, .inl f))] H := hP
        have hD : va_D A [(cg, .inr (12, [.int (nI 49152), .int (nI 16)])), (va, .inl (gyI G, 16, .inl h2_39)), (ca, .inl (gyI G, 16, .inl f))] := hD
        have hP9 := hP.sub (ws' := [(cg, .inr (12, [.int (nI 49152), .int (nI 16)])), (va, .inl (gyI G, 16, .inl h2_39)), (ca, .inl (gyI G, 16, .inl f))]) [0, 1, 2] rfl
        have hD9 := hD.sub (ws' := [(cg, .inr (12, [.int (nI 49152), .int (nI 16)])), (va, .inl (gyI G, 16, .inl h2_39)), (ca, .inl (gyI G, 16, .inl f))]) [0, 1, 2] (by decide) rfl
        subst hQ
        exact W.zret (v := nI 0) hx hb hr (by decide) (fun t ht hW => ⟨⟨nI 0, h2_39, rfl, rfl, by rw [ht]; exact hP9, hD9⟩, hS.F ht⟩) hS.2.2 dX7_fits_41
  · skip
    have c_1 : 15 = 16 := (nI_eq (a := 15) (b := 16) (by omega) (by omega)).mp c_1
    exact absurd c_1 (by decide)
set_option maxHeartbeats 4000000 in
set_option maxRecDepth 100000 in
theorem c_fits_14 (l : Launch) (G : GG) (cg : Nat) (lf : Nat) (va : Nat) (h : Nat → Int32) (ca : Nat) (f : Nat → Int32) (hlf : 8 < lf) (hlf16 : lf ≤ 16) : Mi l G yX7_fits cX7_fits 8 (some .boolean) ({ frames := 2, cells := 0, slots := 0, locals := 54 } : Room) [.ref cg, .int (nI 14), .int (nI lf), .ref va, .ref ca] [(cg, .inr (12, [.int (nI 49152), .int (nI 16)])), (va, .inl (gyI G, 16, .inl h)), (ca, .inl (gyI G, 16, .inl f))] (fun (r : Int32) (u : (Nat → Int32)) => r = nI 0) (fun (u : (Nat → Int32)) => [(cg, .inr (12, [.int (nI 49152), .int (nI 16)])), (va, .inl (gyI G, 16, .inl u)), (ca, .inl (gyI G, 16, .inl f))]) := by
  intro sz
  refine Met.ofW (cc := cX7_fits) (maxL := 8) (ret := (some .boolean)) (by decide) rfl ?_
  intro p e s m args below meth c s₁ B9 hml hv
  obtain ⟨rfl, hsz, hP, hK, hD0, hE⟩ := hv
  have hx := B9.exec
  have hb := B9.bytes
  have hr := B9.returns
  have hts : ∀ w ∈ WW, w.before ([.ref cg, .int (nI 14), .int (nI lf), .ref va, .ref ca] : List Value).toArray s = true := fun w h => atoms_spec (ws := .code yX7_fits cX7_fits 8 (some .boolean) :: WW) B9.pre w (List.mem_cons_of_mem _ h)
  have hown : s.vm.findClass RX7 = some m.cls := findClass_of_methodNamed B9.named
  subst hsz
  have hD := hD0.self (sz := s.heap.size)
  generalize hAe : va_A [(cg, .inr (12, [.int (nI 49152), .int (nI 16)])), (va, .inl (gyI G, 16, .inl h)), (ca, .inl (gyI G, 16, .inl f))] s.heap.size = A at hD hE ⊢
  have hA : ∀ q : Nat, s.heap.size ≤ q → A q := fun q h => by rw [← hAe]; exact Or.inr h
  have hl := lv_entry ([.ref cg, .int (nI 14), .int (nI lf), .ref va, .ref ca]) (n := 8) (Nat.le_of_ble_eq_true rfl)
  rw [lg_entry_eq]
  generalize (lg_sl ([.ref cg, .int (nI 14), .int (nI lf), .ref va, .ref ca]) ++ List.replicate (8 - (lg_sl ([.ref cg, .int (nI 14), .int (nI lf), .ref va, .ref ca])).length) Slot.unset).toArray = ls at hl ⊢
  have hl : lv_has ls 8 [(0, .ref cg), (1, .int (nI 14)), (2, .int (nI lf)), (3, .ref va), (4, .ref ca)] := hl
  refine qgen (fun Q hQ => ?_)
  refine hgen (fun H locs hP hD hS => ?_) hP hD
  refine lv_iload_n hx hb dX7_fits_0 rfl (lv_at hl 1 rfl) ?_
  refine lv_bipush (v := nI 16) hx hb dX7_fits_1 (by decide) ?_
  refine lv_icmp_ne (tgt := 16) hx hb dX7_fits_3 (by decide) (fun c_1 => ?_) (fun c_1 => ?_)
  · skip
    have c_1 : ¬ 14 = 16 := fun z => c_1 ((nI_eq (a := 14) (b := 16) (by omega) (by omega)).mpr z)
    refine lv_aload_n hx hb dX7_fits_16 rfl (lv_at hl 0 rfl) ?_
    refine lv_iload_n hx hb dX7_fits_17 rfl (lv_at hl 1 rfl) ?_
    refine fin_i hP hD hS hA [0] [1, 2] (wr := [(va, .inl (gyI G, 16, .inl h)), (ca, .inl (gyI G, 16, .inl f))]) rfl rfl (by decide) (by decide) (va_runV (As := [.int (nI 14)]) (rest := []) ⟨hx, hb, hml, hown, hts⟩ (c_X7_has l G cg 14 (by omega) H.size) (cwV 1 hts (gV q1172 q1165 q1166 q73 q1167) rfl rfl rfl (by decide +kernel) ⟨Nat.le_of_ble_eq_true rfl, Nat.le_of_ble_eq_true rfl⟩) (preV (q0 := 0) (ci := 12) hK hE hP hD hS hA [0] rfl (by decide) rfl rfl) rfl rfl hl.1 rfl (lv_room (Nat.le_of_ble_eq_true rfl)) dX7_fits_18 ⟨Nat.le_of_ble_eq_true rfl, Nat.le_of_ble_eq_true rfl⟩) (fun r_4 u9 hw_3 H locs hP hD hS => ?_)
    obtain ⟨bn_2, rfl⟩ : ∃ z, z = u9 := ⟨_, rfl⟩
    obtain ⟨rfl, hbn_5, hlo_6, hhi_7⟩ := hw_3
    have hbn_5 : bn_2 ≤ 1 := hbn_5
    have hlo_6 : 14 < 14 → bn_2 = 0 := hlo_6
    have hhi_7 : 14 ≤ 14 → bn_2 = 1 := hhi_7
    have hP : va_P (gD G) vwCl [(va, .inl (gyI G, 16, .inl h)), (ca, .inl (gyI G, 16, .inl f)), (cg, .inr (12, [.int (nI 49152), .int (nI 16)]))] H := hP
    have hD : va_D A [(va, .inl (gyI G, 16, .inl h)), (ca, .inl (gyI G, 16, .inl f)), (cg, .inr (12, [.int (nI 49152), .int (nI 16)]))] := hD
    refine lv_if_eq (tgt := 30) hx hb dX7_fits_21 (by decide) (fun c_8 => ?_) (fun c_8 => ?_)
    · skip
      have c_8 : bn_2 = 0 := (nI_eq (a := bn_2) (b := 0) (by omega) (by omega)).mp c_8
      exfalso; omega
    · skip
      have c_8 : ¬ bn_2 = 0 := fun z => c_8 ((nI_eq (a := bn_2) (b := 0) (by omega) (by omega)).mpr z)
      refine lv_aload_n hx hb dX7_fits_24 rfl (lv_at hl 3 rfl) ?_
      refine lv_iload_n hx hb dX7_fits_25 rfl (lv_at hl 1 rfl) ?_
      refine va_iald (D := gD G) (cA := gyI G) (n := 16) (f := h) hx hb hK hP 0 0 rfl rfl (vp_in_nI (n := 14) (N := 16) (by omega) (by omega)) dX7_fits_26 ?_
      refine lv_topi (fun w_9 ew_9 => ?_)
      refine lv_if_le (tgt := 42) hx hb dX7_fits_27 (by decide) (fun c_10 => ?_) (fun c_10 => ?_)
      · skip
        refine lv_iconst (v := nI 1) hx hb dX7_fits_42 (by decide) ?_
        refine lv_istore (lv' := [(5, .int (nI 1)), (0, .ref cg), (1, .int (nI 14)), (2, .int (nI lf)), (3, .ref va), (4, .ref ca)]) hx hb dX7_fits_43 hl (by decide) rfl (fun ls hl => ?_)
        have cut_45_1 : ∀ (n9 : Nat) (x : Nat) (h3 : Nat → Int32) (hx1 : 1 ≤ x) (hx5 : x ≤ 5) (hm9 : 5 - x < n9) (H : Heap) (locs : List Loc), va_P (gD G) vwCl [(cg, .inr (12, [.int (nI 49152), .int (nI 16)])), (va, .inl (gyI G, 16, .inl h3)), (ca, .inl (gyI G, 16, .inl f))] H → va_D A [(cg, .inr (12, [.int (nI 49152), .int (nI 16)])), (va, .inl (gyI G, 16, .inl h3)), (ca, .inl (gyI G, 16, .inl f))] → va_S A s.heap H locs → ∀ (ls : Array Slot), lv_has ls 8 [(0, .ref cg), (1, .int (nI 14)), (2, .int (nI lf)), (3, .ref va), (4, .ref ca), (5, .int (nI x))] → W p l e ({ frames := 2, cells := 0, slots := 0, locals := 54 } : Room) s m ([.ref cg, .int (nI 14), .int (nI lf), .ref va, .ref ca] : List Value).toArray below meth c H locs 0 0 Q (F0 m 45 ls []) := by
          intro n9
          induction n9 with
          | zero =>
            intro x h3 hx1 hx5 hm9
            exact absurd hm9 (Nat.not_lt_zero _)
          | succ n9 ih_45_1 =>
            intro x h3 hx1 hx5 hm9 H locs hP hD hS ls hl
            refine lv_iload hx hb dX7_fits_45 (lv_at hl 5 rfl) ?_
            refine lv_iconst (v := nI 4) hx hb dX7_fits_47 (by decide) ?_
            refine lv_icmp_gt (tgt := 161) hx hb dX7_fits_48 (by decide) (fun c_11 => ?_) (fun c_11 => ?_)
            · skip
              have c_11 : 4 < x := (nI_ltI (a := 4) (b := x) (by omega) (by omega)).mp c_11
              refine lv_iconst (v := nI 0) hx hb dX7_fits_161 (by decide) ?_
              have hP9 := hP.sub (ws' := [(cg, .inr (12, [.int (nI 49152), .int (nI 16)])), (va, .inl (gyI G, 16, .inl h3)), (ca, .inl (gyI G, 16, .inl f))]) [0, 1, 2] rfl
              have hD9 := hD.sub (ws' := [(cg, .inr (12, [.int (nI 49152), .int (nI 16)])), (va, .inl (gyI G, 16, .inl h3)), (ca, .inl (gyI G, 16, .inl f))]) [0, 1, 2] (by decide) rfl
              subst hQ
              exact W.zret (v := nI 0) hx hb hr (by decide) (fun t ht hW => ⟨⟨nI 0, h3, rfl, rfl, by rw [ht]; exact hP9, hD9⟩, hS.F ht⟩) hS.2.2 dX7_fits_162
            · skip
              have c_11 : ¬ 4 < x := fun z => c_11 ((nI_ltI (a := 4) (b := x) (by omega) (by omega)).mpr z)
              refine lv_aload hx hb dX7_fits_51 (lv_at hl 4 rfl) ?_
              refine lv_iload_n hx hb dX7_fits_53 rfl (lv_at hl 1 rfl) ?_
              refine va_iald (D := gD G) (cA := gyI G) (n := 16) (f := f) hx hb hK hP 2 0 rfl rfl (vp_in_nI (n := 14) (N := 16) (by omega) (by omega)) dX7_fits_54 ?_
              refine lv_topi (fun w_12 ew_12 => ?_)
              refine lv_iload hx hb dX7_fits_55 (lv_at hl 5 rfl) ?_
              refine fin_i hP hD hS hA [] [0, 1, 2] (wr := [(cg, .inr (12, [.int (nI 49152), .int (nI 16)])), (va, .inl (gyI G, 16, .inl h3)), (ca, .inl (gyI G, 16, .inl f))]) rfl rfl (by decide) (by decide) (va_runSN (As := [.int w_12, .int (nI x)]) (rest := []) ⟨hx, hb, hml, hown, hts⟩ (c_isIn_any l G w_12 (nI x) H.size) ⟨(va_cnB 2 hts (gI q1078) rfl rfl rfl (hE.1.1 _ nq1174) (hts _ q52) (by decide +kernel) ⟨Nat.le_of_ble_eq_true rfl, Nat.le_of_ble_eq_true rfl⟩), hts _ q1077, trivial⟩ (preS hK hE hP hD hS hA [] rfl (by decide)) rfl rfl hl.1 rfl (lv_room (Nat.le_of_ble_eq_true rfl)) dX7_fits_57 ⟨Nat.le_of_ble_eq_true rfl, Nat.le_of_ble_eq_true rfl⟩) (fun r_14 u9 hw_13 H locs hP hD hS => ?_)
              have hP : va_P (gD G) vwCl [(cg, .inr (12, [.int (nI 49152), .int (nI 16)])), (va, .inl (gyI G, 16, .inl h3)), (ca, .inl (gyI G, 16, .inl f))] H := hP
              have hD : va_D A [(cg, .inr (12, [.int (nI 49152), .int (nI 16)])), (va, .inl (gyI G, 16, .inl h3)), (ca, .inl (gyI G, 16, .inl f))] := hD
              refine lv_istore (lv' := [(6, .int r_14), (0, .ref cg), (1, .int (nI 14)), (2, .int (nI lf)), (3, .ref va), (4, .ref ca), (5, .int (nI x))]) hx hb dX7_fits_60 hl (by decide) rfl (fun ls hl => ?_)
              refine lv_iconst (v := nI 0) hx hb dX7_fits_62 (by decide) ?_
              refine lv_istore (lv' := [(7, .int (nI 0)), (6, .int r_14), (0, .ref cg), (1, .int (nI 14)), (2, .int (nI lf)), (3, .ref va), (4, .ref ca), (5, .int (nI x))]) hx hb dX7_fits_63 hl (by decide) rfl (fun ls hl => ?_)
              have cut_65_2 : ∀ (n9 : Nat) (y : Int32) (i : Nat) (hi : i ≤ 16) (hm9 : 16 - i < n9) (H : Heap) (locs : List Loc), va_P (gD G) vwCl [(cg, .inr (12, [.int (nI 49152), .int (nI 16)])), (va, .inl (gyI G, 16, .inl h3)), (ca, .inl (gyI G, 16, .inl f))] H → va_D A [(cg, .inr (12, [.int (nI 49152), .int (nI 16)])), (va, .inl (gyI G, 16, .inl h3)), (ca, .inl (gyI G, 16, .inl f))] → va_S A s.heap H locs → ∀ (ls : Array Slot), lv_has ls 8 [(0, .ref cg), (1, .int (nI 14)), (2, .int (nI lf)), (3, .ref va), (4, .ref ca), (5, .int (nI x)), (6, .int y), (7, .int (nI i))] → W p l e ({ frames := 2, cells := 0, slots := 0, locals := 54 } : Room) s m ([.ref cg, .int (nI 14), .int (nI lf), .ref va, .ref ca] : List Value).toArray below meth c H locs 0 0 Q (F0 m 65 ls []) := by
                intro n9
                induction n9 with
                | zero =>
                  intro y i hi hm9
                  exact absurd hm9 (Nat.not_lt_zero _)
                | succ n9 ih_65_2 =>
                  intro y i hi hm9 H locs hP hD hS ls hl
                  refine lv_iload hx hb dX7_fits_65 (lv_at hl 7 rfl) ?_
                  refine lv_bipush (v := nI 16) hx hb dX7_fits_67 (by decide) ?_
                  refine lv_icmp_ge (tgt := 115) hx hb dX7_fits_69 (by decide) (fun c_15 => ?_) (fun c_15 => ?_)
                  · skip
                    have c_15 : 16 ≤ i := (nI_leI (a := 16) (b := i) (by omega) (by omega)).mp c_15
                    refine lv_iload hx hb dX7_fits_115 (lv_at hl 6 rfl) ?_
                    refine lv_if_ne (tgt := 123) hx hb dX7_fits_117 (by decide) (fun c_16 => ?_) (fun c_16 => ?_)
                    · skip
                      refine lv_aload_n hx hb dX7_fits_123 rfl (lv_at hl 3 rfl) ?_
                      refine lv_iload_n hx hb dX7_fits_124 rfl (lv_at hl 1 rfl) ?_
                      refine lv_iload hx hb dX7_fits_125 (lv_at hl 5 rfl) ?_
                      refine va_iast (D := gD G) (cA := gyI G) (n := 16) (f := h3) hx hb hK hP hD hS 1 0 rfl rfl (vp_in_nI (n := 14) (N := 16) (by omega) (by omega)) dX7_fits_127 (fun H locs hP hD hS => ?_)
                      generalize upd h3 (nI 14).toNatClampNeg (nI x) = f_17 at hP hD
                      have hP : va_P (gD G) vwCl [(cg, .inr (12, [.int (nI 49152), .int (nI 16)])), (va, .inl (gyI G, 16, .inl f_17)), (ca, .inl (gyI G, 16, .inl f))] H := hP
                      have hD : va_D A [(cg, .inr (12, [.int (nI 49152), .int (nI 16)])), (va, .inl (gyI G, 16, .inl f_17)), (ca, .inl (gyI G, 16, .inl f))] := hD
                      refine lv_aload_n hx hb dX7_fits_128 rfl (lv_at hl 0 rfl) ?_
                      refine lv_iload_n hx hb dX7_fits_129 rfl (lv_at hl 1 rfl) ?_
                      refine lv_iconst (v := nI 1) hx hb dX7_fits_130 (by decide) ?_
                      refine lv_iadd hx hb dX7_fits_131 ?_
                      refine lv_toe (show _ = nI 15 by decide) ?_
                      refine lv_iload_n hx hb dX7_fits_132 rfl (lv_at hl 2 rfl) ?_
                      refine lv_iload hx hb dX7_fits_133 (lv_at hl 5 rfl) ?_
                      refine lv_isub hx hb dX7_fits_135 ?_
                      refine lv_toe (pk_sub (a := lf) (b := x) (by omega)) ?_
                      refine lv_aload_n hx hb dX7_fits_136 rfl (lv_at hl 3 rfl) ?_
                      refine lv_aload hx hb dX7_fits_137 (lv_at hl 4 rfl) ?_
                      refine fin_i hP hD hS hA [0, 1, 2] [] (wr := []) rfl rfl (by decide) (by decide) (va_runV (As := [.int (nI 15), .int (nI (lf - x)), .ref va, .ref ca]) (rest := []) ⟨hx, hb, hml, hown, hts⟩ (c_fits_15 l G cg (lf - x) va f_17 ca f (by omega) (by omega) H.size) (cwV 4 hts (gV q1173 q1169 q1170 q73 q1171) rfl rfl rfl (by decide +kernel) ⟨Nat.le_of_ble_eq_true rfl, Nat.le_of_ble_eq_true rfl⟩) (preV (q0 := 0) (ci := 12) hK hE hP hD hS hA [0, 1, 2] rfl (by decide) rfl rfl) rfl rfl hl.1 rfl (lv_room (Nat.le_of_ble_eq_true rfl)) dX7_fits_139 ⟨Nat.le_of_ble_eq_true rfl, Nat.le_of_ble_eq_true rfl⟩) (fun r_20 u9 hw_19 H locs hP hD hS => ?_)
                      obtain ⟨h2_18, rfl⟩ : ∃ z, z = u9 := ⟨_, rfl⟩
                      subst hw_19
                      have hP : va_P (gD G) vwCl [(cg, .inr (12, [.int (nI 49152), .int (nI 16)])), (va, .inl (gyI G, 16, .inl h2_18)), (ca, .inl (gyI G, 16, .inl f))] H := hP
                      have hD : va_D A [(cg, .inr (12, [.int (nI 49152), .int (nI 16)])), (va, .inl (gyI G, 16, .inl h2_18)), (ca, .inl (gyI G, 16, .inl f))] := hD
                      refine lv_istore (lv' := [(7, .int (nI 0)), (0, .ref cg), (1, .int (nI 14)), (2, .int (nI lf)), (3, .ref va), (4, .ref ca), (5, .int (nI x)), (6, .int y)]) hx hb dX7_fits_142 hl (by decide) rfl (fun ls hl => ?_)
                      refine lv_aload_n hx hb dX7_fits_144 rfl (lv_at hl 4 rfl) ?_
                      refine lv_iload_n hx hb dX7_fits_145 rfl (lv_at hl 2 rfl) ?_
                      refine lv_iconst (v := nI 0) hx hb dX7_fits_146 (by decide) ?_
                      refine va_iast (D := gD G) (cA := gyI G) (n := 16) (f := h2_18) hx hb hK hP hD hS 1 0 rfl rfl (vp_in_nI (n := 14) (N := 16) (by omega) (by omega)) dX7_fits_147 (fun H locs hP hD hS => ?_)
                      generalize upd h2_18 (nI 14).toNatClampNeg (nI 0) = f_21 at hP hD
                      have hP : va_P (gD G) vwCl [(cg, .inr (12, [.int (nI 49152), .int (nI 16)])), (va, .inl (gyI G, 16, .inl f_21)), (ca, .inl (gyI G, 16, .inl f))] H := hP
                      have hD : va_D A [(cg, .inr (12, [.int (nI 49152), .int (nI 16)])), (va, .inl (gyI G, 16, .inl f_21)), (ca, .inl (gyI G, 16, .inl f))] := hD
                      refine lv_iload hx hb dX7_fits_148 (lv_at hl 0 rfl) ?_
                      refine lv_if_eq (tgt := 155) hx hb dX7_fits_150 (by decide) (fun c_22 => ?_) (fun c_22 => ?_)
                      · skip
                        have c_22 : 0 = 0 := (nI_eq (a := 0) (b := 0) (by omega) (by omega)).mp c_22
                        refine lv_iinc (v := nI (x + 1)) (lv' := [(5, .int (nI (x + 1))), (7, .int (nI 0)), (0, .ref cg), (1, .int (nI 14)), (2, .int (nI lf)), (3, .ref va), (4, .ref ca), (6, .int y)]) hx hb dX7_fits_155 hl (k := 6) rfl (nI_add x 1) (by decide) rfl (fun ls hl => ?_)
                        refine lv_goto (tgt := 45) hx hb dX7_fits_158 (by decide) ?_
                        exact ih_45_1 (x + 1) f_21 (by omega) (by omega) (by omega) _ _ (hP.sub [0, 1, 2] rfl) (hD.sub [0, 1, 2] (by decide) rfl) hS ls (lv_sub hl [2, 3, 4, 5, 6, 0] rfl)
                      · skip
                        have c_22 : ¬ 0 = 0 := fun z => c_22 ((nI_eq (a := 0) (b := 0) (by omega) (by omega)).mpr z)
                        exact absurd c_22 (by decide)
                    · skip
                      refine lv_goto (tgt := 155) hx hb dX7_fits_120 (by decide) ?_
                      refine lv_iinc (v := nI (x + 1)) (lv' := [(5, .int (nI (x + 1))), (0, .ref cg), (1, .int (nI 14)), (2, .int (nI lf)), (3, .ref va), (4, .ref ca), (6, .int y), (7, .int (nI i))]) hx hb dX7_fits_155 hl (k := 5) rfl (nI_add x 1) (by decide) rfl (fun ls hl => ?_)
                      refine lv_goto (tgt := 45) hx hb dX7_fits_158 (by decide) ?_
                      exact ih_45_1 (x + 1) h3 (by omega) (by omega) (by omega) _ _ (hP.sub [0, 1, 2] rfl) (hD.sub [0, 1, 2] (by decide) rfl) hS ls (lv_sub hl [1, 2, 3, 4, 5, 0] rfl)
                  · skip
                    have c_15 : ¬ 16 ≤ i := fun z => c_15 ((nI_leI (a := 16) (b := i) (by omega) (by omega)).mpr z)
                    refine lv_iload hx hb dX7_fits_72 (lv_at hl 6 rfl) ?_
                    refine lv_aload_n hx hb dX7_fits_74 rfl (lv_at hl 0 rfl) ?_
                    refine lv_iload hx hb dX7_fits_75 (lv_at hl 7 rfl) ?_
                    refine fin_i hP hD hS hA [0] [1, 2] (wr := [(va, .inl (gyI G, 16, .inl h3)), (ca, .inl (gyI G, 16, .inl f))]) rfl rfl (by decide) (by decide) (va_runV (As := [.int (nI i)]) (rest := [.int y]) ⟨hx, hb, hml, hown, hts⟩ (c_X7_has l G cg i (by omega) H.size) (cwV 1 hts (gV q1172 q1165 q1166 q73 q1167) rfl rfl rfl (by decide +kernel) ⟨Nat.le_of_ble_eq_true rfl, Nat.le_of_ble_eq_true rfl⟩) (preV (q0 := 0) (ci := 12) hK hE hP hD hS hA [0] rfl (by decide) rfl rfl) rfl rfl hl.1 rfl (lv_room (Nat.le_of_ble_eq_true rfl)) dX7_fits_77 ⟨Nat.le_of_ble_eq_true rfl, Nat.le_of_ble_eq_true rfl⟩) (fun r_25 u9 hw_24 H locs hP hD hS => ?_)
                    obtain ⟨bn_23, rfl⟩ : ∃ z, z = u9 := ⟨_, rfl⟩
                    obtain ⟨rfl, hbn_26, hlo_27, hhi_28⟩ := hw_24
                    have hbn_26 : bn_23 ≤ 1 := hbn_26
                    have hlo_27 : i < 14 → bn_23 = 0 := hlo_27
                    have hhi_28 : 14 ≤ i → bn_23 = 1 := hhi_28
                    have hP : va_P (gD G) vwCl [(va, .inl (gyI G, 16, .inl h3)), (ca, .inl (gyI G, 16, .inl f)), (cg, .inr (12, [.int (nI 49152), .int (nI 16)]))] H := hP
                    have hD : va_D A [(va, .inl (gyI G, 16, .inl h3)), (ca, .inl (gyI G, 16, .inl f)), (cg, .inr (12, [.int (nI 49152), .int (nI 16)]))] := hD
                    refine lv_if_eq (tgt := 101) hx hb dX7_fits_80 (by decide) (fun c_29 => ?_) (fun c_29 => ?_)
                    · skip
                      have c_29 : bn_23 = 0 := (nI_eq (a := bn_23) (b := 0) (by omega) (by omega)).mp c_29
                      refine lv_iconst (v := nI 1) hx hb dX7_fits_101 (by decide) ?_
                      refine lv_goto (tgt := 106) hx hb dX7_fits_102 (by decide) ?_
                      refine lv_iand hx hb dX7_fits_106 ?_
                      refine lv_topi (fun w_30 ew_30 => ?_)
                      refine lv_istore (lv' := [(6, .int w_30), (0, .ref cg), (1, .int (nI 14)), (2, .int (nI lf)), (3, .ref va), (4, .ref ca), (5, .int (nI x)), (7, .int (nI i))]) hx hb dX7_fits_107 hl (by decide) rfl (fun ls hl => ?_)
                      refine lv_iinc (v := nI (i + 1)) (lv' := [(7, .int (nI (i + 1))), (6, .int w_30), (0, .ref cg), (1, .int (nI 14)), (2, .int (nI lf)), (3, .ref va), (4, .ref ca), (5, .int (nI x))]) hx hb dX7_fits_109 hl (k := 7) rfl (nI_add i 1) (by decide) rfl (fun ls hl => ?_)
                      refine lv_goto (tgt := 65) hx hb dX7_fits_112 (by decide) ?_
                      exact ih_65_2 w_30 (i + 1) (by omega) (by omega) _ _ (hP.sub [2, 0, 1] rfl) (hD.sub [2, 0, 1] (by decide) rfl) hS ls (lv_sub hl [2, 3, 4, 5, 6, 7, 1, 0] rfl)
                    · skip
                      have c_29 : ¬ bn_23 = 0 := fun z => c_29 ((nI_eq (a := bn_23) (b := 0) (by omega) (by omega)).mpr z)
                      refine lv_iload hx hb dX7_fits_83 (lv_at hl 7 rfl) ?_
                      refine lv_iload_n hx hb dX7_fits_85 rfl (lv_at hl 1 rfl) ?_
                      refine fin_i hP hD hS hA [] [0, 1, 2] (wr := [(va, .inl (gyI G, 16, .inl h3)), (ca, .inl (gyI G, 16, .inl f)), (cg, .inr (12, [.int (nI 49152), .int (nI 16)]))]) rfl rfl (by decide) (by decide) (va_runSN (As := [.int (nI i), .int (nI 14)]) (rest := [.int y]) ⟨hx, hb, hml, hown, hts⟩ (c_X10_areInLine l G i 14 (by omega) (by omega) H.size) ⟨(va_cnB 2 hts (gI q1088) rfl rfl rfl (hE.1.1 _ nq1175) (hts _ q52) (by decide +kernel) ⟨Nat.le_of_ble_eq_true rfl, Nat.le_of_ble_eq_true rfl⟩), hts _ q1087, trivial⟩ (preS hK hE hP hD hS hA [] rfl (by decide)) rfl rfl hl.1 rfl (lv_room (Nat.le_of_ble_eq_true rfl)) dX7_fits_86 ⟨Nat.le_of_ble_eq_true rfl, Nat.le_of_ble_eq_true rfl⟩) (fun r_32 u9 hw_31 H locs hP hD hS => ?_)
                      have hP : va_P (gD G) vwCl [(va, .inl (gyI G, 16, .inl h3)), (ca, .inl (gyI G, 16, .inl f)), (cg, .inr (12, [.int (nI 49152), .int (nI 16)]))] H := hP
                      have hD : va_D A [(va, .inl (gyI G, 16, .inl h3)), (ca, .inl (gyI G, 16, .inl f)), (cg, .inr (12, [.int (nI 49152), .int (nI 16)]))] := hD
                      refine lv_if_eq (tgt := 101) hx hb dX7_fits_89 (by decide) (fun c_33 => ?_) (fun c_33 => ?_)
                      · skip
                        refine lv_iconst (v := nI 1) hx hb dX7_fits_101 (by decide) ?_
                        refine lv_goto (tgt := 106) hx hb dX7_fits_102 (by decide) ?_
                        refine lv_iand hx hb dX7_fits_106 ?_
                        refine lv_topi (fun w_34 ew_34 => ?_)
                        refine lv_istore (lv' := [(6, .int w_34), (0, .ref cg), (1, .int (nI 14)), (2, .int (nI lf)), (3, .ref va), (4, .ref ca), (5, .int (nI x)), (7, .int (nI i))]) hx hb dX7_fits_107 hl (by decide) rfl (fun ls hl => ?_)
                        refine lv_iinc (v := nI (i + 1)) (lv' := [(7, .int (nI (i + 1))), (6, .int w_34), (0, .ref cg), (1, .int (nI 14)), (2, .int (nI lf)), (3, .ref va), (4, .ref ca), (5, .int (nI x))]) hx hb dX7_fits_109 hl (k := 7) rfl (nI_add i 1) (by decide) rfl (fun ls hl => ?_)
                        refine lv_goto (tgt := 65) hx hb dX7_fits_112 (by decide) ?_
                        exact ih_65_2 w_34 (i + 1) (by omega) (by omega) _ _ (hP.sub [2, 0, 1] rfl) (hD.sub [2, 0, 1] (by decide) rfl) hS ls (lv_sub hl [2, 3, 4, 5, 6, 7, 1, 0] rfl)
                      · skip
                        refine lv_aload_n hx hb dX7_fits_92 rfl (lv_at hl 3 rfl) ?_
                        refine lv_iload hx hb dX7_fits_93 (lv_at hl 7 rfl) ?_
                        refine va_iald (D := gD G) (cA := gyI G) (n := 16) (f := h3) hx hb hK hP 0 0 rfl rfl (vp_in_nI (n := i) (N := 16) (by omega) (by omega)) dX7_fits_95 ?_
                        refine lv_topi (fun w_35 ew_35 => ?_)
                        refine lv_iload hx hb dX7_fits_96 (lv_at hl 5 rfl) ?_
                        refine lv_icmp_eq (tgt := 105) hx hb dX7_fits_98 (by decide) (fun c_36 => ?_) (fun c_36 => ?_)
                        · skip
                          refine lv_iconst (v := nI 0) hx hb dX7_fits_105 (by decide) ?_
                          refine lv_iand hx hb dX7_fits_106 ?_
                          refine lv_topi (fun w_37 ew_37 => ?_)
                          refine lv_istore (lv' := [(6, .int w_37), (0, .ref cg), (1, .int (nI 14)), (2, .int (nI lf)), (3, .ref va), (4, .ref ca), (5, .int (nI x)), (7, .int (nI i))]) hx hb dX7_fits_107 hl (by decide) rfl (fun ls hl => ?_)
                          refine lv_iinc (v := nI (i + 1)) (lv' := [(7, .int (nI (i + 1))), (6, .int w_37), (0, .ref cg), (1, .int (nI 14)), (2, .int (nI lf)), (3, .ref va), (4, .ref ca), (5, .int (nI x))]) hx hb dX7_fits_109 hl (k := 7) rfl (nI_add i 1) (by decide) rfl (fun ls hl => ?_)
                          refine lv_goto (tgt := 65) hx hb dX7_fits_112 (by decide) ?_
                          exact ih_65_2 w_37 (i + 1) (by omega) (by omega) _ _ (hP.sub [2, 0, 1] rfl) (hD.sub [2, 0, 1] (by decide) rfl) hS ls (lv_sub hl [2, 3, 4, 5, 6, 7, 1, 0] rfl)
                        · skip
                          refine lv_iconst (v := nI 1) hx hb dX7_fits_101 (by decide) ?_
                          refine lv_goto (tgt := 106) hx hb dX7_fits_102 (by decide) ?_
                          refine lv_iand hx hb dX7_fits_106 ?_
                          refine lv_topi (fun w_38 ew_38 => ?_)
                          refine lv_istore (lv' := [(6, .int w_38), (0, .ref cg), (1, .int (nI 14)), (2, .int (nI lf)), (3, .ref va), (4, .ref ca), (5, .int (nI x)), (7, .int (nI i))]) hx hb dX7_fits_107 hl (by decide) rfl (fun ls hl => ?_)
                          refine lv_iinc (v := nI (i + 1)) (lv' := [(7, .int (nI (i + 1))), (6, .int w_38), (0, .ref cg), (1, .int (nI 14)), (2, .int (nI lf)), (3, .ref va), (4, .ref ca), (5, .int (nI x))]) hx hb dX7_fits_109 hl (k := 7) rfl (nI_add i 1) (by decide) rfl (fun ls hl => ?_)
                          refine lv_goto (tgt := 65) hx hb dX7_fits_112 (by decide) ?_
                          exact ih_65_2 w_38 (i + 1) (by omega) (by omega) _ _ (hP.sub [2, 0, 1] rfl) (hD.sub [2, 0, 1] (by decide) rfl) hS ls (lv_sub hl [2, 3, 4, 5, 6, 7, 1, 0] rfl)
              exact cut_65_2 (16 - 0 + 1) r_14 0 (by omega) (Nat.lt_succ_self _) _ _ (hP.sub [0, 1, 2] rfl) (hD.sub [0, 1, 2] (by decide) rfl) hS ls (lv_sub hl [2, 3, 4, 5, 6, 7, 1, 0] rfl)
        exact cut_45_1 (5 - 1 + 1) 1 h (by omega) (by omega) (Nat.lt_succ_self _) _ _ (hP.sub [2, 0, 1] rfl) (hD.sub [2, 0, 1] (by decide) rfl) hS ls (lv_sub hl [1, 2, 3, 4, 5, 0] rfl)
      · skip
        refine lv_aload_n hx hb dX7_fits_30 rfl (lv_at hl 0 rfl) ?_
        refine lv_iload_n hx hb dX7_fits_31 rfl (lv_at hl 1 rfl) ?_
        refine lv_iconst (v := nI 1) hx hb dX7_fits_32 (by decide) ?_
        refine lv_iadd hx hb dX7_fits_33 ?_
        refine lv_toe (show _ = nI 15 by decide) ?_
        refine lv_iload_n hx hb dX7_fits_34 rfl (lv_at hl 2 rfl) ?_
        refine lv_aload_n hx hb dX7_fits_35 rfl (lv_at hl 3 rfl) ?_
        refine lv_aload hx hb dX7_fits_36 (lv_at hl 4 rfl) ?_
        refine fin_i hP hD hS hA [2, 0, 1] [] (wr := []) rfl rfl (by decide) (by decide) (va_runV (As := [.int (nI 15), .int (nI lf), .ref va, .ref ca]) (rest := []) ⟨hx, hb, hml, hown, hts⟩ (c_fits_15 l G cg lf va h ca f (by omega) (by omega) H.size) (cwV 4 hts (gV q1173 q1169 q1170 q73 q1171) rfl rfl rfl (by decide +kernel) ⟨Nat.le_of_ble_eq_true rfl, Nat.le_of_ble_eq_true rfl⟩) (preV (q0 := 2) (ci := 12) hK hE hP hD hS hA [2, 0, 1] rfl (by decide) rfl rfl) rfl rfl hl.1 rfl (lv_room (Nat.le_of_ble_eq_true rfl)) dX7_fits_38 ⟨Nat.le_of_ble_eq_true rfl, Nat.le_of_ble_eq_true rfl⟩) (fun r_41 u9 hw_40 H locs hP hD hS => ?_)
        obtain ⟨h2_39, rfl⟩ : ∃ z, z = u9 := ⟨_, rfl⟩
        subst hw_40
        have hP : va_P (gD G) vwCl [(cg, .inr (12, [.int (nI 49152), .int (nI 16)])), (va, .inl (gyI G, 16, .inl h2_39)), (ca, .inl (gyI G, 16, .inl f))] H := hP
        have hD : va_D A [(cg, .inr (12, [.int (nI 49152), .int (nI 16)])), (va, .inl (gyI G, 16, .inl h2_39)), (ca, .inl (gyI G, 16, .inl f))] := hD
        have hP9 := hP.sub (ws' := [(cg, .inr (12, [.int (nI 49152), .int (nI 16)])), (va, .inl (gyI G, 16, .inl h2_39)), (ca, .inl (gyI G, 16, .inl f))]) [0, 1, 2] rfl
        have hD9 := hD.sub (ws' := [(cg, .inr (12, [.int (nI 49152), .int (nI 16)])), (va, .inl (gyI G, 16, .inl h2_39)), (ca, .inl (gyI G, 16, .inl f))]) [0, 1, 2] (by decide) rfl
        subst hQ
        exact W.zret (v := nI 0) hx hb hr (by decide) (fun t ht hW => ⟨⟨nI 0, h2_39, rfl, rfl, by rw [ht]; exact hP9, hD9⟩, hS.F ht⟩) hS.2.2 dX7_fits_41
  · skip
    have c_1 : 14 = 16 := (nI_eq (a := 14) (b := 16) (by omega) (by omega)).mp c_1
    exact absurd c_1 (by decide)
set_option maxHeartbeats 4000000 in
set_option maxRecDepth 100000 in
theorem c_fits_13 (l : Launch) (G : GG) (cg : Nat) (lf : Nat) (va : Nat) (h : Nat → Int32) (ca : Nat) (f : Nat → Int32) (hlf : 8 < lf) (hlf16 : lf ≤ 16) : Mi l G yX7_fits cX7_fits 8 (some .boolean) ({ frames := 3, cells := 0, slots := 0, locals := 81 } : Room) [.ref cg, .int (nI 13), .int (nI lf), .ref va, .ref ca] [(cg, .inr (12, [.int (nI 49152), .int (nI 16)])), (va, .inl (gyI G, 16, .inl h)), (ca, .inl (gyI G, 16, .inl f))] (fun (r : Int32) (u : (Nat → Int32)) => r = nI 0) (fun (u : (Nat → Int32)) => [(cg, .inr (12, [.int (nI 49152), .int (nI 16)])), (va, .inl (gyI G, 16, .inl u)), (ca, .inl (gyI G, 16, .inl f))]) := by
  intro sz
  refine Met.ofW (cc := cX7_fits) (maxL := 8) (ret := (some .boolean)) (by decide) rfl ?_
  intro p e s m args below meth c s₁ B9 hml hv
  obtain ⟨rfl, hsz, hP, hK, hD0, hE⟩ := hv
  have hx := B9.exec
  have hb := B9.bytes
  have hr := B9.returns
  have hts : ∀ w ∈ WW, w.before ([.ref cg, .int (nI 13), .int (nI lf), .ref va, .ref ca] : List Value).toArray s = true := fun w h => atoms_spec (ws := .code yX7_fits cX7_fits 8 (some .boolean) :: WW) B9.pre w (List.mem_cons_of_mem _ h)
  have hown : s.vm.findClass RX7 = some m.cls := findClass_of_methodNamed B9.named
  subst hsz
  have hD := hD0.self (sz := s.heap.size)
  generalize hAe : va_A [(cg, .inr (12, [.int (nI 49152), .int (nI 16)])), (va, .inl (gyI G, 16, .inl h)), (ca, .inl (gyI G, 16, .inl f))] s.heap.size = A at hD hE ⊢
  have hA : ∀ q : Nat, s.heap.size ≤ q → A q := fun q h => by rw [← hAe]; exact Or.inr h
  have hl := lv_entry ([.ref cg, .int (nI 13), .int (nI lf), .ref va, .ref ca]) (n := 8) (Nat.le_of_ble_eq_true rfl)
  rw [lg_entry_eq]
  generalize (lg_sl ([.ref cg, .int (nI 13), .int (nI lf), .ref va, .ref ca]) ++ List.replicate (8 - (lg_sl ([.ref cg, .int (nI 13), .int (nI lf), .ref va, .ref ca])).length) Slot.unset).toArray = ls at hl ⊢
  have hl : lv_has ls 8 [(0, .ref cg), (1, .int (nI 13)), (2, .int (nI lf)), (3, .ref va), (4, .ref ca)] := hl
  refine qgen (fun Q hQ => ?_)
  refine hgen (fun H locs hP hD hS => ?_) hP hD
  refine lv_iload_n hx hb dX7_fits_0 rfl (lv_at hl 1 rfl) ?_
  refine lv_bipush (v := nI 16) hx hb dX7_fits_1 (by decide) ?_
  refine lv_icmp_ne (tgt := 16) hx hb dX7_fits_3 (by decide) (fun c_1 => ?_) (fun c_1 => ?_)
  · skip
    have c_1 : ¬ 13 = 16 := fun z => c_1 ((nI_eq (a := 13) (b := 16) (by omega) (by omega)).mpr z)
    refine lv_aload_n hx hb dX7_fits_16 rfl (lv_at hl 0 rfl) ?_
    refine lv_iload_n hx hb dX7_fits_17 rfl (lv_at hl 1 rfl) ?_
    refine fin_i hP hD hS hA [0] [1, 2] (wr := [(va, .inl (gyI G, 16, .inl h)), (ca, .inl (gyI G, 16, .inl f))]) rfl rfl (by decide) (by decide) (va_runV (As := [.int (nI 13)]) (rest := []) ⟨hx, hb, hml, hown, hts⟩ (c_X7_has l G cg 13 (by omega) H.size) (cwV 1 hts (gV q1172 q1165 q1166 q73 q1167) rfl rfl rfl (by decide +kernel) ⟨Nat.le_of_ble_eq_true rfl, Nat.le_of_ble_eq_true rfl⟩) (preV (q0 := 0) (ci := 12) hK hE hP hD hS hA [0] rfl (by decide) rfl rfl) rfl rfl hl.1 rfl (lv_room (Nat.le_of_ble_eq_true rfl)) dX7_fits_18 ⟨Nat.le_of_ble_eq_true rfl, Nat.le_of_ble_eq_true rfl⟩) (fun r_4 u9 hw_3 H locs hP hD hS => ?_)
    obtain ⟨bn_2, rfl⟩ : ∃ z, z = u9 := ⟨_, rfl⟩
    obtain ⟨rfl, hbn_5, hlo_6, hhi_7⟩ := hw_3
    have hbn_5 : bn_2 ≤ 1 := hbn_5
    have hlo_6 : 13 < 14 → bn_2 = 0 := hlo_6
    have hhi_7 : 14 ≤ 13 → bn_2 = 1 := hhi_7
    have hP : va_P (gD G) vwCl [(va, .inl (gyI G, 16, .inl h)), (ca, .inl (gyI G, 16, .inl f)), (cg, .inr (12, [.int (nI 49152), .int (nI 16)]))] H := hP
    have hD : va_D A [(va, .inl (gyI G, 16, .inl h)), (ca, .inl (gyI G, 16, .inl f)), (cg, .inr (12, [.int (nI 49152), .int (nI 16)]))] := hD
    refine lv_if_eq (tgt := 30) hx hb dX7_fits_21 (by decide) (fun c_8 => ?_) (fun c_8 => ?_)
    · skip
      have c_8 : bn_2 = 0 := (nI_eq (a := bn_2) (b := 0) (by omega) (by omega)).mp c_8
      refine lv_aload_n hx hb dX7_fits_30 rfl (lv_at hl 0 rfl) ?_
      refine lv_iload_n hx hb dX7_fits_31 rfl (lv_at hl 1 rfl) ?_
      refine lv_iconst (v := nI 1) hx hb dX7_fits_32 (by decide) ?_
      refine lv_iadd hx hb dX7_fits_33 ?_
      refine lv_toe (show _ = nI 14 by decide) ?_
      refine lv_iload_n hx hb dX7_fits_34 rfl (lv_at hl 2 rfl) ?_
      refine lv_aload_n hx hb dX7_fits_35 rfl (lv_at hl 3 rfl) ?_
      refine lv_aload hx hb dX7_fits_36 (lv_at hl 4 rfl) ?_
      refine fin_i hP hD hS hA [2, 0, 1] [] (wr := []) rfl rfl (by decide) (by decide) (va_runV (As := [.int (nI 14), .int (nI lf), .ref va, .ref ca]) (rest := []) ⟨hx, hb, hml, hown, hts⟩ (c_fits_14 l G cg lf va h ca f (by omega) (by omega) H.size) (cwV 4 hts (gV q1173 q1169 q1170 q73 q1171) rfl rfl rfl (by decide +kernel) ⟨Nat.le_of_ble_eq_true rfl, Nat.le_of_ble_eq_true rfl⟩) (preV (q0 := 2) (ci := 12) hK hE hP hD hS hA [2, 0, 1] rfl (by decide) rfl rfl) rfl rfl hl.1 rfl (lv_room (Nat.le_of_ble_eq_true rfl)) dX7_fits_38 ⟨Nat.le_of_ble_eq_true rfl, Nat.le_of_ble_eq_true rfl⟩) (fun r_11 u9 hw_10 H locs hP hD hS => ?_)
      obtain ⟨h2_9, rfl⟩ : ∃ z, z = u9 := ⟨_, rfl⟩
      subst hw_10
      have hP : va_P (gD G) vwCl [(cg, .inr (12, [.int (nI 49152), .int (nI 16)])), (va, .inl (gyI G, 16, .inl h2_9)), (ca, .inl (gyI G, 16, .inl f))] H := hP
      have hD : va_D A [(cg, .inr (12, [.int (nI 49152), .int (nI 16)])), (va, .inl (gyI G, 16, .inl h2_9)), (ca, .inl (gyI G, 16, .inl f))] := hD
      have hP9 := hP.sub (ws' := [(cg, .inr (12, [.int (nI 49152), .int (nI 16)])), (va, .inl (gyI G, 16, .inl h2_9)), (ca, .inl (gyI G, 16, .inl f))]) [0, 1, 2] rfl
      have hD9 := hD.sub (ws' := [(cg, .inr (12, [.int (nI 49152), .int (nI 16)])), (va, .inl (gyI G, 16, .inl h2_9)), (ca, .inl (gyI G, 16, .inl f))]) [0, 1, 2] (by decide) rfl
      subst hQ
      exact W.zret (v := nI 0) hx hb hr (by decide) (fun t ht hW => ⟨⟨nI 0, h2_9, rfl, rfl, by rw [ht]; exact hP9, hD9⟩, hS.F ht⟩) hS.2.2 dX7_fits_41
    · skip
      have c_8 : ¬ bn_2 = 0 := fun z => c_8 ((nI_eq (a := bn_2) (b := 0) (by omega) (by omega)).mpr z)
      exfalso; omega
  · skip
    have c_1 : 13 = 16 := (nI_eq (a := 13) (b := 16) (by omega) (by omega)).mp c_1
    exact absurd c_1 (by decide)
set_option maxHeartbeats 4000000 in
set_option maxRecDepth 100000 in
theorem c_fits_12 (l : Launch) (G : GG) (cg : Nat) (lf : Nat) (va : Nat) (h : Nat → Int32) (ca : Nat) (f : Nat → Int32) (hlf : 8 < lf) (hlf16 : lf ≤ 16) : Mi l G yX7_fits cX7_fits 8 (some .boolean) ({ frames := 4, cells := 0, slots := 0, locals := 108 } : Room) [.ref cg, .int (nI 12), .int (nI lf), .ref va, .ref ca] [(cg, .inr (12, [.int (nI 49152), .int (nI 16)])), (va, .inl (gyI G, 16, .inl h)), (ca, .inl (gyI G, 16, .inl f))] (fun (r : Int32) (u : (Nat → Int32)) => r = nI 0) (fun (u : (Nat → Int32)) => [(cg, .inr (12, [.int (nI 49152), .int (nI 16)])), (va, .inl (gyI G, 16, .inl u)), (ca, .inl (gyI G, 16, .inl f))]) := by
  intro sz
  refine Met.ofW (cc := cX7_fits) (maxL := 8) (ret := (some .boolean)) (by decide) rfl ?_
  intro p e s m args below meth c s₁ B9 hml hv
  obtain ⟨rfl, hsz, hP, hK, hD0, hE⟩ := hv
  have hx := B9.exec
  have hb := B9.bytes
  have hr := B9.returns
  have hts : ∀ w ∈ WW, w.before ([.ref cg, .int (nI 12), .int (nI lf), .ref va, .ref ca] : List Value).toArray s = true := fun w h => atoms_spec (ws := .code yX7_fits cX7_fits 8 (some .boolean) :: WW) B9.pre w (List.mem_cons_of_mem _ h)
  have hown : s.vm.findClass RX7 = some m.cls := findClass_of_methodNamed B9.named
  subst hsz
  have hD := hD0.self (sz := s.heap.size)
  generalize hAe : va_A [(cg, .inr (12, [.int (nI 49152), .int (nI 16)])), (va, .inl (gyI G, 16, .inl h)), (ca, .inl (gyI G, 16, .inl f))] s.heap.size = A at hD hE ⊢
  have hA : ∀ q : Nat, s.heap.size ≤ q → A q := fun q h => by rw [← hAe]; exact Or.inr h
  have hl := lv_entry ([.ref cg, .int (nI 12), .int (nI lf), .ref va, .ref ca]) (n := 8) (Nat.le_of_ble_eq_true rfl)
  rw [lg_entry_eq]
  generalize (lg_sl ([.ref cg, .int (nI 12), .int (nI lf), .ref va, .ref ca]) ++ List.replicate (8 - (lg_sl ([.ref cg, .int (nI 12), .int (nI lf), .ref va, .ref ca])).length) Slot.unset).toArray = ls at hl ⊢
  have hl : lv_has ls 8 [(0, .ref cg), (1, .int (nI 12)), (2, .int (nI lf)), (3, .ref va), (4, .ref ca)] := hl
  refine qgen (fun Q hQ => ?_)
  refine hgen (fun H locs hP hD hS => ?_) hP hD
  refine lv_iload_n hx hb dX7_fits_0 rfl (lv_at hl 1 rfl) ?_
  refine lv_bipush (v := nI 16) hx hb dX7_fits_1 (by decide) ?_
  refine lv_icmp_ne (tgt := 16) hx hb dX7_fits_3 (by decide) (fun c_1 => ?_) (fun c_1 => ?_)
  · skip
    have c_1 : ¬ 12 = 16 := fun z => c_1 ((nI_eq (a := 12) (b := 16) (by omega) (by omega)).mpr z)
    refine lv_aload_n hx hb dX7_fits_16 rfl (lv_at hl 0 rfl) ?_
    refine lv_iload_n hx hb dX7_fits_17 rfl (lv_at hl 1 rfl) ?_
    refine fin_i hP hD hS hA [0] [1, 2] (wr := [(va, .inl (gyI G, 16, .inl h)), (ca, .inl (gyI G, 16, .inl f))]) rfl rfl (by decide) (by decide) (va_runV (As := [.int (nI 12)]) (rest := []) ⟨hx, hb, hml, hown, hts⟩ (c_X7_has l G cg 12 (by omega) H.size) (cwV 1 hts (gV q1172 q1165 q1166 q73 q1167) rfl rfl rfl (by decide +kernel) ⟨Nat.le_of_ble_eq_true rfl, Nat.le_of_ble_eq_true rfl⟩) (preV (q0 := 0) (ci := 12) hK hE hP hD hS hA [0] rfl (by decide) rfl rfl) rfl rfl hl.1 rfl (lv_room (Nat.le_of_ble_eq_true rfl)) dX7_fits_18 ⟨Nat.le_of_ble_eq_true rfl, Nat.le_of_ble_eq_true rfl⟩) (fun r_4 u9 hw_3 H locs hP hD hS => ?_)
    obtain ⟨bn_2, rfl⟩ : ∃ z, z = u9 := ⟨_, rfl⟩
    obtain ⟨rfl, hbn_5, hlo_6, hhi_7⟩ := hw_3
    have hbn_5 : bn_2 ≤ 1 := hbn_5
    have hlo_6 : 12 < 14 → bn_2 = 0 := hlo_6
    have hhi_7 : 14 ≤ 12 → bn_2 = 1 := hhi_7
    have hP : va_P (gD G) vwCl [(va, .inl (gyI G, 16, .inl h)), (ca, .inl (gyI G, 16, .inl f)), (cg, .inr (12, [.int (nI 49152), .int (nI 16)]))] H := hP
    have hD : va_D A [(va, .inl (gyI G, 16, .inl h)), (ca, .inl (gyI G, 16, .inl f)), (cg, .inr (12, [.int (nI 49152), .int (nI 16)]))] := hD
    refine lv_if_eq (tgt := 30) hx hb dX7_fits_21 (by decide) (fun c_8 => ?_) (fun c_8 => ?_)
    · skip
      have c_8 : bn_2 = 0 := (nI_eq (a := bn_2) (b := 0) (by omega) (by omega)).mp c_8
      refine lv_aload_n hx hb dX7_fits_30 rfl (lv_at hl 0 rfl) ?_
      refine lv_iload_n hx hb dX7_fits_31 rfl (lv_at hl 1 rfl) ?_
      refine lv_iconst (v := nI 1) hx hb dX7_fits_32 (by decide) ?_
      refine lv_iadd hx hb dX7_fits_33 ?_
      refine lv_toe (show _ = nI 13 by decide) ?_
      refine lv_iload_n hx hb dX7_fits_34 rfl (lv_at hl 2 rfl) ?_
      refine lv_aload_n hx hb dX7_fits_35 rfl (lv_at hl 3 rfl) ?_
      refine lv_aload hx hb dX7_fits_36 (lv_at hl 4 rfl) ?_
      refine fin_i hP hD hS hA [2, 0, 1] [] (wr := []) rfl rfl (by decide) (by decide) (va_runV (As := [.int (nI 13), .int (nI lf), .ref va, .ref ca]) (rest := []) ⟨hx, hb, hml, hown, hts⟩ (c_fits_13 l G cg lf va h ca f (by omega) (by omega) H.size) (cwV 4 hts (gV q1173 q1169 q1170 q73 q1171) rfl rfl rfl (by decide +kernel) ⟨Nat.le_of_ble_eq_true rfl, Nat.le_of_ble_eq_true rfl⟩) (preV (q0 := 2) (ci := 12) hK hE hP hD hS hA [2, 0, 1] rfl (by decide) rfl rfl) rfl rfl hl.1 rfl (lv_room (Nat.le_of_ble_eq_true rfl)) dX7_fits_38 ⟨Nat.le_of_ble_eq_true rfl, Nat.le_of_ble_eq_true rfl⟩) (fun r_11 u9 hw_10 H locs hP hD hS => ?_)
      obtain ⟨h2_9, rfl⟩ : ∃ z, z = u9 := ⟨_, rfl⟩
      subst hw_10
      have hP : va_P (gD G) vwCl [(cg, .inr (12, [.int (nI 49152), .int (nI 16)])), (va, .inl (gyI G, 16, .inl h2_9)), (ca, .inl (gyI G, 16, .inl f))] H := hP
      have hD : va_D A [(cg, .inr (12, [.int (nI 49152), .int (nI 16)])), (va, .inl (gyI G, 16, .inl h2_9)), (ca, .inl (gyI G, 16, .inl f))] := hD
      have hP9 := hP.sub (ws' := [(cg, .inr (12, [.int (nI 49152), .int (nI 16)])), (va, .inl (gyI G, 16, .inl h2_9)), (ca, .inl (gyI G, 16, .inl f))]) [0, 1, 2] rfl
      have hD9 := hD.sub (ws' := [(cg, .inr (12, [.int (nI 49152), .int (nI 16)])), (va, .inl (gyI G, 16, .inl h2_9)), (ca, .inl (gyI G, 16, .inl f))]) [0, 1, 2] (by decide) rfl
      subst hQ
      exact W.zret (v := nI 0) hx hb hr (by decide) (fun t ht hW => ⟨⟨nI 0, h2_9, rfl, rfl, by rw [ht]; exact hP9, hD9⟩, hS.F ht⟩) hS.2.2 dX7_fits_41
    · skip
      have c_8 : ¬ bn_2 = 0 := fun z => c_8 ((nI_eq (a := bn_2) (b := 0) (by omega) (by omega)).mpr z)
      exfalso; omega
  · skip
    have c_1 : 12 = 16 := (nI_eq (a := 12) (b := 16) (by omega) (by omega)).mp c_1
    exact absurd c_1 (by decide)
set_option maxHeartbeats 4000000 in
set_option maxRecDepth 100000 in
theorem c_fits_11 (l : Launch) (G : GG) (cg : Nat) (lf : Nat) (va : Nat) (h : Nat → Int32) (ca : Nat) (f : Nat → Int32) (hlf : 8 < lf) (hlf16 : lf ≤ 16) : Mi l G yX7_fits cX7_fits 8 (some .boolean) ({ frames := 5, cells := 0, slots := 0, locals := 135 } : Room) [.ref cg, .int (nI 11), .int (nI lf), .ref va, .ref ca] [(cg, .inr (12, [.int (nI 49152), .int (nI 16)])), (va, .inl (gyI G, 16, .inl h)), (ca, .inl (gyI G, 16, .inl f))] (fun (r : Int32) (u : (Nat → Int32)) => r = nI 0) (fun (u : (Nat → Int32)) => [(cg, .inr (12, [.int (nI 49152), .int (nI 16)])), (va, .inl (gyI G, 16, .inl u)), (ca, .inl (gyI G, 16, .inl f))]) := by
  intro sz
  refine Met.ofW (cc := cX7_fits) (maxL := 8) (ret := (some .boolean)) (by decide) rfl ?_
  intro p e s m args below meth c s₁ B9 hml hv
  obtain ⟨rfl, hsz, hP, hK, hD0, hE⟩ := hv
  have hx := B9.exec
  have hb := B9.bytes
  have hr := B9.returns
  have hts : ∀ w ∈ WW, w.before ([.ref cg, .int (nI 11), .int (nI lf), .ref va, .ref ca] : List Value).toArray s = true := fun w h => atoms_spec (ws := .code yX7_fits cX7_fits 8 (some .boolean) :: WW) B9.pre w (List.mem_cons_of_mem _ h)
  have hown : s.vm.findClass RX7 = some m.cls := findClass_of_methodNamed B9.named
  subst hsz
  have hD := hD0.self (sz := s.heap.size)
  generalize hAe : va_A [(cg, .inr (12, [.int (nI 49152), .int (nI 16)])), (va, .inl (gyI G, 16, .inl h)), (ca, .inl (gyI G, 16, .inl f))] s.heap.size = A at hD hE ⊢
  have hA : ∀ q : Nat, s.heap.size ≤ q → A q := fun q h => by rw [← hAe]; exact Or.inr h
  have hl := lv_entry ([.ref cg, .int (nI 11), .int (nI lf), .ref va, .ref ca]) (n := 8) (Nat.le_of_ble_eq_true rfl)
  rw [lg_entry_eq]
  generalize (lg_sl ([.ref cg, .int (nI 11), .int (nI lf), .ref va, .ref ca]) ++ List.replicate (8 - (lg_sl ([.ref cg, .int (nI 11), .int (nI lf), .ref va, .ref ca])).length) Slot.unset).toArray = ls at hl ⊢
  have hl : lv_has ls 8 [(0, .ref cg), (1, .int (nI 11)), (2, .int (nI lf)), (3, .ref va), (4, .ref ca)] := hl
  refine qgen (fun Q hQ => ?_)
  refine hgen (fun H locs hP hD hS => ?_) hP hD
  refine lv_iload_n hx hb dX7_fits_0 rfl (lv_at hl 1 rfl) ?_
  refine lv_bipush (v := nI 16) hx hb dX7_fits_1 (by decide) ?_
  refine lv_icmp_ne (tgt := 16) hx hb dX7_fits_3 (by decide) (fun c_1 => ?_) (fun c_1 => ?_)
  · skip
    have c_1 : ¬ 11 = 16 := fun z => c_1 ((nI_eq (a := 11) (b := 16) (by omega) (by omega)).mpr z)
    refine lv_aload_n hx hb dX7_fits_16 rfl (lv_at hl 0 rfl) ?_
    refine lv_iload_n hx hb dX7_fits_17 rfl (lv_at hl 1 rfl) ?_
    refine fin_i hP hD hS hA [0] [1, 2] (wr := [(va, .inl (gyI G, 16, .inl h)), (ca, .inl (gyI G, 16, .inl f))]) rfl rfl (by decide) (by decide) (va_runV (As := [.int (nI 11)]) (rest := []) ⟨hx, hb, hml, hown, hts⟩ (c_X7_has l G cg 11 (by omega) H.size) (cwV 1 hts (gV q1172 q1165 q1166 q73 q1167) rfl rfl rfl (by decide +kernel) ⟨Nat.le_of_ble_eq_true rfl, Nat.le_of_ble_eq_true rfl⟩) (preV (q0 := 0) (ci := 12) hK hE hP hD hS hA [0] rfl (by decide) rfl rfl) rfl rfl hl.1 rfl (lv_room (Nat.le_of_ble_eq_true rfl)) dX7_fits_18 ⟨Nat.le_of_ble_eq_true rfl, Nat.le_of_ble_eq_true rfl⟩) (fun r_4 u9 hw_3 H locs hP hD hS => ?_)
    obtain ⟨bn_2, rfl⟩ : ∃ z, z = u9 := ⟨_, rfl⟩
    obtain ⟨rfl, hbn_5, hlo_6, hhi_7⟩ := hw_3
    have hbn_5 : bn_2 ≤ 1 := hbn_5
    have hlo_6 : 11 < 14 → bn_2 = 0 := hlo_6
    have hhi_7 : 14 ≤ 11 → bn_2 = 1 := hhi_7
    have hP : va_P (gD G) vwCl [(va, .inl (gyI G, 16, .inl h)), (ca, .inl (gyI G, 16, .inl f)), (cg, .inr (12, [.int (nI 49152), .int (nI 16)]))] H := hP
    have hD : va_D A [(va, .inl (gyI G, 16, .inl h)), (ca, .inl (gyI G, 16, .inl f)), (cg, .inr (12, [.int (nI 49152), .int (nI 16)]))] := hD
    refine lv_if_eq (tgt := 30) hx hb dX7_fits_21 (by decide) (fun c_8 => ?_) (fun c_8 => ?_)
    · skip
      have c_8 : bn_2 = 0 := (nI_eq (a := bn_2) (b := 0) (by omega) (by omega)).mp c_8
      refine lv_aload_n hx hb dX7_fits_30 rfl (lv_at hl 0 rfl) ?_
      refine lv_iload_n hx hb dX7_fits_31 rfl (lv_at hl 1 rfl) ?_
      refine lv_iconst (v := nI 1) hx hb dX7_fits_32 (by decide) ?_
      refine lv_iadd hx hb dX7_fits_33 ?_
      refine lv_toe (show _ = nI 12 by decide) ?_
      refine lv_iload_n hx hb dX7_fits_34 rfl (lv_at hl 2 rfl) ?_
      refine lv_aload_n hx hb dX7_fits_35 rfl (lv_at hl 3 rfl) ?_
      refine lv_aload hx hb dX7_fits_36 (lv_at hl 4 rfl) ?_
      refine fin_i hP hD hS hA [2, 0, 1] [] (wr := []) rfl rfl (by decide) (by decide) (va_runV (As := [.int (nI 12), .int (nI lf), .ref va, .ref ca]) (rest := []) ⟨hx, hb, hml, hown, hts⟩ (c_fits_12 l G cg lf va h ca f (by omega) (by omega) H.size) (cwV 4 hts (gV q1173 q1169 q1170 q73 q1171) rfl rfl rfl (by decide +kernel) ⟨Nat.le_of_ble_eq_true rfl, Nat.le_of_ble_eq_true rfl⟩) (preV (q0 := 2) (ci := 12) hK hE hP hD hS hA [2, 0, 1] rfl (by decide) rfl rfl) rfl rfl hl.1 rfl (lv_room (Nat.le_of_ble_eq_true rfl)) dX7_fits_38 ⟨Nat.le_of_ble_eq_true rfl, Nat.le_of_ble_eq_true rfl⟩) (fun r_11 u9 hw_10 H locs hP hD hS => ?_)
      obtain ⟨h2_9, rfl⟩ : ∃ z, z = u9 := ⟨_, rfl⟩
      subst hw_10
      have hP : va_P (gD G) vwCl [(cg, .inr (12, [.int (nI 49152), .int (nI 16)])), (va, .inl (gyI G, 16, .inl h2_9)), (ca, .inl (gyI G, 16, .inl f))] H := hP
      have hD : va_D A [(cg, .inr (12, [.int (nI 49152), .int (nI 16)])), (va, .inl (gyI G, 16, .inl h2_9)), (ca, .inl (gyI G, 16, .inl f))] := hD
      have hP9 := hP.sub (ws' := [(cg, .inr (12, [.int (nI 49152), .int (nI 16)])), (va, .inl (gyI G, 16, .inl h2_9)), (ca, .inl (gyI G, 16, .inl f))]) [0, 1, 2] rfl
      have hD9 := hD.sub (ws' := [(cg, .inr (12, [.int (nI 49152), .int (nI 16)])), (va, .inl (gyI G, 16, .inl h2_9)), (ca, .inl (gyI G, 16, .inl f))]) [0, 1, 2] (by decide) rfl
      subst hQ
      exact W.zret (v := nI 0) hx hb hr (by decide) (fun t ht hW => ⟨⟨nI 0, h2_9, rfl, rfl, by rw [ht]; exact hP9, hD9⟩, hS.F ht⟩) hS.2.2 dX7_fits_41
    · skip
      have c_8 : ¬ bn_2 = 0 := fun z => c_8 ((nI_eq (a := bn_2) (b := 0) (by omega) (by omega)).mpr z)
      exfalso; omega
  · skip
    have c_1 : 11 = 16 := (nI_eq (a := 11) (b := 16) (by omega) (by omega)).mp c_1
    exact absurd c_1 (by decide)
set_option maxHeartbeats 4000000 in
set_option maxRecDepth 100000 in
theorem c_fits_10 (l : Launch) (G : GG) (cg : Nat) (lf : Nat) (va : Nat) (h : Nat → Int32) (ca : Nat) (f : Nat → Int32) (hlf : 8 < lf) (hlf16 : lf ≤ 16) : Mi l G yX7_fits cX7_fits 8 (some .boolean) ({ frames := 6, cells := 0, slots := 0, locals := 162 } : Room) [.ref cg, .int (nI 10), .int (nI lf), .ref va, .ref ca] [(cg, .inr (12, [.int (nI 49152), .int (nI 16)])), (va, .inl (gyI G, 16, .inl h)), (ca, .inl (gyI G, 16, .inl f))] (fun (r : Int32) (u : (Nat → Int32)) => r = nI 0) (fun (u : (Nat → Int32)) => [(cg, .inr (12, [.int (nI 49152), .int (nI 16)])), (va, .inl (gyI G, 16, .inl u)), (ca, .inl (gyI G, 16, .inl f))]) := by
  intro sz
  refine Met.ofW (cc := cX7_fits) (maxL := 8) (ret := (some .boolean)) (by decide) rfl ?_
  intro p e s m args below meth c s₁ B9 hml hv
  obtain ⟨rfl, hsz, hP, hK, hD0, hE⟩ := hv
  have hx := B9.exec
  have hb := B9.bytes
  have hr := B9.returns
  have hts : ∀ w ∈ WW, w.before ([.ref cg, .int (nI 10), .int (nI lf), .ref va, .ref ca] : List Value).toArray s = true := fun w h => atoms_spec (ws := .code yX7_fits cX7_fits 8 (some .boolean) :: WW) B9.pre w (List.mem_cons_of_mem _ h)
  have hown : s.vm.findClass RX7 = some m.cls := findClass_of_methodNamed B9.named
  subst hsz
  have hD := hD0.self (sz := s.heap.size)
  generalize hAe : va_A [(cg, .inr (12, [.int (nI 49152), .int (nI 16)])), (va, .inl (gyI G, 16, .inl h)), (ca, .inl (gyI G, 16, .inl f))] s.heap.size = A at hD hE ⊢
  have hA : ∀ q : Nat, s.heap.size ≤ q → A q := fun q h => by rw [← hAe]; exact Or.inr h
  have hl := lv_entry ([.ref cg, .int (nI 10), .int (nI lf), .ref va, .ref ca]) (n := 8) (Nat.le_of_ble_eq_true rfl)
  rw [lg_entry_eq]
  generalize (lg_sl ([.ref cg, .int (nI 10), .int (nI lf), .ref va, .ref ca]) ++ List.replicate (8 - (lg_sl ([.ref cg, .int (nI 10), .int (nI lf), .ref va, .ref ca])).length) Slot.unset).toArray = ls at hl ⊢
  have hl : lv_has ls 8 [(0, .ref cg), (1, .int (nI 10)), (2, .int (nI lf)), (3, .ref va), (4, .ref ca)] := hl
  refine qgen (fun Q hQ => ?_)
  refine hgen (fun H locs hP hD hS => ?_) hP hD
  refine lv_iload_n hx hb dX7_fits_0 rfl (lv_at hl 1 rfl) ?_
  refine lv_bipush (v := nI 16) hx hb dX7_fits_1 (by decide) ?_
  refine lv_icmp_ne (tgt := 16) hx hb dX7_fits_3 (by decide) (fun c_1 => ?_) (fun c_1 => ?_)
  · skip
    have c_1 : ¬ 10 = 16 := fun z => c_1 ((nI_eq (a := 10) (b := 16) (by omega) (by omega)).mpr z)
    refine lv_aload_n hx hb dX7_fits_16 rfl (lv_at hl 0 rfl) ?_
    refine lv_iload_n hx hb dX7_fits_17 rfl (lv_at hl 1 rfl) ?_
    refine fin_i hP hD hS hA [0] [1, 2] (wr := [(va, .inl (gyI G, 16, .inl h)), (ca, .inl (gyI G, 16, .inl f))]) rfl rfl (by decide) (by decide) (va_runV (As := [.int (nI 10)]) (rest := []) ⟨hx, hb, hml, hown, hts⟩ (c_X7_has l G cg 10 (by omega) H.size) (cwV 1 hts (gV q1172 q1165 q1166 q73 q1167) rfl rfl rfl (by decide +kernel) ⟨Nat.le_of_ble_eq_true rfl, Nat.le_of_ble_eq_true rfl⟩) (preV (q0 := 0) (ci := 12) hK hE hP hD hS hA [0] rfl (by decide) rfl rfl) rfl rfl hl.1 rfl (lv_room (Nat.le_of_ble_eq_true rfl)) dX7_fits_18 ⟨Nat.le_of_ble_eq_true rfl, Nat.le_of_ble_eq_true rfl⟩) (fun r_4 u9 hw_3 H locs hP hD hS => ?_)
    obtain ⟨bn_2, rfl⟩ : ∃ z, z = u9 := ⟨_, rfl⟩
    obtain ⟨rfl, hbn_5, hlo_6, hhi_7⟩ := hw_3
    have hbn_5 : bn_2 ≤ 1 := hbn_5
    have hlo_6 : 10 < 14 → bn_2 = 0 := hlo_6
    have hhi_7 : 14 ≤ 10 → bn_2 = 1 := hhi_7
    have hP : va_P (gD G) vwCl [(va, .inl (gyI G, 16, .inl h)), (ca, .inl (gyI G, 16, .inl f)), (cg, .inr (12, [.int (nI 49152), .int (nI 16)]))] H := hP
    have hD : va_D A [(va, .inl (gyI G, 16, .inl h)), (ca, .inl (gyI G, 16, .inl f)), (cg, .inr (12, [.int (nI 49152), .int (nI 16)]))] := hD
    refine lv_if_eq (tgt := 30) hx hb dX7_fits_21 (by decide) (fun c_8 => ?_) (fun c_8 => ?_)
    · skip
      have c_8 : bn_2 = 0 := (nI_eq (a := bn_2) (b := 0) (by omega) (by omega)).mp c_8
      refine lv_aload_n hx hb dX7_fits_30 rfl (lv_at hl 0 rfl) ?_
      refine lv_iload_n hx hb dX7_fits_31 rfl (lv_at hl 1 rfl) ?_
      refine lv_iconst (v := nI 1) hx hb dX7_fits_32 (by decide) ?_
      refine lv_iadd hx hb dX7_fits_33 ?_
      refine lv_toe (show _ = nI 11 by decide) ?_
      refine lv_iload_n hx hb dX7_fits_34 rfl (lv_at hl 2 rfl) ?_
      refine lv_aload_n hx hb dX7_fits_35 rfl (lv_at hl 3 rfl) ?_
      refine lv_aload hx hb dX7_fits_36 (lv_at hl 4 rfl) ?_
      refine fin_i hP hD hS hA [2, 0, 1] [] (wr := []) rfl rfl (by decide) (by decide) (va_runV (As := [.int (nI 11), .int (nI lf), .ref va, .ref ca]) (rest := []) ⟨hx, hb, hml, hown, hts⟩ (c_fits_11 l G cg lf va h ca f (by omega) (by omega) H.size) (cwV 4 hts (gV q1173 q1169 q1170 q73 q1171) rfl rfl rfl (by decide +kernel) ⟨Nat.le_of_ble_eq_true rfl, Nat.le_of_ble_eq_true rfl⟩) (preV (q0 := 2) (ci := 12) hK hE hP hD hS hA [2, 0, 1] rfl (by decide) rfl rfl) rfl rfl hl.1 rfl (lv_room (Nat.le_of_ble_eq_true rfl)) dX7_fits_38 ⟨Nat.le_of_ble_eq_true rfl, Nat.le_of_ble_eq_true rfl⟩) (fun r_11 u9 hw_10 H locs hP hD hS => ?_)
      obtain ⟨h2_9, rfl⟩ : ∃ z, z = u9 := ⟨_, rfl⟩
      subst hw_10
      have hP : va_P (gD G) vwCl [(cg, .inr (12, [.int (nI 49152), .int (nI 16)])), (va, .inl (gyI G, 16, .inl h2_9)), (ca, .inl (gyI G, 16, .inl f))] H := hP
      have hD : va_D A [(cg, .inr (12, [.int (nI 49152), .int (nI 16)])), (va, .inl (gyI G, 16, .inl h2_9)), (ca, .inl (gyI G, 16, .inl f))] := hD
      have hP9 := hP.sub (ws' := [(cg, .inr (12, [.int (nI 49152), .int (nI 16)])), (va, .inl (gyI G, 16, .inl h2_9)), (ca, .inl (gyI G, 16, .inl f))]) [0, 1, 2] rfl
      have hD9 := hD.sub (ws' := [(cg, .inr (12, [.int (nI 49152), .int (nI 16)])), (va, .inl (gyI G, 16, .inl h2_9)), (ca, .inl (gyI G, 16, .inl f))]) [0, 1, 2] (by decide) rfl
      subst hQ
      exact W.zret (v := nI 0) hx hb hr (by decide) (fun t ht hW => ⟨⟨nI 0, h2_9, rfl, rfl, by rw [ht]; exact hP9, hD9⟩, hS.F ht⟩) hS.2.2 dX7_fits_41
    · skip
      have c_8 : ¬ bn_2 = 0 := fun z => c_8 ((nI_eq (a := bn_2) (b := 0) (by omega) (by omega)).mpr z)
      exfalso; omega
  · skip
    have c_1 : 10 = 16 := (nI_eq (a := 10) (b := 16) (by omega) (by omega)).mp c_1
    exact absurd c_1 (by decide)
set_option maxHeartbeats 4000000 in
set_option maxRecDepth 100000 in
theorem c_fits_9 (l : Launch) (G : GG) (cg : Nat) (lf : Nat) (va : Nat) (h : Nat → Int32) (ca : Nat) (f : Nat → Int32) (hlf : 8 < lf) (hlf16 : lf ≤ 16) : Mi l G yX7_fits cX7_fits 8 (some .boolean) ({ frames := 7, cells := 0, slots := 0, locals := 189 } : Room) [.ref cg, .int (nI 9), .int (nI lf), .ref va, .ref ca] [(cg, .inr (12, [.int (nI 49152), .int (nI 16)])), (va, .inl (gyI G, 16, .inl h)), (ca, .inl (gyI G, 16, .inl f))] (fun (r : Int32) (u : (Nat → Int32)) => r = nI 0) (fun (u : (Nat → Int32)) => [(cg, .inr (12, [.int (nI 49152), .int (nI 16)])), (va, .inl (gyI G, 16, .inl u)), (ca, .inl (gyI G, 16, .inl f))]) := by
  intro sz
  refine Met.ofW (cc := cX7_fits) (maxL := 8) (ret := (some .boolean)) (by decide) rfl ?_
  intro p e s m args below meth c s₁ B9 hml hv
  obtain ⟨rfl, hsz, hP, hK, hD0, hE⟩ := hv
  have hx := B9.exec
  have hb := B9.bytes
  have hr := B9.returns
  have hts : ∀ w ∈ WW, w.before ([.ref cg, .int (nI 9), .int (nI lf), .ref va, .ref ca] : List Value).toArray s = true := fun w h => atoms_spec (ws := .code yX7_fits cX7_fits 8 (some .boolean) :: WW) B9.pre w (List.mem_cons_of_mem _ h)
  have hown : s.vm.findClass RX7 = some m.cls := findClass_of_methodNamed B9.named
  subst hsz
  have hD := hD0.self (sz := s.heap.size)
  generalize hAe : va_A [(cg, .inr (12, [.int (nI 49152), .int (nI 16)])), (va, .inl (gyI G, 16, .inl h)), (ca, .inl (gyI G, 16, .inl f))] s.heap.size = A at hD hE ⊢
  have hA : ∀ q : Nat, s.heap.size ≤ q → A q := fun q h => by rw [← hAe]; exact Or.inr h
  have hl := lv_entry ([.ref cg, .int (nI 9), .int (nI lf), .ref va, .ref ca]) (n := 8) (Nat.le_of_ble_eq_true rfl)
  rw [lg_entry_eq]
  generalize (lg_sl ([.ref cg, .int (nI 9), .int (nI lf), .ref va, .ref ca]) ++ List.replicate (8 - (lg_sl ([.ref cg, .int (nI 9), .int (nI lf), .ref va, .ref ca])).length) Slot.unset).toArray = ls at hl ⊢
  have hl : lv_has ls 8 [(0, .ref cg), (1, .int (nI 9)), (2, .int (nI lf)), (3, .ref va), (4, .ref ca)] := hl
  refine qgen (fun Q hQ => ?_)
  refine hgen (fun H locs hP hD hS => ?_) hP hD
  refine lv_iload_n hx hb dX7_fits_0 rfl (lv_at hl 1 rfl) ?_
  refine lv_bipush (v := nI 16) hx hb dX7_fits_1 (by decide) ?_
  refine lv_icmp_ne (tgt := 16) hx hb dX7_fits_3 (by decide) (fun c_1 => ?_) (fun c_1 => ?_)
  · skip
    have c_1 : ¬ 9 = 16 := fun z => c_1 ((nI_eq (a := 9) (b := 16) (by omega) (by omega)).mpr z)
    refine lv_aload_n hx hb dX7_fits_16 rfl (lv_at hl 0 rfl) ?_
    refine lv_iload_n hx hb dX7_fits_17 rfl (lv_at hl 1 rfl) ?_
    refine fin_i hP hD hS hA [0] [1, 2] (wr := [(va, .inl (gyI G, 16, .inl h)), (ca, .inl (gyI G, 16, .inl f))]) rfl rfl (by decide) (by decide) (va_runV (As := [.int (nI 9)]) (rest := []) ⟨hx, hb, hml, hown, hts⟩ (c_X7_has l G cg 9 (by omega) H.size) (cwV 1 hts (gV q1172 q1165 q1166 q73 q1167) rfl rfl rfl (by decide +kernel) ⟨Nat.le_of_ble_eq_true rfl, Nat.le_of_ble_eq_true rfl⟩) (preV (q0 := 0) (ci := 12) hK hE hP hD hS hA [0] rfl (by decide) rfl rfl) rfl rfl hl.1 rfl (lv_room (Nat.le_of_ble_eq_true rfl)) dX7_fits_18 ⟨Nat.le_of_ble_eq_true rfl, Nat.le_of_ble_eq_true rfl⟩) (fun r_4 u9 hw_3 H locs hP hD hS => ?_)
    obtain ⟨bn_2, rfl⟩ : ∃ z, z = u9 := ⟨_, rfl⟩
    obtain ⟨rfl, hbn_5, hlo_6, hhi_7⟩ := hw_3
    have hbn_5 : bn_2 ≤ 1 := hbn_5
    have hlo_6 : 9 < 14 → bn_2 = 0 := hlo_6
    have hhi_7 : 14 ≤ 9 → bn_2 = 1 := hhi_7
    have hP : va_P (gD G) vwCl [(va, .inl (gyI G, 16, .inl h)), (ca, .inl (gyI G, 16, .inl f)), (cg, .inr (12, [.int (nI 49152), .int (nI 16)]))] H := hP
    have hD : va_D A [(va, .inl (gyI G, 16, .inl h)), (ca, .inl (gyI G, 16, .inl f)), (cg, .inr (12, [.int (nI 49152), .int (nI 16)]))] := hD
    refine lv_if_eq (tgt := 30) hx hb dX7_fits_21 (by decide) (fun c_8 => ?_) (fun c_8 => ?_)
    · skip
      have c_8 : bn_2 = 0 := (nI_eq (a := bn_2) (b := 0) (by omega) (by omega)).mp c_8
      refine lv_aload_n hx hb dX7_fits_30 rfl (lv_at hl 0 rfl) ?_
      refine lv_iload_n hx hb dX7_fits_31 rfl (lv_at hl 1 rfl) ?_
      refine lv_iconst (v := nI 1) hx hb dX7_fits_32 (by decide) ?_
      refine lv_iadd hx hb dX7_fits_33 ?_
      refine lv_toe (show _ = nI 10 by decide) ?_
      refine lv_iload_n hx hb dX7_fits_34 rfl (lv_at hl 2 rfl) ?_
      refine lv_aload_n hx hb dX7_fits_35 rfl (lv_at hl 3 rfl) ?_
      refine lv_aload hx hb dX7_fits_36 (lv_at hl 4 rfl) ?_
      refine fin_i hP hD hS hA [2, 0, 1] [] (wr := []) rfl rfl (by decide) (by decide) (va_runV (As := [.int (nI 10), .int (nI lf), .ref va, .ref ca]) (rest := []) ⟨hx, hb, hml, hown, hts⟩ (c_fits_10 l G cg lf va h ca f (by omega) (by omega) H.size) (cwV 4 hts (gV q1173 q1169 q1170 q73 q1171) rfl rfl rfl (by decide +kernel) ⟨Nat.le_of_ble_eq_true rfl, Nat.le_of_ble_eq_true rfl⟩) (preV (q0 := 2) (ci := 12) hK hE hP hD hS hA [2, 0, 1] rfl (by decide) rfl rfl) rfl rfl hl.1 rfl (lv_room (Nat.le_of_ble_eq_true rfl)) dX7_fits_38 ⟨Nat.le_of_ble_eq_true rfl, Nat.le_of_ble_eq_true rfl⟩) (fun r_11 u9 hw_10 H locs hP hD hS => ?_)
      obtain ⟨h2_9, rfl⟩ : ∃ z, z = u9 := ⟨_, rfl⟩
      subst hw_10
      have hP : va_P (gD G) vwCl [(cg, .inr (12, [.int (nI 49152), .int (nI 16)])), (va, .inl (gyI G, 16, .inl h2_9)), (ca, .inl (gyI G, 16, .inl f))] H := hP
      have hD : va_D A [(cg, .inr (12, [.int (nI 49152), .int (nI 16)])), (va, .inl (gyI G, 16, .inl h2_9)), (ca, .inl (gyI G, 16, .inl f))] := hD
      have hP9 := hP.sub (ws' := [(cg, .inr (12, [.int (nI 49152), .int (nI 16)])), (va, .inl (gyI G, 16, .inl h2_9)), (ca, .inl (gyI G, 16, .inl f))]) [0, 1, 2] rfl
      have hD9 := hD.sub (ws' := [(cg, .inr (12, [.int (nI 49152), .int (nI 16)])), (va, .inl (gyI G, 16, .inl h2_9)), (ca, .inl (gyI G, 16, .inl f))]) [0, 1, 2] (by decide) rfl
      subst hQ
      exact W.zret (v := nI 0) hx hb hr (by decide) (fun t ht hW => ⟨⟨nI 0, h2_9, rfl, rfl, by rw [ht]; exact hP9, hD9⟩, hS.F ht⟩) hS.2.2 dX7_fits_41
    · skip
      have c_8 : ¬ bn_2 = 0 := fun z => c_8 ((nI_eq (a := bn_2) (b := 0) (by omega) (by omega)).mpr z)
      exfalso; omega
  · skip
    have c_1 : 9 = 16 := (nI_eq (a := 9) (b := 16) (by omega) (by omega)).mp c_1
    exact absurd c_1 (by decide)
set_option maxHeartbeats 4000000 in
set_option maxRecDepth 100000 in
theorem c_fits_8 (l : Launch) (G : GG) (cg : Nat) (lf : Nat) (va : Nat) (h : Nat → Int32) (ca : Nat) (f : Nat → Int32) (hlf : 8 < lf) (hlf16 : lf ≤ 16) : Mi l G yX7_fits cX7_fits 8 (some .boolean) ({ frames := 8, cells := 0, slots := 0, locals := 216 } : Room) [.ref cg, .int (nI 8), .int (nI lf), .ref va, .ref ca] [(cg, .inr (12, [.int (nI 49152), .int (nI 16)])), (va, .inl (gyI G, 16, .inl h)), (ca, .inl (gyI G, 16, .inl f))] (fun (r : Int32) (u : (Nat → Int32)) => r = nI 0) (fun (u : (Nat → Int32)) => [(cg, .inr (12, [.int (nI 49152), .int (nI 16)])), (va, .inl (gyI G, 16, .inl u)), (ca, .inl (gyI G, 16, .inl f))]) := by
  intro sz
  refine Met.ofW (cc := cX7_fits) (maxL := 8) (ret := (some .boolean)) (by decide) rfl ?_
  intro p e s m args below meth c s₁ B9 hml hv
  obtain ⟨rfl, hsz, hP, hK, hD0, hE⟩ := hv
  have hx := B9.exec
  have hb := B9.bytes
  have hr := B9.returns
  have hts : ∀ w ∈ WW, w.before ([.ref cg, .int (nI 8), .int (nI lf), .ref va, .ref ca] : List Value).toArray s = true := fun w h => atoms_spec (ws := .code yX7_fits cX7_fits 8 (some .boolean) :: WW) B9.pre w (List.mem_cons_of_mem _ h)
  have hown : s.vm.findClass RX7 = some m.cls := findClass_of_methodNamed B9.named
  subst hsz
  have hD := hD0.self (sz := s.heap.size)
  generalize hAe : va_A [(cg, .inr (12, [.int (nI 49152), .int (nI 16)])), (va, .inl (gyI G, 16, .inl h)), (ca, .inl (gyI G, 16, .inl f))] s.heap.size = A at hD hE ⊢
  have hA : ∀ q : Nat, s.heap.size ≤ q → A q := fun q h => by rw [← hAe]; exact Or.inr h
  have hl := lv_entry ([.ref cg, .int (nI 8), .int (nI lf), .ref va, .ref ca]) (n := 8) (Nat.le_of_ble_eq_true rfl)
  rw [lg_entry_eq]
  generalize (lg_sl ([.ref cg, .int (nI 8), .int (nI lf), .ref va, .ref ca]) ++ List.replicate (8 - (lg_sl ([.ref cg, .int (nI 8), .int (nI lf), .ref va, .ref ca])).length) Slot.unset).toArray = ls at hl ⊢
  have hl : lv_has ls 8 [(0, .ref cg), (1, .int (nI 8)), (2, .int (nI lf)), (3, .ref va), (4, .ref ca)] := hl
  refine qgen (fun Q hQ => ?_)
  refine hgen (fun H locs hP hD hS => ?_) hP hD
  refine lv_iload_n hx hb dX7_fits_0 rfl (lv_at hl 1 rfl) ?_
  refine lv_bipush (v := nI 16) hx hb dX7_fits_1 (by decide) ?_
  refine lv_icmp_ne (tgt := 16) hx hb dX7_fits_3 (by decide) (fun c_1 => ?_) (fun c_1 => ?_)
  · skip
    have c_1 : ¬ 8 = 16 := fun z => c_1 ((nI_eq (a := 8) (b := 16) (by omega) (by omega)).mpr z)
    refine lv_aload_n hx hb dX7_fits_16 rfl (lv_at hl 0 rfl) ?_
    refine lv_iload_n hx hb dX7_fits_17 rfl (lv_at hl 1 rfl) ?_
    refine fin_i hP hD hS hA [0] [1, 2] (wr := [(va, .inl (gyI G, 16, .inl h)), (ca, .inl (gyI G, 16, .inl f))]) rfl rfl (by decide) (by decide) (va_runV (As := [.int (nI 8)]) (rest := []) ⟨hx, hb, hml, hown, hts⟩ (c_X7_has l G cg 8 (by omega) H.size) (cwV 1 hts (gV q1172 q1165 q1166 q73 q1167) rfl rfl rfl (by decide +kernel) ⟨Nat.le_of_ble_eq_true rfl, Nat.le_of_ble_eq_true rfl⟩) (preV (q0 := 0) (ci := 12) hK hE hP hD hS hA [0] rfl (by decide) rfl rfl) rfl rfl hl.1 rfl (lv_room (Nat.le_of_ble_eq_true rfl)) dX7_fits_18 ⟨Nat.le_of_ble_eq_true rfl, Nat.le_of_ble_eq_true rfl⟩) (fun r_4 u9 hw_3 H locs hP hD hS => ?_)
    obtain ⟨bn_2, rfl⟩ : ∃ z, z = u9 := ⟨_, rfl⟩
    obtain ⟨rfl, hbn_5, hlo_6, hhi_7⟩ := hw_3
    have hbn_5 : bn_2 ≤ 1 := hbn_5
    have hlo_6 : 8 < 14 → bn_2 = 0 := hlo_6
    have hhi_7 : 14 ≤ 8 → bn_2 = 1 := hhi_7
    have hP : va_P (gD G) vwCl [(va, .inl (gyI G, 16, .inl h)), (ca, .inl (gyI G, 16, .inl f)), (cg, .inr (12, [.int (nI 49152), .int (nI 16)]))] H := hP
    have hD : va_D A [(va, .inl (gyI G, 16, .inl h)), (ca, .inl (gyI G, 16, .inl f)), (cg, .inr (12, [.int (nI 49152), .int (nI 16)]))] := hD
    refine lv_if_eq (tgt := 30) hx hb dX7_fits_21 (by decide) (fun c_8 => ?_) (fun c_8 => ?_)
    · skip
      have c_8 : bn_2 = 0 := (nI_eq (a := bn_2) (b := 0) (by omega) (by omega)).mp c_8
      refine lv_aload_n hx hb dX7_fits_30 rfl (lv_at hl 0 rfl) ?_
      refine lv_iload_n hx hb dX7_fits_31 rfl (lv_at hl 1 rfl) ?_
      refine lv_iconst (v := nI 1) hx hb dX7_fits_32 (by decide) ?_
      refine lv_iadd hx hb dX7_fits_33 ?_
      refine lv_toe (show _ = nI 9 by decide) ?_
      refine lv_iload_n hx hb dX7_fits_34 rfl (lv_at hl 2 rfl) ?_
      refine lv_aload_n hx hb dX7_fits_35 rfl (lv_at hl 3 rfl) ?_
      refine lv_aload hx hb dX7_fits_36 (lv_at hl 4 rfl) ?_
      refine fin_i hP hD hS hA [2, 0, 1] [] (wr := []) rfl rfl (by decide) (by decide) (va_runV (As := [.int (nI 9), .int (nI lf), .ref va, .ref ca]) (rest := []) ⟨hx, hb, hml, hown, hts⟩ (c_fits_9 l G cg lf va h ca f (by omega) (by omega) H.size) (cwV 4 hts (gV q1173 q1169 q1170 q73 q1171) rfl rfl rfl (by decide +kernel) ⟨Nat.le_of_ble_eq_true rfl, Nat.le_of_ble_eq_true rfl⟩) (preV (q0 := 2) (ci := 12) hK hE hP hD hS hA [2, 0, 1] rfl (by decide) rfl rfl) rfl rfl hl.1 rfl (lv_room (Nat.le_of_ble_eq_true rfl)) dX7_fits_38 ⟨Nat.le_of_ble_eq_true rfl, Nat.le_of_ble_eq_true rfl⟩) (fun r_11 u9 hw_10 H locs hP hD hS => ?_)
      obtain ⟨h2_9, rfl⟩ : ∃ z, z = u9 := ⟨_, rfl⟩
      subst hw_10
      have hP : va_P (gD G) vwCl [(cg, .inr (12, [.int (nI 49152), .int (nI 16)])), (va, .inl (gyI G, 16, .inl h2_9)), (ca, .inl (gyI G, 16, .inl f))] H := hP
      have hD : va_D A [(cg, .inr (12, [.int (nI 49152), .int (nI 16)])), (va, .inl (gyI G, 16, .inl h2_9)), (ca, .inl (gyI G, 16, .inl f))] := hD
      have hP9 := hP.sub (ws' := [(cg, .inr (12, [.int (nI 49152), .int (nI 16)])), (va, .inl (gyI G, 16, .inl h2_9)), (ca, .inl (gyI G, 16, .inl f))]) [0, 1, 2] rfl
      have hD9 := hD.sub (ws' := [(cg, .inr (12, [.int (nI 49152), .int (nI 16)])), (va, .inl (gyI G, 16, .inl h2_9)), (ca, .inl (gyI G, 16, .inl f))]) [0, 1, 2] (by decide) rfl
      subst hQ
      exact W.zret (v := nI 0) hx hb hr (by decide) (fun t ht hW => ⟨⟨nI 0, h2_9, rfl, rfl, by rw [ht]; exact hP9, hD9⟩, hS.F ht⟩) hS.2.2 dX7_fits_41
    · skip
      have c_8 : ¬ bn_2 = 0 := fun z => c_8 ((nI_eq (a := bn_2) (b := 0) (by omega) (by omega)).mpr z)
      exfalso; omega
  · skip
    have c_1 : 8 = 16 := (nI_eq (a := 8) (b := 16) (by omega) (by omega)).mp c_1
    exact absurd c_1 (by decide)
set_option maxHeartbeats 4000000 in
set_option maxRecDepth 100000 in
theorem c_fits_7 (l : Launch) (G : GG) (cg : Nat) (lf : Nat) (va : Nat) (h : Nat → Int32) (ca : Nat) (f : Nat → Int32) (hlf : 8 < lf) (hlf16 : lf ≤ 16) : Mi l G yX7_fits cX7_fits 8 (some .boolean) ({ frames := 9, cells := 0, slots := 0, locals := 243 } : Room) [.ref cg, .int (nI 7), .int (nI lf), .ref va, .ref ca] [(cg, .inr (12, [.int (nI 49152), .int (nI 16)])), (va, .inl (gyI G, 16, .inl h)), (ca, .inl (gyI G, 16, .inl f))] (fun (r : Int32) (u : (Nat → Int32)) => r = nI 0) (fun (u : (Nat → Int32)) => [(cg, .inr (12, [.int (nI 49152), .int (nI 16)])), (va, .inl (gyI G, 16, .inl u)), (ca, .inl (gyI G, 16, .inl f))]) := by
  intro sz
  refine Met.ofW (cc := cX7_fits) (maxL := 8) (ret := (some .boolean)) (by decide) rfl ?_
  intro p e s m args below meth c s₁ B9 hml hv
  obtain ⟨rfl, hsz, hP, hK, hD0, hE⟩ := hv
  have hx := B9.exec
  have hb := B9.bytes
  have hr := B9.returns
  have hts : ∀ w ∈ WW, w.before ([.ref cg, .int (nI 7), .int (nI lf), .ref va, .ref ca] : List Value).toArray s = true := fun w h => atoms_spec (ws := .code yX7_fits cX7_fits 8 (some .boolean) :: WW) B9.pre w (List.mem_cons_of_mem _ h)
  have hown : s.vm.findClass RX7 = some m.cls := findClass_of_methodNamed B9.named
  subst hsz
  have hD := hD0.self (sz := s.heap.size)
  generalize hAe : va_A [(cg, .inr (12, [.int (nI 49152), .int (nI 16)])), (va, .inl (gyI G, 16, .inl h)), (ca, .inl (gyI G, 16, .inl f))] s.heap.size = A at hD hE ⊢
  have hA : ∀ q : Nat, s.heap.size ≤ q → A q := fun q h => by rw [← hAe]; exact Or.inr h
  have hl := lv_entry ([.ref cg, .int (nI 7), .int (nI lf), .ref va, .ref ca]) (n := 8) (Nat.le_of_ble_eq_true rfl)
  rw [lg_entry_eq]
  generalize (lg_sl ([.ref cg, .int (nI 7), .int (nI lf), .ref va, .ref ca]) ++ List.replicate (8 - (lg_sl ([.ref cg, .int (nI 7), .int (nI lf), .ref va, .ref ca])).length) Slot.unset).toArray = ls at hl ⊢
  have hl : lv_has ls 8 [(0, .ref cg), (1, .int (nI 7)), (2, .int (nI lf)), (3, .ref va), (4, .ref ca)] := hl
  refine qgen (fun Q hQ => ?_)
  refine hgen (fun H locs hP hD hS => ?_) hP hD
  refine lv_iload_n hx hb dX7_fits_0 rfl (lv_at hl 1 rfl) ?_
  refine lv_bipush (v := nI 16) hx hb dX7_fits_1 (by decide) ?_
  refine lv_icmp_ne (tgt := 16) hx hb dX7_fits_3 (by decide) (fun c_1 => ?_) (fun c_1 => ?_)
  · skip
    have c_1 : ¬ 7 = 16 := fun z => c_1 ((nI_eq (a := 7) (b := 16) (by omega) (by omega)).mpr z)
    refine lv_aload_n hx hb dX7_fits_16 rfl (lv_at hl 0 rfl) ?_
    refine lv_iload_n hx hb dX7_fits_17 rfl (lv_at hl 1 rfl) ?_
    refine fin_i hP hD hS hA [0] [1, 2] (wr := [(va, .inl (gyI G, 16, .inl h)), (ca, .inl (gyI G, 16, .inl f))]) rfl rfl (by decide) (by decide) (va_runV (As := [.int (nI 7)]) (rest := []) ⟨hx, hb, hml, hown, hts⟩ (c_X7_has l G cg 7 (by omega) H.size) (cwV 1 hts (gV q1172 q1165 q1166 q73 q1167) rfl rfl rfl (by decide +kernel) ⟨Nat.le_of_ble_eq_true rfl, Nat.le_of_ble_eq_true rfl⟩) (preV (q0 := 0) (ci := 12) hK hE hP hD hS hA [0] rfl (by decide) rfl rfl) rfl rfl hl.1 rfl (lv_room (Nat.le_of_ble_eq_true rfl)) dX7_fits_18 ⟨Nat.le_of_ble_eq_true rfl, Nat.le_of_ble_eq_true rfl⟩) (fun r_4 u9 hw_3 H locs hP hD hS => ?_)
    obtain ⟨bn_2, rfl⟩ : ∃ z, z = u9 := ⟨_, rfl⟩
    obtain ⟨rfl, hbn_5, hlo_6, hhi_7⟩ := hw_3
    have hbn_5 : bn_2 ≤ 1 := hbn_5
    have hlo_6 : 7 < 14 → bn_2 = 0 := hlo_6
    have hhi_7 : 14 ≤ 7 → bn_2 = 1 := hhi_7
    have hP : va_P (gD G) vwCl [(va, .inl (gyI G, 16, .inl h)), (ca, .inl (gyI G, 16, .inl f)), (cg, .inr (12, [.int (nI 49152), .int (nI 16)]))] H := hP
    have hD : va_D A [(va, .inl (gyI G, 16, .inl h)), (ca, .inl (gyI G, 16, .inl f)), (cg, .inr (12, [.int (nI 49152), .int (nI 16)]))] := hD
    refine lv_if_eq (tgt := 30) hx hb dX7_fits_21 (by decide) (fun c_8 => ?_) (fun c_8 => ?_)
    · skip
      have c_8 : bn_2 = 0 := (nI_eq (a := bn_2) (b := 0) (by omega) (by omega)).mp c_8
      refine lv_aload_n hx hb dX7_fits_30 rfl (lv_at hl 0 rfl) ?_
      refine lv_iload_n hx hb dX7_fits_31 rfl (lv_at hl 1 rfl) ?_
      refine lv_iconst (v := nI 1) hx hb dX7_fits_32 (by decide) ?_
      refine lv_iadd hx hb dX7_fits_33 ?_
      refine lv_toe (show _ = nI 8 by decide) ?_
      refine lv_iload_n hx hb dX7_fits_34 rfl (lv_at hl 2 rfl) ?_
      refine lv_aload_n hx hb dX7_fits_35 rfl (lv_at hl 3 rfl) ?_
      refine lv_aload hx hb dX7_fits_36 (lv_at hl 4 rfl) ?_
      refine fin_i hP hD hS hA [2, 0, 1] [] (wr := []) rfl rfl (by decide) (by decide) (va_runV (As := [.int (nI 8), .int (nI lf), .ref va, .ref ca]) (rest := []) ⟨hx, hb, hml, hown, hts⟩ (c_fits_8 l G cg lf va h ca f (by omega) (by omega) H.size) (cwV 4 hts (gV q1173 q1169 q1170 q73 q1171) rfl rfl rfl (by decide +kernel) ⟨Nat.le_of_ble_eq_true rfl, Nat.le_of_ble_eq_true rfl⟩) (preV (q0 := 2) (ci := 12) hK hE hP hD hS hA [2, 0, 1] rfl (by decide) rfl rfl) rfl rfl hl.1 rfl (lv_room (Nat.le_of_ble_eq_true rfl)) dX7_fits_38 ⟨Nat.le_of_ble_eq_true rfl, Nat.le_of_ble_eq_true rfl⟩) (fun r_11 u9 hw_10 H locs hP hD hS => ?_)
      obtain ⟨h2_9, rfl⟩ : ∃ z, z = u9 := ⟨_, rfl⟩
      subst hw_10
      have hP : va_P (gD G) vwCl [(cg, .inr (12, [.int (nI 49152), .int (nI 16)])), (va, .inl (gyI G, 16, .inl h2_9)), (ca, .inl (gyI G, 16, .inl f))] H := hP
      have hD : va_D A [(cg, .inr (12, [.int (nI 49152), .int (nI 16)])), (va, .inl (gyI G, 16, .inl h2_9)), (ca, .inl (gyI G, 16, .inl f))] := hD
      have hP9 := hP.sub (ws' := [(cg, .inr (12, [.int (nI 49152), .int (nI 16)])), (va, .inl (gyI G, 16, .inl h2_9)), (ca, .inl (gyI G, 16, .inl f))]) [0, 1, 2] rfl
      have hD9 := hD.sub (ws' := [(cg, .inr (12, [.int (nI 49152), .int (nI 16)])), (va, .inl (gyI G, 16, .inl h2_9)), (ca, .inl (gyI G, 16, .inl f))]) [0, 1, 2] (by decide) rfl
      subst hQ
      exact W.zret (v := nI 0) hx hb hr (by decide) (fun t ht hW => ⟨⟨nI 0, h2_9, rfl, rfl, by rw [ht]; exact hP9, hD9⟩, hS.F ht⟩) hS.2.2 dX7_fits_41
    · skip
      have c_8 : ¬ bn_2 = 0 := fun z => c_8 ((nI_eq (a := bn_2) (b := 0) (by omega) (by omega)).mpr z)
      exfalso; omega
  · skip
    have c_1 : 7 = 16 := (nI_eq (a := 7) (b := 16) (by omega) (by omega)).mp c_1
    exact absurd c_1 (by decide)
set_option maxHeartbeats 4000000 in
set_option maxRecDepth 100000 in
theorem c_fits_6 (l : Launch) (G : GG) (cg : Nat) (lf : Nat) (va : Nat) (h : Nat → Int32) (ca : Nat) (f : Nat → Int32) (hlf : 8 < lf) (hlf16 : lf ≤ 16) : Mi l G yX7_fits cX7_fits 8 (some .boolean) ({ frames := 10, cells := 0, slots := 0, locals := 270 } : Room) [.ref cg, .int (nI 6), .int (nI lf), .ref va, .ref ca] [(cg, .inr (12, [.int (nI 49152), .int (nI 16)])), (va, .inl (gyI G, 16, .inl h)), (ca, .inl (gyI G, 16, .inl f))] (fun (r : Int32) (u : (Nat → Int32)) => r = nI 0) (fun (u : (Nat → Int32)) => [(cg, .inr (12, [.int (nI 49152), .int (nI 16)])), (va, .inl (gyI G, 16, .inl u)), (ca, .inl (gyI G, 16, .inl f))]) := by
  intro sz
  refine Met.ofW (cc := cX7_fits) (maxL := 8) (ret := (some .boolean)) (by decide) rfl ?_
  intro p e s m args below meth c s₁ B9 hml hv
  obtain ⟨rfl, hsz, hP, hK, hD0, hE⟩ := hv
  have hx := B9.exec
  have hb := B9.bytes
  have hr := B9.returns
  have hts : ∀ w ∈ WW, w.before ([.ref cg, .int (nI 6), .int (nI lf), .ref va, .ref ca] : List Value).toArray s = true := fun w h => atoms_spec (ws := .code yX7_fits cX7_fits 8 (some .boolean) :: WW) B9.pre w (List.mem_cons_of_mem _ h)
  have hown : s.vm.findClass RX7 = some m.cls := findClass_of_methodNamed B9.named
  subst hsz
  have hD := hD0.self (sz := s.heap.size)
  generalize hAe : va_A [(cg, .inr (12, [.int (nI 49152), .int (nI 16)])), (va, .inl (gyI G, 16, .inl h)), (ca, .inl (gyI G, 16, .inl f))] s.heap.size = A at hD hE ⊢
  have hA : ∀ q : Nat, s.heap.size ≤ q → A q := fun q h => by rw [← hAe]; exact Or.inr h
  have hl := lv_entry ([.ref cg, .int (nI 6), .int (nI lf), .ref va, .ref ca]) (n := 8) (Nat.le_of_ble_eq_true rfl)
  rw [lg_entry_eq]
  generalize (lg_sl ([.ref cg, .int (nI 6), .int (nI lf), .ref va, .ref ca]) ++ List.replicate (8 - (lg_sl ([.ref cg, .int (nI 6), .int (nI lf), .ref va, .ref ca])).length) Slot.unset).toArray = ls at hl ⊢
  have hl : lv_has ls 8 [(0, .ref cg), (1, .int (nI 6)), (2, .int (nI lf)), (3, .ref va), (4, .ref ca)] := hl
  refine qgen (fun Q hQ => ?_)
  refine hgen (fun H locs hP hD hS => ?_) hP hD
  refine lv_iload_n hx hb dX7_fits_0 rfl (lv_at hl 1 rfl) ?_
  refine lv_bipush (v := nI 16) hx hb dX7_fits_1 (by decide) ?_
  refine lv_icmp_ne (tgt := 16) hx hb dX7_fits_3 (by decide) (fun c_1 => ?_) (fun c_1 => ?_)
  · skip
    have c_1 : ¬ 6 = 16 := fun z => c_1 ((nI_eq (a := 6) (b := 16) (by omega) (by omega)).mpr z)
    refine lv_aload_n hx hb dX7_fits_16 rfl (lv_at hl 0 rfl) ?_
    refine lv_iload_n hx hb dX7_fits_17 rfl (lv_at hl 1 rfl) ?_
    refine fin_i hP hD hS hA [0] [1, 2] (wr := [(va, .inl (gyI G, 16, .inl h)), (ca, .inl (gyI G, 16, .inl f))]) rfl rfl (by decide) (by decide) (va_runV (As := [.int (nI 6)]) (rest := []) ⟨hx, hb, hml, hown, hts⟩ (c_X7_has l G cg 6 (by omega) H.size) (cwV 1 hts (gV q1172 q1165 q1166 q73 q1167) rfl rfl rfl (by decide +kernel) ⟨Nat.le_of_ble_eq_true rfl, Nat.le_of_ble_eq_true rfl⟩) (preV (q0 := 0) (ci := 12) hK hE hP hD hS hA [0] rfl (by decide) rfl rfl) rfl rfl hl.1 rfl (lv_room (Nat.le_of_ble_eq_true rfl)) dX7_fits_18 ⟨Nat.le_of_ble_eq_true rfl, Nat.le_of_ble_eq_true rfl⟩) (fun r_4 u9 hw_3 H locs hP hD hS => ?_)
    obtain ⟨bn_2, rfl⟩ : ∃ z, z = u9 := ⟨_, rfl⟩
    obtain ⟨rfl, hbn_5, hlo_6, hhi_7⟩ := hw_3
    have hbn_5 : bn_2 ≤ 1 := hbn_5
    have hlo_6 : 6 < 14 → bn_2 = 0 := hlo_6
    have hhi_7 : 14 ≤ 6 → bn_2 = 1 := hhi_7
    have hP : va_P (gD G) vwCl [(va, .inl (gyI G, 16, .inl h)), (ca, .inl (gyI G, 16, .inl f)), (cg, .inr (12, [.int (nI 49152), .int (nI 16)]))] H := hP
    have hD : va_D A [(va, .inl (gyI G, 16, .inl h)), (ca, .inl (gyI G, 16, .inl f)), (cg, .inr (12, [.int (nI 49152), .int (nI 16)]))] := hD
    refine lv_if_eq (tgt := 30) hx hb dX7_fits_21 (by decide) (fun c_8 => ?_) (fun c_8 => ?_)
    · skip
      have c_8 : bn_2 = 0 := (nI_eq (a := bn_2) (b := 0) (by omega) (by omega)).mp c_8
      refine lv_aload_n hx hb dX7_fits_30 rfl (lv_at hl 0 rfl) ?_
      refine lv_iload_n hx hb dX7_fits_31 rfl (lv_at hl 1 rfl) ?_
      refine lv_iconst (v := nI 1) hx hb dX7_fits_32 (by decide) ?_
      refine lv_iadd hx hb dX7_fits_33 ?_
      refine lv_toe (show _ = nI 7 by decide) ?_
      refine lv_iload_n hx hb dX7_fits_34 rfl (lv_at hl 2 rfl) ?_
      refine lv_aload_n hx hb dX7_fits_35 rfl (lv_at hl 3 rfl) ?_
      refine lv_aload hx hb dX7_fits_36 (lv_at hl 4 rfl) ?_
      refine fin_i hP hD hS hA [2, 0, 1] [] (wr := []) rfl rfl (by decide) (by decide) (va_runV (As := [.int (nI 7), .int (nI lf), .ref va, .ref ca]) (rest := []) ⟨hx, hb, hml, hown, hts⟩ (c_fits_7 l G cg lf va h ca f (by omega) (by omega) H.size) (cwV 4 hts (gV q1173 q1169 q1170 q73 q1171) rfl rfl rfl (by decide +kernel) ⟨Nat.le_of_ble_eq_true rfl, Nat.le_of_ble_eq_true rfl⟩) (preV (q0 := 2) (ci := 12) hK hE hP hD hS hA [2, 0, 1] rfl (by decide) rfl rfl) rfl rfl hl.1 rfl (lv_room (Nat.le_of_ble_eq_true rfl)) dX7_fits_38 ⟨Nat.le_of_ble_eq_true rfl, Nat.le_of_ble_eq_true rfl⟩) (fun r_11 u9 hw_10 H locs hP hD hS => ?_)
      obtain ⟨h2_9, rfl⟩ : ∃ z, z = u9 := ⟨_, rfl⟩
      subst hw_10
      have hP : va_P (gD G) vwCl [(cg, .inr (12, [.int (nI 49152), .int (nI 16)])), (va, .inl (gyI G, 16, .inl h2_9)), (ca, .inl (gyI G, 16, .inl f))] H := hP
      have hD : va_D A [(cg, .inr (12, [.int (nI 49152), .int (nI 16)])), (va, .inl (gyI G, 16, .inl h2_9)), (ca, .inl (gyI G, 16, .inl f))] := hD
      have hP9 := hP.sub (ws' := [(cg, .inr (12, [.int (nI 49152), .int (nI 16)])), (va, .inl (gyI G, 16, .inl h2_9)), (ca, .inl (gyI G, 16, .inl f))]) [0, 1, 2] rfl
      have hD9 := hD.sub (ws' := [(cg, .inr (12, [.int (nI 49152), .int (nI 16)])), (va, .inl (gyI G, 16, .inl h2_9)), (ca, .inl (gyI G, 16, .inl f))]) [0, 1, 2] (by decide) rfl
      subst hQ
      exact W.zret (v := nI 0) hx hb hr (by decide) (fun t ht hW => ⟨⟨nI 0, h2_9, rfl, rfl, by rw [ht]; exact hP9, hD9⟩, hS.F ht⟩) hS.2.2 dX7_fits_41
    · skip
      have c_8 : ¬ bn_2 = 0 := fun z => c_8 ((nI_eq (a := bn_2) (b := 0) (by omega) (by omega)).mpr z)
      exfalso; omega
  · skip
    have c_1 : 6 = 16 := (nI_eq (a := 6) (b := 16) (by omega) (by omega)).mp c_1
    exact absurd c_1 (by decide)
set_option maxHeartbeats 4000000 in
set_option maxRecDepth 100000 in
theorem c_fits_5 (l : Launch) (G : GG) (cg : Nat) (lf : Nat) (va : Nat) (h : Nat → Int32) (ca : Nat) (f : Nat → Int32) (hlf : 8 < lf) (hlf16 : lf ≤ 16) : Mi l G yX7_fits cX7_fits 8 (some .boolean) ({ frames := 11, cells := 0, slots := 0, locals := 297 } : Room) [.ref cg, .int (nI 5), .int (nI lf), .ref va, .ref ca] [(cg, .inr (12, [.int (nI 49152), .int (nI 16)])), (va, .inl (gyI G, 16, .inl h)), (ca, .inl (gyI G, 16, .inl f))] (fun (r : Int32) (u : (Nat → Int32)) => r = nI 0) (fun (u : (Nat → Int32)) => [(cg, .inr (12, [.int (nI 49152), .int (nI 16)])), (va, .inl (gyI G, 16, .inl u)), (ca, .inl (gyI G, 16, .inl f))]) := by
  intro sz
  refine Met.ofW (cc := cX7_fits) (maxL := 8) (ret := (some .boolean)) (by decide) rfl ?_
  intro p e s m args below meth c s₁ B9 hml hv
  obtain ⟨rfl, hsz, hP, hK, hD0, hE⟩ := hv
  have hx := B9.exec
  have hb := B9.bytes
  have hr := B9.returns
  have hts : ∀ w ∈ WW, w.before ([.ref cg, .int (nI 5), .int (nI lf), .ref va, .ref ca] : List Value).toArray s = true := fun w h => atoms_spec (ws := .code yX7_fits cX7_fits 8 (some .boolean) :: WW) B9.pre w (List.mem_cons_of_mem _ h)
  have hown : s.vm.findClass RX7 = some m.cls := findClass_of_methodNamed B9.named
  subst hsz
  have hD := hD0.self (sz := s.heap.size)
  generalize hAe : va_A [(cg, .inr (12, [.int (nI 49152), .int (nI 16)])), (va, .inl (gyI G, 16, .inl h)), (ca, .inl (gyI G, 16, .inl f))] s.heap.size = A at hD hE ⊢
  have hA : ∀ q : Nat, s.heap.size ≤ q → A q := fun q h => by rw [← hAe]; exact Or.inr h
  have hl := lv_entry ([.ref cg, .int (nI 5), .int (nI lf), .ref va, .ref ca]) (n := 8) (Nat.le_of_ble_eq_true rfl)
  rw [lg_entry_eq]
  generalize (lg_sl ([.ref cg, .int (nI 5), .int (nI lf), .ref va, .ref ca]) ++ List.replicate (8 - (lg_sl ([.ref cg, .int (nI 5), .int (nI lf), .ref va, .ref ca])).length) Slot.unset).toArray = ls at hl ⊢
  have hl : lv_has ls 8 [(0, .ref cg), (1, .int (nI 5)), (2, .int (nI lf)), (3, .ref va), (4, .ref ca)] := hl
  refine qgen (fun Q hQ => ?_)
  refine hgen (fun H locs hP hD hS => ?_) hP hD
  refine lv_iload_n hx hb dX7_fits_0 rfl (lv_at hl 1 rfl) ?_
  refine lv_bipush (v := nI 16) hx hb dX7_fits_1 (by decide) ?_
  refine lv_icmp_ne (tgt := 16) hx hb dX7_fits_3 (by decide) (fun c_1 => ?_) (fun c_1 => ?_)
  · skip
    have c_1 : ¬ 5 = 16 := fun z => c_1 ((nI_eq (a := 5) (b := 16) (by omega) (by omega)).mpr z)
    refine lv_aload_n hx hb dX7_fits_16 rfl (lv_at hl 0 rfl) ?_
    refine lv_iload_n hx hb dX7_fits_17 rfl (lv_at hl 1 rfl) ?_
    refine fin_i hP hD hS hA [0] [1, 2] (wr := [(va, .inl (gyI G, 16, .inl h)), (ca, .inl (gyI G, 16, .inl f))]) rfl rfl (by decide) (by decide) (va_runV (As := [.int (nI 5)]) (rest := []) ⟨hx, hb, hml, hown, hts⟩ (c_X7_has l G cg 5 (by omega) H.size) (cwV 1 hts (gV q1172 q1165 q1166 q73 q1167) rfl rfl rfl (by decide +kernel) ⟨Nat.le_of_ble_eq_true rfl, Nat.le_of_ble_eq_true rfl⟩) (preV (q0 := 0) (ci := 12) hK hE hP hD hS hA [0] rfl (by decide) rfl rfl) rfl rfl hl.1 rfl (lv_room (Nat.le_of_ble_eq_true rfl)) dX7_fits_18 ⟨Nat.le_of_ble_eq_true rfl, Nat.le_of_ble_eq_true rfl⟩) (fun r_4 u9 hw_3 H locs hP hD hS => ?_)
    obtain ⟨bn_2, rfl⟩ : ∃ z, z = u9 := ⟨_, rfl⟩
    obtain ⟨rfl, hbn_5, hlo_6, hhi_7⟩ := hw_3
    have hbn_5 : bn_2 ≤ 1 := hbn_5
    have hlo_6 : 5 < 14 → bn_2 = 0 := hlo_6
    have hhi_7 : 14 ≤ 5 → bn_2 = 1 := hhi_7
    have hP : va_P (gD G) vwCl [(va, .inl (gyI G, 16, .inl h)), (ca, .inl (gyI G, 16, .inl f)), (cg, .inr (12, [.int (nI 49152), .int (nI 16)]))] H := hP
    have hD : va_D A [(va, .inl (gyI G, 16, .inl h)), (ca, .inl (gyI G, 16, .inl f)), (cg, .inr (12, [.int (nI 49152), .int (nI 16)]))] := hD
    refine lv_if_eq (tgt := 30) hx hb dX7_fits_21 (by decide) (fun c_8 => ?_) (fun c_8 => ?_)
    · skip
      have c_8 : bn_2 = 0 := (nI_eq (a := bn_2) (b := 0) (by omega) (by omega)).mp c_8
      refine lv_aload_n hx hb dX7_fits_30 rfl (lv_at hl 0 rfl) ?_
      refine lv_iload_n hx hb dX7_fits_31 rfl (lv_at hl 1 rfl) ?_
      refine lv_iconst (v := nI 1) hx hb dX7_fits_32 (by decide) ?_
      refine lv_iadd hx hb dX7_fits_33 ?_
      refine lv_toe (show _ = nI 6 by decide) ?_
      refine lv_iload_n hx hb dX7_fits_34 rfl (lv_at hl 2 rfl) ?_
      refine lv_aload_n hx hb dX7_fits_35 rfl (lv_at hl 3 rfl) ?_
      refine lv_aload hx hb dX7_fits_36 (lv_at hl 4 rfl) ?_
      refine fin_i hP hD hS hA [2, 0, 1] [] (wr := []) rfl rfl (by decide) (by decide) (va_runV (As := [.int (nI 6), .int (nI lf), .ref va, .ref ca]) (rest := []) ⟨hx, hb, hml, hown, hts⟩ (c_fits_6 l G cg lf va h ca f (by omega) (by omega) H.size) (cwV 4 hts (gV q1173 q1169 q1170 q73 q1171) rfl rfl rfl (by decide +kernel) ⟨Nat.le_of_ble_eq_true rfl, Nat.le_of_ble_eq_true rfl⟩) (preV (q0 := 2) (ci := 12) hK hE hP hD hS hA [2, 0, 1] rfl (by decide) rfl rfl) rfl rfl hl.1 rfl (lv_room (Nat.le_of_ble_eq_true rfl)) dX7_fits_38 ⟨Nat.le_of_ble_eq_true rfl, Nat.le_of_ble_eq_true rfl⟩) (fun r_11 u9 hw_10 H locs hP hD hS => ?_)
      obtain ⟨h2_9, rfl⟩ : ∃ z, z = u9 := ⟨_, rfl⟩
      subst hw_10
      have hP : va_P (gD G) vwCl [(cg, .inr (12, [.int (nI 49152), .int (nI 16)])), (va, .inl (gyI G, 16, .inl h2_9)), (ca, .inl (gyI G, 16, .inl f))] H := hP
      have hD : va_D A [(cg, .inr (12, [.int (nI 49152), .int (nI 16)])), (va, .inl (gyI G, 16, .inl h2_9)), (ca, .inl (gyI G, 16, .inl f))] := hD
      have hP9 := hP.sub (ws' := [(cg, .inr (12, [.int (nI 49152), .int (nI 16)])), (va, .inl (gyI G, 16, .inl h2_9)), (ca, .inl (gyI G, 16, .inl f))]) [0, 1, 2] rfl
      have hD9 := hD.sub (ws' := [(cg, .inr (12, [.int (nI 49152), .int (nI 16)])), (va, .inl (gyI G, 16, .inl h2_9)), (ca, .inl (gyI G, 16, .inl f))]) [0, 1, 2] (by decide) rfl
      subst hQ
      exact W.zret (v := nI 0) hx hb hr (by decide) (fun t ht hW => ⟨⟨nI 0, h2_9, rfl, rfl, by rw [ht]; exact hP9, hD9⟩, hS.F ht⟩) hS.2.2 dX7_fits_41
    · skip
      have c_8 : ¬ bn_2 = 0 := fun z => c_8 ((nI_eq (a := bn_2) (b := 0) (by omega) (by omega)).mpr z)
      exfalso; omega
  · skip
    have c_1 : 5 = 16 := (nI_eq (a := 5) (b := 16) (by omega) (by omega)).mp c_1
    exact absurd c_1 (by decide)
set_option maxHeartbeats 4000000 in
set_option maxRecDepth 100000 in
theorem c_fits_4 (l : Launch) (G : GG) (cg : Nat) (lf : Nat) (va : Nat) (h : Nat → Int32) (ca : Nat) (f : Nat → Int32) (hlf : 8 < lf) (hlf16 : lf ≤ 16) : Mi l G yX7_fits cX7_fits 8 (some .boolean) ({ frames := 12, cells := 0, slots := 0, locals := 324 } : Room) [.ref cg, .int (nI 4), .int (nI lf), .ref va, .ref ca] [(cg, .inr (12, [.int (nI 49152), .int (nI 16)])), (va, .inl (gyI G, 16, .inl h)), (ca, .inl (gyI G, 16, .inl f))] (fun (r : Int32) (u : (Nat → Int32)) => r = nI 0) (fun (u : (Nat → Int32)) => [(cg, .inr (12, [.int (nI 49152), .int (nI 16)])), (va, .inl (gyI G, 16, .inl u)), (ca, .inl (gyI G, 16, .inl f))]) := by
  intro sz
  refine Met.ofW (cc := cX7_fits) (maxL := 8) (ret := (some .boolean)) (by decide) rfl ?_
  intro p e s m args below meth c s₁ B9 hml hv
  obtain ⟨rfl, hsz, hP, hK, hD0, hE⟩ := hv
  have hx := B9.exec
  have hb := B9.bytes
  have hr := B9.returns
  have hts : ∀ w ∈ WW, w.before ([.ref cg, .int (nI 4), .int (nI lf), .ref va, .ref ca] : List Value).toArray s = true := fun w h => atoms_spec (ws := .code yX7_fits cX7_fits 8 (some .boolean) :: WW) B9.pre w (List.mem_cons_of_mem _ h)
  have hown : s.vm.findClass RX7 = some m.cls := findClass_of_methodNamed B9.named
  subst hsz
  have hD := hD0.self (sz := s.heap.size)
  generalize hAe : va_A [(cg, .inr (12, [.int (nI 49152), .int (nI 16)])), (va, .inl (gyI G, 16, .inl h)), (ca, .inl (gyI G, 16, .inl f))] s.heap.size = A at hD hE ⊢
  have hA : ∀ q : Nat, s.heap.size ≤ q → A q := fun q h => by rw [← hAe]; exact Or.inr h
  have hl := lv_entry ([.ref cg, .int (nI 4), .int (nI lf), .ref va, .ref ca]) (n := 8) (Nat.le_of_ble_eq_true rfl)
  rw [lg_entry_eq]
  generalize (lg_sl ([.ref cg, .int (nI 4), .int (nI lf), .ref va, .ref ca]) ++ List.replicate (8 - (lg_sl ([.ref cg, .int (nI 4), .int (nI lf), .ref va, .ref ca])).length) Slot.unset).toArray = ls at hl ⊢
  have hl : lv_has ls 8 [(0, .ref cg), (1, .int (nI 4)), (2, .int (nI lf)), (3, .ref va), (4, .ref ca)] := hl
  refine qgen (fun Q hQ => ?_)
  refine hgen (fun H locs hP hD hS => ?_) hP hD
  refine lv_iload_n hx hb dX7_fits_0 rfl (lv_at hl 1 rfl) ?_
  refine lv_bipush (v := nI 16) hx hb dX7_fits_1 (by decide) ?_
  refine lv_icmp_ne (tgt := 16) hx hb dX7_fits_3 (by decide) (fun c_1 => ?_) (fun c_1 => ?_)
  · skip
    have c_1 : ¬ 4 = 16 := fun z => c_1 ((nI_eq (a := 4) (b := 16) (by omega) (by omega)).mpr z)
    refine lv_aload_n hx hb dX7_fits_16 rfl (lv_at hl 0 rfl) ?_
    refine lv_iload_n hx hb dX7_fits_17 rfl (lv_at hl 1 rfl) ?_
    refine fin_i hP hD hS hA [0] [1, 2] (wr := [(va, .inl (gyI G, 16, .inl h)), (ca, .inl (gyI G, 16, .inl f))]) rfl rfl (by decide) (by decide) (va_runV (As := [.int (nI 4)]) (rest := []) ⟨hx, hb, hml, hown, hts⟩ (c_X7_has l G cg 4 (by omega) H.size) (cwV 1 hts (gV q1172 q1165 q1166 q73 q1167) rfl rfl rfl (by decide +kernel) ⟨Nat.le_of_ble_eq_true rfl, Nat.le_of_ble_eq_true rfl⟩) (preV (q0 := 0) (ci := 12) hK hE hP hD hS hA [0] rfl (by decide) rfl rfl) rfl rfl hl.1 rfl (lv_room (Nat.le_of_ble_eq_true rfl)) dX7_fits_18 ⟨Nat.le_of_ble_eq_true rfl, Nat.le_of_ble_eq_true rfl⟩) (fun r_4 u9 hw_3 H locs hP hD hS => ?_)
    obtain ⟨bn_2, rfl⟩ : ∃ z, z = u9 := ⟨_, rfl⟩
    obtain ⟨rfl, hbn_5, hlo_6, hhi_7⟩ := hw_3
    have hbn_5 : bn_2 ≤ 1 := hbn_5
    have hlo_6 : 4 < 14 → bn_2 = 0 := hlo_6
    have hhi_7 : 14 ≤ 4 → bn_2 = 1 := hhi_7
    have hP : va_P (gD G) vwCl [(va, .inl (gyI G, 16, .inl h)), (ca, .inl (gyI G, 16, .inl f)), (cg, .inr (12, [.int (nI 49152), .int (nI 16)]))] H := hP
    have hD : va_D A [(va, .inl (gyI G, 16, .inl h)), (ca, .inl (gyI G, 16, .inl f)), (cg, .inr (12, [.int (nI 49152), .int (nI 16)]))] := hD
    refine lv_if_eq (tgt := 30) hx hb dX7_fits_21 (by decide) (fun c_8 => ?_) (fun c_8 => ?_)
    · skip
      have c_8 : bn_2 = 0 := (nI_eq (a := bn_2) (b := 0) (by omega) (by omega)).mp c_8
      refine lv_aload_n hx hb dX7_fits_30 rfl (lv_at hl 0 rfl) ?_
      refine lv_iload_n hx hb dX7_fits_31 rfl (lv_at hl 1 rfl) ?_
      refine lv_iconst (v := nI 1) hx hb dX7_fits_32 (by decide) ?_
      refine lv_iadd hx hb dX7_fits_33 ?_
      refine lv_toe (show _ = nI 5 by decide) ?_
      refine lv_iload_n hx hb dX7_fits_34 rfl (lv_at hl 2 rfl) ?_
      refine lv_aload_n hx hb dX7_fits_35 rfl (lv_at hl 3 rfl) ?_
      refine lv_aload hx hb dX7_fits_36 (lv_at hl 4 rfl) ?_
      refine fin_i hP hD hS hA [2, 0, 1] [] (wr := []) rfl rfl (by decide) (by decide) (va_runV (As := [.int (nI 5), .int (nI lf), .ref va, .ref ca]) (rest := []) ⟨hx, hb, hml, hown, hts⟩ (c_fits_5 l G cg lf va h ca f (by omega) (by omega) H.size) (cwV 4 hts (gV q1173 q1169 q1170 q73 q1171) rfl rfl rfl (by decide +kernel) ⟨Nat.le_of_ble_eq_true rfl, Nat.le_of_ble_eq_true rfl⟩) (preV (q0 := 2) (ci := 12) hK hE hP hD hS hA [2, 0, 1] rfl (by decide) rfl rfl) rfl rfl hl.1 rfl (lv_room (Nat.le_of_ble_eq_true rfl)) dX7_fits_38 ⟨Nat.le_of_ble_eq_true rfl, Nat.le_of_ble_eq_true rfl⟩) (fun r_11 u9 hw_10 H locs hP hD hS => ?_)
      obtain ⟨h2_9, rfl⟩ : ∃ z, z = u9 := ⟨_, rfl⟩
      subst hw_10
      have hP : va_P (gD G) vwCl [(cg, .inr (12, [.int (nI 49152), .int (nI 16)])), (va, .inl (gyI G, 16, .inl h2_9)), (ca, .inl (gyI G, 16, .inl f))] H := hP
      have hD : va_D A [(cg, .inr (12, [.int (nI 49152), .int (nI 16)])), (va, .inl (gyI G, 16, .inl h2_9)), (ca, .inl (gyI G, 16, .inl f))] := hD
      have hP9 := hP.sub (ws' := [(cg, .inr (12, [.int (nI 49152), .int (nI 16)])), (va, .inl (gyI G, 16, .inl h2_9)), (ca, .inl (gyI G, 16, .inl f))]) [0, 1, 2] rfl
      have hD9 := hD.sub (ws' := [(cg, .inr (12, [.int (nI 49152), .int (nI 16)])), (va, .inl (gyI G, 16, .inl h2_9)), (ca, .inl (gyI G, 16, .inl f))]) [0, 1, 2] (by decide) rfl
      subst hQ
      exact W.zret (v := nI 0) hx hb hr (by decide) (fun t ht hW => ⟨⟨nI 0, h2_9, rfl, rfl, by rw [ht]; exact hP9, hD9⟩, hS.F ht⟩) hS.2.2 dX7_fits_41
    · skip
      have c_8 : ¬ bn_2 = 0 := fun z => c_8 ((nI_eq (a := bn_2) (b := 0) (by omega) (by omega)).mpr z)
      exfalso; omega
  · skip
    have c_1 : 4 = 16 := (nI_eq (a := 4) (b := 16) (by omega) (by omega)).mp c_1
    exact absurd c_1 (by decide)
set_option maxHeartbeats 4000000 in
set_option maxRecDepth 100000 in
theorem c_fits_3 (l : Launch) (G : GG) (cg : Nat) (lf : Nat) (va : Nat) (h : Nat → Int32) (ca : Nat) (f : Nat → Int32) (hlf : 8 < lf) (hlf16 : lf ≤ 16) : Mi l G yX7_fits cX7_fits 8 (some .boolean) ({ frames := 13, cells := 0, slots := 0, locals := 351 } : Room) [.ref cg, .int (nI 3), .int (nI lf), .ref va, .ref ca] [(cg, .inr (12, [.int (nI 49152), .int (nI 16)])), (va, .inl (gyI G, 16, .inl h)), (ca, .inl (gyI G, 16, .inl f))] (fun (r : Int32) (u : (Nat → Int32)) => r = nI 0) (fun (u : (Nat → Int32)) => [(cg, .inr (12, [.int (nI 49152), .int (nI 16)])), (va, .inl (gyI G, 16, .inl u)), (ca, .inl (gyI G, 16, .inl f))]) := by
  intro sz
  refine Met.ofW (cc := cX7_fits) (maxL := 8) (ret := (some .boolean)) (by decide) rfl ?_
  intro p e s m args below meth c s₁ B9 hml hv
  obtain ⟨rfl, hsz, hP, hK, hD0, hE⟩ := hv
  have hx := B9.exec
  have hb := B9.bytes
  have hr := B9.returns
  have hts : ∀ w ∈ WW, w.before ([.ref cg, .int (nI 3), .int (nI lf), .ref va, .ref ca] : List Value).toArray s = true := fun w h => atoms_spec (ws := .code yX7_fits cX7_fits 8 (some .boolean) :: WW) B9.pre w (List.mem_cons_of_mem _ h)
  have hown : s.vm.findClass RX7 = some m.cls := findClass_of_methodNamed B9.named
  subst hsz
  have hD := hD0.self (sz := s.heap.size)
  generalize hAe : va_A [(cg, .inr (12, [.int (nI 49152), .int (nI 16)])), (va, .inl (gyI G, 16, .inl h)), (ca, .inl (gyI G, 16, .inl f))] s.heap.size = A at hD hE ⊢
  have hA : ∀ q : Nat, s.heap.size ≤ q → A q := fun q h => by rw [← hAe]; exact Or.inr h
  have hl := lv_entry ([.ref cg, .int (nI 3), .int (nI lf), .ref va, .ref ca]) (n := 8) (Nat.le_of_ble_eq_true rfl)
  rw [lg_entry_eq]
  generalize (lg_sl ([.ref cg, .int (nI 3), .int (nI lf), .ref va, .ref ca]) ++ List.replicate (8 - (lg_sl ([.ref cg, .int (nI 3), .int (nI lf), .ref va, .ref ca])).length) Slot.unset).toArray = ls at hl ⊢
  have hl : lv_has ls 8 [(0, .ref cg), (1, .int (nI 3)), (2, .int (nI lf)), (3, .ref va), (4, .ref ca)] := hl
  refine qgen (fun Q hQ => ?_)
  refine hgen (fun H locs hP hD hS => ?_) hP hD
  refine lv_iload_n hx hb dX7_fits_0 rfl (lv_at hl 1 rfl) ?_
  refine lv_bipush (v := nI 16) hx hb dX7_fits_1 (by decide) ?_
  refine lv_icmp_ne (tgt := 16) hx hb dX7_fits_3 (by decide) (fun c_1 => ?_) (fun c_1 => ?_)
  · skip
    have c_1 : ¬ 3 = 16 := fun z => c_1 ((nI_eq (a := 3) (b := 16) (by omega) (by omega)).mpr z)
    refine lv_aload_n hx hb dX7_fits_16 rfl (lv_at hl 0 rfl) ?_
    refine lv_iload_n hx hb dX7_fits_17 rfl (lv_at hl 1 rfl) ?_
    refine fin_i hP hD hS hA [0] [1, 2] (wr := [(va, .inl (gyI G, 16, .inl h)), (ca, .inl (gyI G, 16, .inl f))]) rfl rfl (by decide) (by decide) (va_runV (As := [.int (nI 3)]) (rest := []) ⟨hx, hb, hml, hown, hts⟩ (c_X7_has l G cg 3 (by omega) H.size) (cwV 1 hts (gV q1172 q1165 q1166 q73 q1167) rfl rfl rfl (by decide +kernel) ⟨Nat.le_of_ble_eq_true rfl, Nat.le_of_ble_eq_true rfl⟩) (preV (q0 := 0) (ci := 12) hK hE hP hD hS hA [0] rfl (by decide) rfl rfl) rfl rfl hl.1 rfl (lv_room (Nat.le_of_ble_eq_true rfl)) dX7_fits_18 ⟨Nat.le_of_ble_eq_true rfl, Nat.le_of_ble_eq_true rfl⟩) (fun r_4 u9 hw_3 H locs hP hD hS => ?_)
    obtain ⟨bn_2, rfl⟩ : ∃ z, z = u9 := ⟨_, rfl⟩
    obtain ⟨rfl, hbn_5, hlo_6, hhi_7⟩ := hw_3
    have hbn_5 : bn_2 ≤ 1 := hbn_5
    have hlo_6 : 3 < 14 → bn_2 = 0 := hlo_6
    have hhi_7 : 14 ≤ 3 → bn_2 = 1 := hhi_7
    have hP : va_P (gD G) vwCl [(va, .inl (gyI G, 16, .inl h)), (ca, .inl (gyI G, 16, .inl f)), (cg, .inr (12, [.int (nI 49152), .int (nI 16)]))] H := hP
    have hD : va_D A [(va, .inl (gyI G, 16, .inl h)), (ca, .inl (gyI G, 16, .inl f)), (cg, .inr (12, [.int (nI 49152), .int (nI 16)]))] := hD
    refine lv_if_eq (tgt := 30) hx hb dX7_fits_21 (by decide) (fun c_8 => ?_) (fun c_8 => ?_)
    · skip
      have c_8 : bn_2 = 0 := (nI_eq (a := bn_2) (b := 0) (by omega) (by omega)).mp c_8
      refine lv_aload_n hx hb dX7_fits_30 rfl (lv_at hl 0 rfl) ?_
      refine lv_iload_n hx hb dX7_fits_31 rfl (lv_at hl 1 rfl) ?_
      refine lv_iconst (v := nI 1) hx hb dX7_fits_32 (by decide) ?_
      refine lv_iadd hx hb dX7_fits_33 ?_
      refine lv_toe (show _ = nI 4 by decide) ?_
      refine lv_iload_n hx hb dX7_fits_34 rfl (lv_at hl 2 rfl) ?_
      refine lv_aload_n hx hb dX7_fits_35 rfl (lv_at hl 3 rfl) ?_
      refine lv_aload hx hb dX7_fits_36 (lv_at hl 4 rfl) ?_
      refine fin_i hP hD hS hA [2, 0, 1] [] (wr := []) rfl rfl (by decide) (by decide) (va_runV (As := [.int (nI 4), .int (nI lf), .ref va, .ref ca]) (rest := []) ⟨hx, hb, hml, hown, hts⟩ (c_fits_4 l G cg lf va h ca f (by omega) (by omega) H.size) (cwV 4 hts (gV q1173 q1169 q1170 q73 q1171) rfl rfl rfl (by decide +kernel) ⟨Nat.le_of_ble_eq_true rfl, Nat.le_of_ble_eq_true rfl⟩) (preV (q0 := 2) (ci := 12) hK hE hP hD hS hA [2, 0, 1] rfl (by decide) rfl rfl) rfl rfl hl.1 rfl (lv_room (Nat.le_of_ble_eq_true rfl)) dX7_fits_38 ⟨Nat.le_of_ble_eq_true rfl, Nat.le_of_ble_eq_true rfl⟩) (fun r_11 u9 hw_10 H locs hP hD hS => ?_)
      obtain ⟨h2_9, rfl⟩ : ∃ z, z = u9 := ⟨_, rfl⟩
      subst hw_10
      have hP : va_P (gD G) vwCl [(cg, .inr (12, [.int (nI 49152), .int (nI 16)])), (va, .inl (gyI G, 16, .inl h2_9)), (ca, .inl (gyI G, 16, .inl f))] H := hP
      have hD : va_D A [(cg, .inr (12, [.int (nI 49152), .int (nI 16)])), (va, .inl (gyI G, 16, .inl h2_9)), (ca, .inl (gyI G, 16, .inl f))] := hD
      have hP9 := hP.sub (ws' := [(cg, .inr (12, [.int (nI 49152), .int (nI 16)])), (va, .inl (gyI G, 16, .inl h2_9)), (ca, .inl (gyI G, 16, .inl f))]) [0, 1, 2] rfl
      have hD9 := hD.sub (ws' := [(cg, .inr (12, [.int (nI 49152), .int (nI 16)])), (va, .inl (gyI G, 16, .inl h2_9)), (ca, .inl (gyI G, 16, .inl f))]) [0, 1, 2] (by decide) rfl
      subst hQ
      exact W.zret (v := nI 0) hx hb hr (by decide) (fun t ht hW => ⟨⟨nI 0, h2_9, rfl, rfl, by rw [ht]; exact hP9, hD9⟩, hS.F ht⟩) hS.2.2 dX7_fits_41
    · skip
      have c_8 : ¬ bn_2 = 0 := fun z => c_8 ((nI_eq (a := bn_2) (b := 0) (by omega) (by omega)).mpr z)
      exfalso; omega
  · skip
    have c_1 : 3 = 16 := (nI_eq (a := 3) (b := 16) (by omega) (by omega)).mp c_1
    exact absurd c_1 (by decide)
set_option maxHeartbeats 4000000 in
set_option maxRecDepth 100000 in
theorem c_fits_2 (l : Launch) (G : GG) (cg : Nat) (lf : Nat) (va : Nat) (h : Nat → Int32) (ca : Nat) (f : Nat → Int32) (hlf : 8 < lf) (hlf16 : lf ≤ 16) : Mi l G yX7_fits cX7_fits 8 (some .boolean) ({ frames := 14, cells := 0, slots := 0, locals := 378 } : Room) [.ref cg, .int (nI 2), .int (nI lf), .ref va, .ref ca] [(cg, .inr (12, [.int (nI 49152), .int (nI 16)])), (va, .inl (gyI G, 16, .inl h)), (ca, .inl (gyI G, 16, .inl f))] (fun (r : Int32) (u : (Nat → Int32)) => r = nI 0) (fun (u : (Nat → Int32)) => [(cg, .inr (12, [.int (nI 49152), .int (nI 16)])), (va, .inl (gyI G, 16, .inl u)), (ca, .inl (gyI G, 16, .inl f))]) := by
  intro sz
  refine Met.ofW (cc := cX7_fits) (maxL := 8) (ret := (some .boolean)) (by decide) rfl ?_
  intro p e s m args below meth c s₁ B9 hml hv
  obtain ⟨rfl, hsz, hP, hK, hD0, hE⟩ := hv
  have hx := B9.exec
  have hb := B9.bytes
  have hr := B9.returns
  have hts : ∀ w ∈ WW, w.before ([.ref cg, .int (nI 2), .int (nI lf), .ref va, .ref ca] : List Value).toArray s = true := fun w h => atoms_spec (ws := .code yX7_fits cX7_fits 8 (some .boolean) :: WW) B9.pre w (List.mem_cons_of_mem _ h)
  have hown : s.vm.findClass RX7 = some m.cls := findClass_of_methodNamed B9.named
  subst hsz
  have hD := hD0.self (sz := s.heap.size)
  generalize hAe : va_A [(cg, .inr (12, [.int (nI 49152), .int (nI 16)])), (va, .inl (gyI G, 16, .inl h)), (ca, .inl (gyI G, 16, .inl f))] s.heap.size = A at hD hE ⊢
  have hA : ∀ q : Nat, s.heap.size ≤ q → A q := fun q h => by rw [← hAe]; exact Or.inr h
  have hl := lv_entry ([.ref cg, .int (nI 2), .int (nI lf), .ref va, .ref ca]) (n := 8) (Nat.le_of_ble_eq_true rfl)
  rw [lg_entry_eq]
  generalize (lg_sl ([.ref cg, .int (nI 2), .int (nI lf), .ref va, .ref ca]) ++ List.replicate (8 - (lg_sl ([.ref cg, .int (nI 2), .int (nI lf), .ref va, .ref ca])).length) Slot.unset).toArray = ls at hl ⊢
  have hl : lv_has ls 8 [(0, .ref cg), (1, .int (nI 2)), (2, .int (nI lf)), (3, .ref va), (4, .ref ca)] := hl
  refine qgen (fun Q hQ => ?_)
  refine hgen (fun H locs hP hD hS => ?_) hP hD
  refine lv_iload_n hx hb dX7_fits_0 rfl (lv_at hl 1 rfl) ?_
  refine lv_bipush (v := nI 16) hx hb dX7_fits_1 (by decide) ?_
  refine lv_icmp_ne (tgt := 16) hx hb dX7_fits_3 (by decide) (fun c_1 => ?_) (fun c_1 => ?_)
  · skip
    have c_1 : ¬ 2 = 16 := fun z => c_1 ((nI_eq (a := 2) (b := 16) (by omega) (by omega)).mpr z)
    refine lv_aload_n hx hb dX7_fits_16 rfl (lv_at hl 0 rfl) ?_
    refine lv_iload_n hx hb dX7_fits_17 rfl (lv_at hl 1 rfl) ?_
    refine fin_i hP hD hS hA [0] [1, 2] (wr := [(va, .inl (gyI G, 16, .inl h)), (ca, .inl (gyI G, 16, .inl f))]) rfl rfl (by decide) (by decide) (va_runV (As := [.int (nI 2)]) (rest := []) ⟨hx, hb, hml, hown, hts⟩ (c_X7_has l G cg 2 (by omega) H.size) (cwV 1 hts (gV q1172 q1165 q1166 q73 q1167) rfl rfl rfl (by decide +kernel) ⟨Nat.le_of_ble_eq_true rfl, Nat.le_of_ble_eq_true rfl⟩) (preV (q0 := 0) (ci := 12) hK hE hP hD hS hA [0] rfl (by decide) rfl rfl) rfl rfl hl.1 rfl (lv_room (Nat.le_of_ble_eq_true rfl)) dX7_fits_18 ⟨Nat.le_of_ble_eq_true rfl, Nat.le_of_ble_eq_true rfl⟩) (fun r_4 u9 hw_3 H locs hP hD hS => ?_)
    obtain ⟨bn_2, rfl⟩ : ∃ z, z = u9 := ⟨_, rfl⟩
    obtain ⟨rfl, hbn_5, hlo_6, hhi_7⟩ := hw_3
    have hbn_5 : bn_2 ≤ 1 := hbn_5
    have hlo_6 : 2 < 14 → bn_2 = 0 := hlo_6
    have hhi_7 : 14 ≤ 2 → bn_2 = 1 := hhi_7
    have hP : va_P (gD G) vwCl [(va, .inl (gyI G, 16, .inl h)), (ca, .inl (gyI G, 16, .inl f)), (cg, .inr (12, [.int (nI 49152), .int (nI 16)]))] H := hP
    have hD : va_D A [(va, .inl (gyI G, 16, .inl h)), (ca, .inl (gyI G, 16, .inl f)), (cg, .inr (12, [.int (nI 49152), .int (nI 16)]))] := hD
    refine lv_if_eq (tgt := 30) hx hb dX7_fits_21 (by decide) (fun c_8 => ?_) (fun c_8 => ?_)
    · skip
      have c_8 : bn_2 = 0 := (nI_eq (a := bn_2) (b := 0) (by omega) (by omega)).mp c_8
      refine lv_aload_n hx hb dX7_fits_30 rfl (lv_at hl 0 rfl) ?_
      refine lv_iload_n hx hb dX7_fits_31 rfl (lv_at hl 1 rfl) ?_
      refine lv_iconst (v := nI 1) hx hb dX7_fits_32 (by decide) ?_
      refine lv_iadd hx hb dX7_fits_33 ?_
      refine lv_toe (show _ = nI 3 by decide) ?_
      refine lv_iload_n hx hb dX7_fits_34 rfl (lv_at hl 2 rfl) ?_
      refine lv_aload_n hx hb dX7_fits_35 rfl (lv_at hl 3 rfl) ?_
      refine lv_aload hx hb dX7_fits_36 (lv_at hl 4 rfl) ?_
      refine fin_i hP hD hS hA [2, 0, 1] [] (wr := []) rfl rfl (by decide) (by decide) (va_runV (As := [.int (nI 3), .int (nI lf), .ref va, .ref ca]) (rest := []) ⟨hx, hb, hml, hown, hts⟩ (c_fits_3 l G cg lf va h ca f (by omega) (by omega) H.size) (cwV 4 hts (gV q1173 q1169 q1170 q73 q1171) rfl rfl rfl (by decide +kernel) ⟨Nat.le_of_ble_eq_true rfl, Nat.le_of_ble_eq_true rfl⟩) (preV (q0 := 2) (ci := 12) hK hE hP hD hS hA [2, 0, 1] rfl (by decide) rfl rfl) rfl rfl hl.1 rfl (lv_room (Nat.le_of_ble_eq_true rfl)) dX7_fits_38 ⟨Nat.le_of_ble_eq_true rfl, Nat.le_of_ble_eq_true rfl⟩) (fun r_11 u9 hw_10 H locs hP hD hS => ?_)
      obtain ⟨h2_9, rfl⟩ : ∃ z, z = u9 := ⟨_, rfl⟩
      subst hw_10
      have hP : va_P (gD G) vwCl [(cg, .inr (12, [.int (nI 49152), .int (nI 16)])), (va, .inl (gyI G, 16, .inl h2_9)), (ca, .inl (gyI G, 16, .inl f))] H := hP
      have hD : va_D A [(cg, .inr (12, [.int (nI 49152), .int (nI 16)])), (va, .inl (gyI G, 16, .inl h2_9)), (ca, .inl (gyI G, 16, .inl f))] := hD
      have hP9 := hP.sub (ws' := [(cg, .inr (12, [.int (nI 49152), .int (nI 16)])), (va, .inl (gyI G, 16, .inl h2_9)), (ca, .inl (gyI G, 16, .inl f))]) [0, 1, 2] rfl
      have hD9 := hD.sub (ws' := [(cg, .inr (12, [.int (nI 49152), .int (nI 16)])), (va, .inl (gyI G, 16, .inl h2_9)), (ca, .inl (gyI G, 16, .inl f))]) [0, 1, 2] (by decide) rfl
      subst hQ
      exact W.zret (v := nI 0) hx hb hr (by decide) (fun t ht hW => ⟨⟨nI 0, h2_9, rfl, rfl, by rw [ht]; exact hP9, hD9⟩, hS.F ht⟩) hS.2.2 dX7_fits_41
    · skip
      have c_8 : ¬ bn_2 = 0 := fun z => c_8 ((nI_eq (a := bn_2) (b := 0) (by omega) (by omega)).mpr z)
      exfalso; omega
  · skip
    have c_1 : 2 = 16 := (nI_eq (a := 2) (b := 16) (by omega) (by omega)).mp c_1
    exact absurd c_1 (by decide)
set_option maxHeartbeats 4000000 in
set_option maxRecDepth 100000 in
theorem c_fits_1 (l : Launch) (G : GG) (cg : Nat) (lf : Nat) (va : Nat) (h : Nat → Int32) (ca : Nat) (f : Nat → Int32) (hlf : 8 < lf) (hlf16 : lf ≤ 16) : Mi l G yX7_fits cX7_fits 8 (some .boolean) ({ frames := 15, cells := 0, slots := 0, locals := 405 } : Room) [.ref cg, .int (nI 1), .int (nI lf), .ref va, .ref ca] [(cg, .inr (12, [.int (nI 49152), .int (nI 16)])), (va, .inl (gyI G, 16, .inl h)), (ca, .inl (gyI G, 16, .inl f))] (fun (r : Int32) (u : (Nat → Int32)) => r = nI 0) (fun (u : (Nat → Int32)) => [(cg, .inr (12, [.int (nI 49152), .int (nI 16)])), (va, .inl (gyI G, 16, .inl u)), (ca, .inl (gyI G, 16, .inl f))]) := by
  intro sz
  refine Met.ofW (cc := cX7_fits) (maxL := 8) (ret := (some .boolean)) (by decide) rfl ?_
  intro p e s m args below meth c s₁ B9 hml hv
  obtain ⟨rfl, hsz, hP, hK, hD0, hE⟩ := hv
  have hx := B9.exec
  have hb := B9.bytes
  have hr := B9.returns
  have hts : ∀ w ∈ WW, w.before ([.ref cg, .int (nI 1), .int (nI lf), .ref va, .ref ca] : List Value).toArray s = true := fun w h => atoms_spec (ws := .code yX7_fits cX7_fits 8 (some .boolean) :: WW) B9.pre w (List.mem_cons_of_mem _ h)
  have hown : s.vm.findClass RX7 = some m.cls := findClass_of_methodNamed B9.named
  subst hsz
  have hD := hD0.self (sz := s.heap.size)
  generalize hAe : va_A [(cg, .inr (12, [.int (nI 49152), .int (nI 16)])), (va, .inl (gyI G, 16, .inl h)), (ca, .inl (gyI G, 16, .inl f))] s.heap.size = A at hD hE ⊢
  have hA : ∀ q : Nat, s.heap.size ≤ q → A q := fun q h => by rw [← hAe]; exact Or.inr h
  have hl := lv_entry ([.ref cg, .int (nI 1), .int (nI lf), .ref va, .ref ca]) (n := 8) (Nat.le_of_ble_eq_true rfl)
  rw [lg_entry_eq]
  generalize (lg_sl ([.ref cg, .int (nI 1), .int (nI lf), .ref va, .ref ca]) ++ List.replicate (8 - (lg_sl ([.ref cg, .int (nI 1), .int (nI lf), .ref va, .ref ca])).length) Slot.unset).toArray = ls at hl ⊢
  have hl : lv_has ls 8 [(0, .ref cg), (1, .int (nI 1)), (2, .int (nI lf)), (3, .ref va), (4, .ref ca)] := hl
  refine qgen (fun Q hQ => ?_)
  refine hgen (fun H locs hP hD hS => ?_) hP hD
  refine lv_iload_n hx hb dX7_fits_0 rfl (lv_at hl 1 rfl) ?_
  refine lv_bipush (v := nI 16) hx hb dX7_fits_1 (by decide) ?_
  refine lv_icmp_ne (tgt := 16) hx hb dX7_fits_3 (by decide) (fun c_1 => ?_) (fun c_1 => ?_)
  · skip
    have c_1 : ¬ 1 = 16 := fun z => c_1 ((nI_eq (a := 1) (b := 16) (by omega) (by omega)).mpr z)
    refine lv_aload_n hx hb dX7_fits_16 rfl (lv_at hl 0 rfl) ?_
    refine lv_iload_n hx hb dX7_fits_17 rfl (lv_at hl 1 rfl) ?_
    refine fin_i hP hD hS hA [0] [1, 2] (wr := [(va, .inl (gyI G, 16, .inl h)), (ca, .inl (gyI G, 16, .inl f))]) rfl rfl (by decide) (by decide) (va_runV (As := [.int (nI 1)]) (rest := []) ⟨hx, hb, hml, hown, hts⟩ (c_X7_has l G cg 1 (by omega) H.size) (cwV 1 hts (gV q1172 q1165 q1166 q73 q1167) rfl rfl rfl (by decide +kernel) ⟨Nat.le_of_ble_eq_true rfl, Nat.le_of_ble_eq_true rfl⟩) (preV (q0 := 0) (ci := 12) hK hE hP hD hS hA [0] rfl (by decide) rfl rfl) rfl rfl hl.1 rfl (lv_room (Nat.le_of_ble_eq_true rfl)) dX7_fits_18 ⟨Nat.le_of_ble_eq_true rfl, Nat.le_of_ble_eq_true rfl⟩) (fun r_4 u9 hw_3 H locs hP hD hS => ?_)
    obtain ⟨bn_2, rfl⟩ : ∃ z, z = u9 := ⟨_, rfl⟩
    obtain ⟨rfl, hbn_5, hlo_6, hhi_7⟩ := hw_3
    have hbn_5 : bn_2 ≤ 1 := hbn_5
    have hlo_6 : 1 < 14 → bn_2 = 0 := hlo_6
    have hhi_7 : 14 ≤ 1 → bn_2 = 1 := hhi_7
    have hP : va_P (gD G) vwCl [(va, .inl (gyI G, 16, .inl h)), (ca, .inl (gyI G, 16, .inl f)), (cg, .inr (12, [.int (nI 49152), .int (nI 16)]))] H := hP
    have hD : va_D A [(va, .inl (gyI G, 16, .inl h)), (ca, .inl (gyI G, 16, .inl f)), (cg, .inr (12, [.int (nI 49152), .int (nI 16)]))] := hD
    refine lv_if_eq (tgt := 30) hx hb dX7_fits_21 (by decide) (fun c_8 => ?_) (fun c_8 => ?_)
    · skip
      have c_8 : bn_2 = 0 := (nI_eq (a := bn_2) (b := 0) (by omega) (by omega)).mp c_8
      refine lv_aload_n hx hb dX7_fits_30 rfl (lv_at hl 0 rfl) ?_
      refine lv_iload_n hx hb dX7_fits_31 rfl (lv_at hl 1 rfl) ?_
      refine lv_iconst (v := nI 1) hx hb dX7_fits_32 (by decide) ?_
      refine lv_iadd hx hb dX7_fits_33 ?_
      refine lv_toe (show _ = nI 2 by decide) ?_
      refine lv_iload_n hx hb dX7_fits_34 rfl (lv_at hl 2 rfl) ?_
      refine lv_aload_n hx hb dX7_fits_35 rfl (lv_at hl 3 rfl) ?_
      refine lv_aload hx hb dX7_fits_36 (lv_at hl 4 rfl) ?_
      refine fin_i hP hD hS hA [2, 0, 1] [] (wr := []) rfl rfl (by decide) (by decide) (va_runV (As := [.int (nI 2), .int (nI lf), .ref va, .ref ca]) (rest := []) ⟨hx, hb, hml, hown, hts⟩ (c_fits_2 l G cg lf va h ca f (by omega) (by omega) H.size) (cwV 4 hts (gV q1173 q1169 q1170 q73 q1171) rfl rfl rfl (by decide +kernel) ⟨Nat.le_of_ble_eq_true rfl, Nat.le_of_ble_eq_true rfl⟩) (preV (q0 := 2) (ci := 12) hK hE hP hD hS hA [2, 0, 1] rfl (by decide) rfl rfl) rfl rfl hl.1 rfl (lv_room (Nat.le_of_ble_eq_true rfl)) dX7_fits_38 ⟨Nat.le_of_ble_eq_true rfl, Nat.le_of_ble_eq_true rfl⟩) (fun r_11 u9 hw_10 H locs hP hD hS => ?_)
      obtain ⟨h2_9, rfl⟩ : ∃ z, z = u9 := ⟨_, rfl⟩
      subst hw_10
      have hP : va_P (gD G) vwCl [(cg, .inr (12, [.int (nI 49152), .int (nI 16)])), (va, .inl (gyI G, 16, .inl h2_9)), (ca, .inl (gyI G, 16, .inl f))] H := hP
      have hD : va_D A [(cg, .inr (12, [.int (nI 49152), .int (nI 16)])), (va, .inl (gyI G, 16, .inl h2_9)), (ca, .inl (gyI G, 16, .inl f))] := hD
      have hP9 := hP.sub (ws' := [(cg, .inr (12, [.int (nI 49152), .int (nI 16)])), (va, .inl (gyI G, 16, .inl h2_9)), (ca, .inl (gyI G, 16, .inl f))]) [0, 1, 2] rfl
      have hD9 := hD.sub (ws' := [(cg, .inr (12, [.int (nI 49152), .int (nI 16)])), (va, .inl (gyI G, 16, .inl h2_9)), (ca, .inl (gyI G, 16, .inl f))]) [0, 1, 2] (by decide) rfl
      subst hQ
      exact W.zret (v := nI 0) hx hb hr (by decide) (fun t ht hW => ⟨⟨nI 0, h2_9, rfl, rfl, by rw [ht]; exact hP9, hD9⟩, hS.F ht⟩) hS.2.2 dX7_fits_41
    · skip
      have c_8 : ¬ bn_2 = 0 := fun z => c_8 ((nI_eq (a := bn_2) (b := 0) (by omega) (by omega)).mpr z)
      exfalso; omega
  · skip
    have c_1 : 1 = 16 := (nI_eq (a := 1) (b := 16) (by omega) (by omega)).mp c_1
    exact absurd c_1 (by decide)
set_option maxHeartbeats 4000000 in
set_option maxRecDepth 100000 in
theorem c_fits_0 (l : Launch) (G : GG) (cg : Nat) (lf : Nat) (va : Nat) (h : Nat → Int32) (ca : Nat) (f : Nat → Int32) (hlf : 8 < lf) (hlf16 : lf ≤ 16) : Mi l G yX7_fits cX7_fits 8 (some .boolean) ({ frames := 16, cells := 0, slots := 0, locals := 432 } : Room) [.ref cg, .int (nI 0), .int (nI lf), .ref va, .ref ca] [(cg, .inr (12, [.int (nI 49152), .int (nI 16)])), (va, .inl (gyI G, 16, .inl h)), (ca, .inl (gyI G, 16, .inl f))] (fun (r : Int32) (u : (Nat → Int32)) => r = nI 0) (fun (u : (Nat → Int32)) => [(cg, .inr (12, [.int (nI 49152), .int (nI 16)])), (va, .inl (gyI G, 16, .inl u)), (ca, .inl (gyI G, 16, .inl f))]) := by
  intro sz
  refine Met.ofW (cc := cX7_fits) (maxL := 8) (ret := (some .boolean)) (by decide) rfl ?_
  intro p e s m args below meth c s₁ B9 hml hv
  obtain ⟨rfl, hsz, hP, hK, hD0, hE⟩ := hv
  have hx := B9.exec
  have hb := B9.bytes
  have hr := B9.returns
  have hts : ∀ w ∈ WW, w.before ([.ref cg, .int (nI 0), .int (nI lf), .ref va, .ref ca] : List Value).toArray s = true := fun w h => atoms_spec (ws := .code yX7_fits cX7_fits 8 (some .boolean) :: WW) B9.pre w (List.mem_cons_of_mem _ h)
  have hown : s.vm.findClass RX7 = some m.cls := findClass_of_methodNamed B9.named
  subst hsz
  have hD := hD0.self (sz := s.heap.size)
  generalize hAe : va_A [(cg, .inr (12, [.int (nI 49152), .int (nI 16)])), (va, .inl (gyI G, 16, .inl h)), (ca, .inl (gyI G, 16, .inl f))] s.heap.size = A at hD hE ⊢
  have hA : ∀ q : Nat, s.heap.size ≤ q → A q := fun q h => by rw [← hAe]; exact Or.inr h
  have hl := lv_entry ([.ref cg, .int (nI 0), .int (nI lf), .ref va, .ref ca]) (n := 8) (Nat.le_of_ble_eq_true rfl)
  rw [lg_entry_eq]
  generalize (lg_sl ([.ref cg, .int (nI 0), .int (nI lf), .ref va, .ref ca]) ++ List.replicate (8 - (lg_sl ([.ref cg, .int (nI 0), .int (nI lf), .ref va, .ref ca])).length) Slot.unset).toArray = ls at hl ⊢
  have hl : lv_has ls 8 [(0, .ref cg), (1, .int (nI 0)), (2, .int (nI lf)), (3, .ref va), (4, .ref ca)] := hl
  refine qgen (fun Q hQ => ?_)
  refine hgen (fun H locs hP hD hS => ?_) hP hD
  refine lv_iload_n hx hb dX7_fits_0 rfl (lv_at hl 1 rfl) ?_
  refine lv_bipush (v := nI 16) hx hb dX7_fits_1 (by decide) ?_
  refine lv_icmp_ne (tgt := 16) hx hb dX7_fits_3 (by decide) (fun c_1 => ?_) (fun c_1 => ?_)
  · skip
    have c_1 : ¬ 0 = 16 := fun z => c_1 ((nI_eq (a := 0) (b := 16) (by omega) (by omega)).mpr z)
    refine lv_aload_n hx hb dX7_fits_16 rfl (lv_at hl 0 rfl) ?_
    refine lv_iload_n hx hb dX7_fits_17 rfl (lv_at hl 1 rfl) ?_
    refine fin_i hP hD hS hA [0] [1, 2] (wr := [(va, .inl (gyI G, 16, .inl h)), (ca, .inl (gyI G, 16, .inl f))]) rfl rfl (by decide) (by decide) (va_runV (As := [.int (nI 0)]) (rest := []) ⟨hx, hb, hml, hown, hts⟩ (c_X7_has l G cg 0 (by omega) H.size) (cwV 1 hts (gV q1172 q1165 q1166 q73 q1167) rfl rfl rfl (by decide +kernel) ⟨Nat.le_of_ble_eq_true rfl, Nat.le_of_ble_eq_true rfl⟩) (preV (q0 := 0) (ci := 12) hK hE hP hD hS hA [0] rfl (by decide) rfl rfl) rfl rfl hl.1 rfl (lv_room (Nat.le_of_ble_eq_true rfl)) dX7_fits_18 ⟨Nat.le_of_ble_eq_true rfl, Nat.le_of_ble_eq_true rfl⟩) (fun r_4 u9 hw_3 H locs hP hD hS => ?_)
    obtain ⟨bn_2, rfl⟩ : ∃ z, z = u9 := ⟨_, rfl⟩
    obtain ⟨rfl, hbn_5, hlo_6, hhi_7⟩ := hw_3
    have hbn_5 : bn_2 ≤ 1 := hbn_5
    have hlo_6 : 0 < 14 → bn_2 = 0 := hlo_6
    have hhi_7 : 14 ≤ 0 → bn_2 = 1 := hhi_7
    have hP : va_P (gD G) vwCl [(va, .inl (gyI G, 16, .inl h)), (ca, .inl (gyI G, 16, .inl f)), (cg, .inr (12, [.int (nI 49152), .int (nI 16)]))] H := hP
    have hD : va_D A [(va, .inl (gyI G, 16, .inl h)), (ca, .inl (gyI G, 16, .inl f)), (cg, .inr (12, [.int (nI 49152), .int (nI 16)]))] := hD
    refine lv_if_eq (tgt := 30) hx hb dX7_fits_21 (by decide) (fun c_8 => ?_) (fun c_8 => ?_)
    · skip
      have c_8 : bn_2 = 0 := (nI_eq (a := bn_2) (b := 0) (by omega) (by omega)).mp c_8
      refine lv_aload_n hx hb dX7_fits_30 rfl (lv_at hl 0 rfl) ?_
      refine lv_iload_n hx hb dX7_fits_31 rfl (lv_at hl 1 rfl) ?_
      refine lv_iconst (v := nI 1) hx hb dX7_fits_32 (by decide) ?_
      refine lv_iadd hx hb dX7_fits_33 ?_
      refine lv_toe (show _ = nI 1 by decide) ?_
      refine lv_iload_n hx hb dX7_fits_34 rfl (lv_at hl 2 rfl) ?_
      refine lv_aload_n hx hb dX7_fits_35 rfl (lv_at hl 3 rfl) ?_
      refine lv_aload hx hb dX7_fits_36 (lv_at hl 4 rfl) ?_
      refine fin_i hP hD hS hA [2, 0, 1] [] (wr := []) rfl rfl (by decide) (by decide) (va_runV (As := [.int (nI 1), .int (nI lf), .ref va, .ref ca]) (rest := []) ⟨hx, hb, hml, hown, hts⟩ (c_fits_1 l G cg lf va h ca f (by omega) (by omega) H.size) (cwV 4 hts (gV q1173 q1169 q1170 q73 q1171) rfl rfl rfl (by decide +kernel) ⟨Nat.le_of_ble_eq_true rfl, Nat.le_of_ble_eq_true rfl⟩) (preV (q0 := 2) (ci := 12) hK hE hP hD hS hA [2, 0, 1] rfl (by decide) rfl rfl) rfl rfl hl.1 rfl (lv_room (Nat.le_of_ble_eq_true rfl)) dX7_fits_38 ⟨Nat.le_of_ble_eq_true rfl, Nat.le_of_ble_eq_true rfl⟩) (fun r_11 u9 hw_10 H locs hP hD hS => ?_)
      obtain ⟨h2_9, rfl⟩ : ∃ z, z = u9 := ⟨_, rfl⟩
      subst hw_10
      have hP : va_P (gD G) vwCl [(cg, .inr (12, [.int (nI 49152), .int (nI 16)])), (va, .inl (gyI G, 16, .inl h2_9)), (ca, .inl (gyI G, 16, .inl f))] H := hP
      have hD : va_D A [(cg, .inr (12, [.int (nI 49152), .int (nI 16)])), (va, .inl (gyI G, 16, .inl h2_9)), (ca, .inl (gyI G, 16, .inl f))] := hD
      have hP9 := hP.sub (ws' := [(cg, .inr (12, [.int (nI 49152), .int (nI 16)])), (va, .inl (gyI G, 16, .inl h2_9)), (ca, .inl (gyI G, 16, .inl f))]) [0, 1, 2] rfl
      have hD9 := hD.sub (ws' := [(cg, .inr (12, [.int (nI 49152), .int (nI 16)])), (va, .inl (gyI G, 16, .inl h2_9)), (ca, .inl (gyI G, 16, .inl f))]) [0, 1, 2] (by decide) rfl
      subst hQ
      exact W.zret (v := nI 0) hx hb hr (by decide) (fun t ht hW => ⟨⟨nI 0, h2_9, rfl, rfl, by rw [ht]; exact hP9, hD9⟩, hS.F ht⟩) hS.2.2 dX7_fits_41
    · skip
      have c_8 : ¬ bn_2 = 0 := fun z => c_8 ((nI_eq (a := bn_2) (b := 0) (by omega) (by omega)).mpr z)
      exfalso; omega
  · skip
    have c_1 : 0 = 16 := (nI_eq (a := 0) (b := 16) (by omega) (by omega)).mp c_1
    exact absurd c_1 (by decide)
