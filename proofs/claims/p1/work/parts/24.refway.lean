theorem q38 : (Jvm.Cond.selects "PegboardryModel$Way" ({ cls := "PegboardryModel$Way", name := "next", desc := "(LPegboardryModel$Puzzle;I)I" } : Jvm.MethodName) ({ cls := "PegboardryModel$Way", name := "next", desc := "(LPegboardryModel$Puzzle;I)I" } : Jvm.MethodName)) ∈ WW := inW 38 (by decide +kernel) rfl
theorem q75 : (Jvm.Cond.initialized "PegboardryModel$Way") ∈ WW := inW 75 (by decide +kernel) rfl
theorem q991 : (Jvm.Cond.selects "java/util/ArrayList" ({ cls := "java/util/List", name := "add", desc := "(Ljava/lang/Object;)Z" } : Jvm.MethodName) ({ cls := "java/util/ArrayList", name := "add", desc := "(Ljava/lang/Object;)Z" } : Jvm.MethodName)) ∈ WW := inW 991 (by decide +kernel) rfl
theorem q1066 : (Jvm.Cond.methodLink "PegboardryModel$Way" (3 : Nat) ({ cls := "java/lang/Object", name := "<init>", desc := "()V" } : Jvm.MethodName)) ∈ WW := inW 1066 (by decide +kernel) rfl
theorem q1067 : (Jvm.Cond.classLink "PegboardryModel$Way" (15 : Nat) "java/util/ArrayList") ∈ WW := inW 1067 (by decide +kernel) rfl
theorem q1068 : (Jvm.Cond.methodLink "PegboardryModel$Way" (17 : Nat) ({ cls := "java/util/ArrayList", name := "<init>", desc := "()V" } : Jvm.MethodName)) ∈ WW := inW 1068 (by decide +kernel) rfl
theorem q1069 : (Jvm.Cond.methodLink "PegboardryModel$Way" (25 : Nat) ({ cls := "java/util/Arrays", name := "fill", desc := "([II)V" } : Jvm.MethodName)) ∈ WW := inW 1069 (by decide +kernel) rfl
theorem q1070 : (Jvm.Cond.static ({ cls := "java/util/Arrays", name := "fill", desc := "([II)V" } : Jvm.MethodName)) ∈ WW := inW 1070 (by decide +kernel) rfl
theorem q1071 : (Jvm.Cond.code ({ cls := "java/util/Arrays", name := "fill", desc := "([II)V" } : Jvm.MethodName) prog_38_method_103_code (4 : Nat) (Option.none : Option Jvm.ClassFile.FieldType)) ∈ WW := inW 1071 (by decide +kernel) rfl
theorem q1072 : (Jvm.Cond.methodLink "PegboardryModel$Way" (31 : Nat) ({ cls := "PegboardryModel$Way", name := "next", desc := "(LPegboardryModel$Puzzle;I)I" } : Jvm.MethodName)) ∈ WW := inW 1072 (by decide +kernel) rfl
theorem q1074 : (Jvm.Cond.instanceMethod ({ cls := "PegboardryModel$Way", name := "next", desc := "(LPegboardryModel$Puzzle;I)I" } : Jvm.MethodName)) ∈ WW := inW 1074 (by decide +kernel) rfl
theorem q1075 : (Jvm.Cond.code ({ cls := "PegboardryModel$Way", name := "next", desc := "(LPegboardryModel$Puzzle;I)I" } : Jvm.MethodName) prog_12_method_2_code (6 : Nat) (Option.some Jvm.ClassFile.FieldType.int)) ∈ WW := inW 1075 (by decide +kernel) rfl
theorem q1176 : (Jvm.Cond.methodLink "PegboardryModel$Way" (35 : Nat) ({ cls := "java/lang/Integer", name := "valueOf", desc := "(I)Ljava/lang/Integer;" } : Jvm.MethodName)) ∈ WW := inW 1176 (by decide +kernel) rfl
theorem q1177 : (Jvm.Cond.static ({ cls := "java/lang/Integer", name := "valueOf", desc := "(I)Ljava/lang/Integer;" } : Jvm.MethodName)) ∈ WW := inW 1177 (by decide +kernel) rfl
theorem q1178 : (Jvm.Cond.code ({ cls := "java/lang/Integer", name := "valueOf", desc := "(I)Ljava/lang/Integer;" } : Jvm.MethodName) prog_22_method_22_code (1 : Nat) (Option.some (Jvm.ClassFile.FieldType.object "java/lang/Integer"))) ∈ WW := inW 1178 (by decide +kernel) rfl
theorem q1197 : (Jvm.Cond.methodLink "PegboardryModel$Way" (41 : Nat) ({ cls := "java/util/List", name := "add", desc := "(Ljava/lang/Object;)Z" } : Jvm.MethodName)) ∈ WW := inW 1197 (by decide +kernel) rfl
theorem q1199 : (Jvm.Cond.methodLink "PegboardryModel$Way" (51 : Nat) ({ cls := "PegboardryModel$Way", name := "state", desc := "()C" } : Jvm.MethodName)) ∈ WW := inW 1199 (by decide +kernel) rfl
theorem q1200 : (Jvm.Cond.instanceMethod ({ cls := "PegboardryModel$Way", name := "state", desc := "()C" } : Jvm.MethodName)) ∈ WW := inW 1200 (by decide +kernel) rfl
theorem q1201 : (Jvm.Cond.selects "PegboardryModel$Way" ({ cls := "PegboardryModel$Way", name := "state", desc := "()C" } : Jvm.MethodName) ({ cls := "PegboardryModel$Way", name := "state", desc := "()C" } : Jvm.MethodName)) ∈ WW := inW 1201 (by decide +kernel) rfl
theorem q1202 : (Jvm.Cond.code ({ cls := "PegboardryModel$Way", name := "state", desc := "()C" } : Jvm.MethodName) prog_12_method_3_code (6 : Nat) (Option.some Jvm.ClassFile.FieldType.char)) ∈ WW := inW 1202 (by decide +kernel) rfl
theorem q1205 : (Jvm.Cond.fieldLink "PegboardryModel$Way" (18 : Nat) "PegboardryModel$Way" "steps" "Ljava/util/List;") ∈ WW := inW 1205 (by decide +kernel) rfl
theorem q1207 : (Jvm.Cond.fieldLink "PegboardryModel$Way" (22 : Nat) "PegboardryModel$Way" "single" "Ljava/util/List;") ∈ WW := inW 1207 (by decide +kernel) rfl
theorem dX9_init_0 : decode cX9_init 0 = .ok (.aload_n 0, 1) := by decide +kernel
theorem dX9_init_1 : decode cX9_init 1 = .ok (.invokespecial 3, 3) := by decide +kernel
theorem dX9_init_4 : decode cX9_init 4 = .ok (.aload_n 0, 1) := by decide +kernel
theorem dX9_init_5 : decode cX9_init 5 = .ok (.bipush 16, 2) := by decide +kernel
theorem dX9_init_7 : decode cX9_init 7 = .ok (.newarray .int, 2) := by decide +kernel
theorem dX9_init_9 : decode cX9_init 9 = .ok (.putfield 9, 3) := by decide +kernel
theorem dX9_init_12 : decode cX9_init 12 = .ok (.aload_n 0, 1) := by decide +kernel
theorem dX9_init_13 : decode cX9_init 13 = .ok (.new 15, 3) := by decide +kernel
theorem dX9_init_16 : decode cX9_init 16 = .ok (.dup, 1) := by decide +kernel
theorem dX9_init_17 : decode cX9_init 17 = .ok (.invokespecial 17, 3) := by decide +kernel
theorem dX9_init_20 : decode cX9_init 20 = .ok (.putfield 18, 3) := by decide +kernel
theorem dX9_init_23 : decode cX9_init 23 = .ok (.aload_n 0, 1) := by decide +kernel
theorem dX9_init_24 : decode cX9_init 24 = .ok (.new 15, 3) := by decide +kernel
theorem dX9_init_27 : decode cX9_init 27 = .ok (.dup, 1) := by decide +kernel
theorem dX9_init_28 : decode cX9_init 28 = .ok (.invokespecial 17, 3) := by decide +kernel
theorem dX9_init_31 : decode cX9_init 31 = .ok (.putfield 22, 3) := by decide +kernel
theorem dX9_init_34 : decode cX9_init 34 = .ok (.aload_n 0, 1) := by decide +kernel
theorem dX9_init_35 : decode cX9_init 35 = .ok (.getfield 9, 3) := by decide +kernel
theorem dX9_init_38 : decode cX9_init 38 = .ok (.bipush 15, 2) := by decide +kernel
theorem dX9_init_40 : decode cX9_init 40 = .ok (.invokestatic 25, 3) := by decide +kernel
theorem dX9_init_50 : decode cX9_init 50 = .ok (.iload_n 3, 1) := by decide +kernel
theorem dX9_init_51 : decode cX9_init 51 = .ok (.ifCond .lt 102, 3) := by decide +kernel
theorem dX9_init_54 : decode cX9_init 54 = .ok (.iload_n 3, 1) := by decide +kernel
theorem dX9_init_55 : decode cX9_init 55 = .ok (.bipush 100, 2) := by decide +kernel
theorem dX9_init_57 : decode cX9_init 57 = .ok (.irem, 1) := by decide +kernel
theorem dX9_init_58 : decode cX9_init 58 = .ok (.iconst 5, 1) := by decide +kernel
theorem dX9_init_59 : decode cX9_init 59 = .ok (.idiv, 1) := by decide +kernel
theorem dX9_init_60 : decode cX9_init 60 = .ok (.istore 4, 2) := by decide +kernel
theorem dX9_init_62 : decode cX9_init 62 = .ok (.aload_n 0, 1) := by decide +kernel
theorem dX9_init_63 : decode cX9_init 63 = .ok (.getfield 18, 3) := by decide +kernel
theorem dX9_init_66 : decode cX9_init 66 = .ok (.iload_n 3, 1) := by decide +kernel
theorem dX9_init_67 : decode cX9_init 67 = .ok (.invokestatic 35, 3) := by decide +kernel
theorem dX9_init_70 : decode cX9_init 70 = .ok (.invokeinterface 41 2, 5) := by decide +kernel
theorem dX9_init_75 : decode cX9_init 75 = .ok (.pop, 1) := by decide +kernel
theorem dX9_init_76 : decode cX9_init 76 = .ok (.aload_n 0, 1) := by decide +kernel
theorem dX9_init_77 : decode cX9_init 77 = .ok (.getfield 9, 3) := by decide +kernel
theorem dX9_init_80 : decode cX9_init 80 = .ok (.iload 4, 2) := by decide +kernel
theorem dX9_init_82 : decode cX9_init 82 = .ok (.dup2, 1) := by decide +kernel
theorem dX9_init_83 : decode cX9_init 83 = .ok (.iaload, 1) := by decide +kernel
theorem dX9_init_84 : decode cX9_init 84 = .ok (.iconst 1, 1) := by decide +kernel
theorem dX9_init_85 : decode cX9_init 85 = .ok (.iload_n 3, 1) := by decide +kernel
theorem dX9_init_86 : decode cX9_init 86 = .ok (.bipush 100, 2) := by decide +kernel
theorem dX9_init_88 : decode cX9_init 88 = .ok (.irem, 1) := by decide +kernel
theorem dX9_init_89 : decode cX9_init 89 = .ok (.iconst 5, 1) := by decide +kernel
theorem dX9_init_90 : decode cX9_init 90 = .ok (.iload 4, 2) := by decide +kernel
theorem dX9_init_92 : decode cX9_init 92 = .ok (.imul, 1) := by decide +kernel
theorem dX9_init_93 : decode cX9_init 93 = .ok (.isub, 1) := by decide +kernel
theorem dX9_init_94 : decode cX9_init 94 = .ok (.iconst 1, 1) := by decide +kernel
theorem dX9_init_95 : decode cX9_init 95 = .ok (.isub, 1) := by decide +kernel
theorem dX9_init_96 : decode cX9_init 96 = .ok (.ishl, 1) := by decide +kernel
theorem dX9_init_97 : decode cX9_init 97 = .ok (.iconst (-1), 1) := by decide +kernel
theorem dX9_init_98 : decode cX9_init 98 = .ok (.ixor, 1) := by decide +kernel
theorem dX9_init_99 : decode cX9_init 99 = .ok (.iand, 1) := by decide +kernel
theorem dX9_init_100 : decode cX9_init 100 = .ok (.iastore, 1) := by decide +kernel
theorem dX9_init_101 : decode cX9_init 101 = .ok (.aload_n 0, 1) := by decide +kernel
theorem dX9_init_102 : decode cX9_init 102 = .ok (.getfield 9, 3) := by decide +kernel
theorem dX9_init_105 : decode cX9_init 105 = .ok (.iload 4, 2) := by decide +kernel
theorem dX9_init_107 : decode cX9_init 107 = .ok (.iaload, 1) := by decide +kernel
theorem dX9_init_108 : decode cX9_init 108 = .ok (.invokestatic 47, 3) := by decide +kernel
theorem dX9_init_111 : decode cX9_init 111 = .ok (.iconst 1, 1) := by decide +kernel
theorem dX9_init_112 : decode cX9_init 112 = .ok (.if_icmp .ne 18, 3) := by decide +kernel
theorem dX9_init_130 : decode cX9_init 130 = .ok (.aload_n 0, 1) := by decide +kernel
theorem dX9_init_131 : decode cX9_init 131 = .ok (.invokevirtual 51, 3) := by decide +kernel
theorem dX9_init_134 : decode cX9_init 134 = .ok (.bipush 98, 2) := by decide +kernel
theorem dX9_init_136 : decode cX9_init 136 = .ok (.if_icmp .ne 7, 3) := by decide +kernel
theorem dX9_init_143 : decode cX9_init 143 = .ok (.aload_n 0, 1) := by decide +kernel
theorem dX9_init_144 : decode cX9_init 144 = .ok (.aload_n 1, 1) := by decide +kernel
theorem dX9_init_145 : decode cX9_init 145 = .ok (.iload_n 2, 1) := by decide +kernel
theorem dX9_init_146 : decode cX9_init 146 = .ok (.invokevirtual 31, 3) := by decide +kernel
theorem dX9_init_149 : decode cX9_init 149 = .ok (.istore_n 3, 1) := by decide +kernel
theorem dX9_init_150 : decode cX9_init 150 = .ok (.goto (-100), 3) := by decide +kernel
theorem dX9_init_153 : decode cX9_init 153 = .ok (.return_, 1) := by decide +kernel
theorem dX9_init_139 : decode cX9_init 139 = .ok (.iconst (-1), 1) := by decide +kernel
theorem dX9_init_140 : decode cX9_init 140 = .ok (.goto 9, 3) := by decide +kernel
theorem dX9_init_115 : decode cX9_init 115 = .ok (.aload_n 0, 1) := by decide +kernel
theorem dX9_init_116 : decode cX9_init 116 = .ok (.getfield 22, 3) := by decide +kernel
theorem dX9_init_119 : decode cX9_init 119 = .ok (.iload 4, 2) := by decide +kernel
theorem dX9_init_121 : decode cX9_init 121 = .ok (.invokestatic 35, 3) := by decide +kernel
theorem dX9_init_124 : decode cX9_init 124 = .ok (.invokeinterface 41 2, 5) := by decide +kernel
theorem dX9_init_129 : decode cX9_init 129 = .ok (.pop, 1) := by decide +kernel
theorem dX9_init_43 : decode cX9_init 43 = .ok (.aload_n 0, 1) := by decide +kernel
theorem dX9_init_44 : decode cX9_init 44 = .ok (.aload_n 1, 1) := by decide +kernel
theorem dX9_init_45 : decode cX9_init 45 = .ok (.iload_n 2, 1) := by decide +kernel
theorem dX9_init_46 : decode cX9_init 46 = .ok (.invokevirtual 31, 3) := by decide +kernel
theorem dX9_init_49 : decode cX9_init 49 = .ok (.istore_n 3, 1) := by decide +kernel
set_option maxHeartbeats 4000000 in
set_option maxRecDepth 100000 in
theorem c_X9_init (l : Launch) (G : GG) (wy : Nat) (pz : Nat) (gr : Nat) (mr : Nat) (cg : Nat) (gv : Nat → Int32) (hi : Nat) (hhi : hi < 4) : Mv l G yX9_init cX9_init 5 ({ frames := 7, cells := 263, slots := 65152, locals := 191 } : Room) [.ref wy, .ref pz, .int (nI hi)] [(wy, .inr (14, [.null, .null, .null])), (pz, .inr (13, [.ref gr, .ref mr, .ref cg])), (gr, .inl (gyI G, 16, .inl gv))] (fun (u : Nat × Nat × Nat × (Nat → Int32)) => True) (fun (u : Nat × Nat × Nat × (Nat → Int32)) => [(wy, .inr (14, [.ref u.1, .ref u.2.1, .ref u.2.2.1])), (u.1, .inl (gyI G, 16, .inl u.2.2.2)), (pz, .inr (13, [.ref gr, .ref mr, .ref cg])), (gr, .inl (gyI G, 16, .inl gv))]) := by
  intro sz
  refine Met.ofW (cc := cX9_init) (maxL := 5) (ret := none) (by decide) rfl ?_
  intro p e s m args below meth c s₁ B9 hml hv
  obtain ⟨rfl, hsz, hP, hK, hD0, hE⟩ := hv
  have hx := B9.exec
  have hb := B9.bytes
  have hr := B9.returns
  have hts : ∀ w ∈ WW, w.before ([.ref wy, .ref pz, .int (nI hi)] : List Value).toArray s = true := fun w h => atoms_spec (ws := .code yX9_init cX9_init 5 none :: WW) B9.pre w (List.mem_cons_of_mem _ h)
  have hown : s.vm.findClass RX9 = some m.cls := findClass_of_methodNamed B9.named
  have hin : meth.name = "<init>" := (name_of_methodNamed B9.named B9.method).1
  subst hsz
  have hD := hD0.self (sz := s.heap.size)
  generalize hAe : va_A [(wy, .inr (14, [.null, .null, .null])), (pz, .inr (13, [.ref gr, .ref mr, .ref cg])), (gr, .inl (gyI G, 16, .inl gv))] s.heap.size = A at hD hE ⊢
  have hA : ∀ q : Nat, s.heap.size ≤ q → A q := fun q h => by rw [← hAe]; exact Or.inr h
  have hl := lv_entry ([.ref wy, .ref pz, .int (nI hi)]) (n := 5) (Nat.le_of_ble_eq_true rfl)
  rw [lg_entry_eq]
  generalize (lg_sl ([.ref wy, .ref pz, .int (nI hi)]) ++ List.replicate (5 - (lg_sl ([.ref wy, .ref pz, .int (nI hi)])).length) Slot.unset).toArray = ls at hl ⊢
  have hl : lv_has ls 5 [(0, .ref wy), (1, .ref pz), (2, .int (nI hi))] := hl
  refine qgen (fun Q hQ => ?_)
  refine hgen (fun H locs hP hD hS => ?_) hP hD
  refine lv_aload_n hx hb dX9_init_0 rfl (lv_at hl 0 rfl) ?_
  refine W.objInit hx hb hown (hts _ q1066) (hts _ q86) (hts _ q87) rfl (by rw [hml]; exact hl.1) rfl dX9_init_1 (Nat.le_of_ble_eq_true rfl) (Nat.le_of_ble_eq_true rfl) ?_
  refine W.eq (g2 := F0 m 4 ls []) rfl ?_
  refine lv_aload_n hx hb dX9_init_4 rfl (lv_at hl 0 rfl) ?_
  refine lv_bipush (v := nI 16) hx hb dX9_init_5 (by decide) ?_
  refine va_newa (D := gD G) (atype := .int) (ty := .int) (a0 := (16, .inl (fun _ => 0))) hx hb (hts _ q135) rfl hK hP hD hS hA (fun _ => rfl) (nI_pos (by omega)) (nI_clamp (by omega)) (Nat.le_of_ble_eq_true rfl) (Nat.le_of_ble_eq_true rfl) (Nat.le_of_ble_eq_true rfl) dX9_init_7 (fun q_1 cA_2 H hKn hP hD hS => ?_)
  obtain rfl := ty_one_I hK hKn
  have hP : va_P (gD G) vwCl [(wy, .inr (14, [.null, .null, .null])), (pz, .inr (13, [.ref gr, .ref mr, .ref cg])), (gr, .inl (gyI G, 16, .inl gv)), (q_1, .inl (gyI G, 16, .inl (fun _ => 0)))] H := hP
  have hD : va_D A [(wy, .inr (14, [.null, .null, .null])), (pz, .inr (13, [.ref gr, .ref mr, .ref cg])), (gr, .inl (gyI G, 16, .inl gv)), (q_1, .inl (gyI G, 16, .inl (fun _ => 0)))] := hD
  refine va_putF (D := gD G) (ci := 14) (v := .ref q_1) (ty := .array .int) (C := RX9) (T := TX9) (N := 3) hx hb hts fwX9 tyX9 tyX9_ok nmX9 hown hK hP hD hS 0 rfl rfl 0 (by decide) (hts _ q1203) (fun _ h9 => h9) rfl hin rfl (by decide +kernel) rfl rfl (Nat.le_of_ble_eq_true rfl) dX9_init_9 (fun H locs hP hD hS => ?_)
  have hP : va_P (gD G) vwCl [(wy, .inr (14, [.ref q_1, .null, .null])), (pz, .inr (13, [.ref gr, .ref mr, .ref cg])), (gr, .inl (gyI G, 16, .inl gv)), (q_1, .inl (gyI G, 16, .inl (fun _ => 0)))] H := hP
  have hD : va_D A [(wy, .inr (14, [.ref q_1, .null, .null])), (pz, .inr (13, [.ref gr, .ref mr, .ref cg])), (gr, .inl (gyI G, 16, .inl gv)), (q_1, .inl (gyI G, 16, .inl (fun _ => 0)))] := hD
  refine lv_aload_n hx hb dX9_init_12 rfl (lv_at hl 0 rfl) ?_
  refine va_new (D := gD G) (ci := 4) (fs := [.int 0, .null, .int 0]) (C := RJx4a65c) (T := TJx4a65c) (N := 3) hx hb hts fwJx4a65c tyJx4a65c tyJx4a65c_ok hown (hts _ q1067) (hts _ q89) (hts _ q48) hK hP hD hS hA rfl (fun j hj => by rcases (show j = 0 ∨ j = 1 ∨ j = 2 by omega) with rfl | rfl | rfl <;> rfl) (Nat.le_of_ble_eq_true rfl) (Nat.le_of_ble_eq_true rfl) dX9_init_13 (fun q_3 H hP hD hS => ?_)
  have hP : va_P (gD G) vwCl [(wy, .inr (14, [.ref q_1, .null, .null])), (pz, .inr (13, [.ref gr, .ref mr, .ref cg])), (gr, .inl (gyI G, 16, .inl gv)), (q_1, .inl (gyI G, 16, .inl (fun _ => 0))), (q_3, .inr (4, [.int (nI 0), .null, .int (nI 0)]))] H := hP
  have hD : va_D A [(wy, .inr (14, [.ref q_1, .null, .null])), (pz, .inr (13, [.ref gr, .ref mr, .ref cg])), (gr, .inl (gyI G, 16, .inl gv)), (q_1, .inl (gyI G, 16, .inl (fun _ => 0))), (q_3, .inr (4, [.int (nI 0), .null, .int (nI 0)]))] := hD
  refine lv_dup hx hb dX9_init_16 rfl ?_
  refine fin_v hP hD hS hA [4] [0, 1, 2, 3] (wr := [(wy, .inr (14, [.ref q_1, .null, .null])), (pz, .inr (13, [.ref gr, .ref mr, .ref cg])), (gr, .inl (gyI G, 16, .inl gv)), (q_1, .inl (gyI G, 16, .inl (fun _ => 0)))]) rfl rfl (by decide) (by decide) (va_runI (As := []) (rest := [.ref q_3, .ref wy]) ⟨hx, hb, hml, hown, hts⟩ (c_Jx4a65c_init_da8c8 l G q_3 H.size) (cwI 0 hts (gI q92) rfl rfl rfl (hts _ q48) (hts _ q1068) (hts _ q91) rfl (by decide +kernel) ⟨Nat.le_of_ble_eq_true rfl, Nat.le_of_ble_eq_true rfl⟩) (preS hK hE hP hD hS hA [4] rfl (by decide)) rfl rfl hl.1 rfl (lv_room (Nat.le_of_ble_eq_true rfl)) dX9_init_17 ⟨Nat.le_of_ble_eq_true rfl, Nat.le_of_ble_eq_true rfl⟩) (fun u9 hw_4 H locs hP hD hS => ?_)
  have hP : va_P (gD G) vwCl [(wy, .inr (14, [.ref q_1, .null, .null])), (pz, .inr (13, [.ref gr, .ref mr, .ref cg])), (gr, .inl (gyI G, 16, .inl gv)), (q_1, .inl (gyI G, 16, .inl (fun _ => 0))), (q_3, .inr (4, [.int (nI 0), .ref (gE G), .int (nI 0)]))] H := hP
  have hD : va_D A [(wy, .inr (14, [.ref q_1, .null, .null])), (pz, .inr (13, [.ref gr, .ref mr, .ref cg])), (gr, .inl (gyI G, 16, .inl gv)), (q_1, .inl (gyI G, 16, .inl (fun _ => 0))), (q_3, .inr (4, [.int (nI 0), .ref (gE G), .int (nI 0)]))] := hD
  refine va_putF (D := gD G) (ci := 14) (v := .ref q_3) (ty := .object "java/util/List") (C := RX9) (T := TX9) (N := 3) hx hb hts fwX9 tyX9 tyX9_ok nmX9 hown hK hP hD hS 0 rfl rfl 1 (by decide) (hts _ q1205) (fun _ h9 => h9) rfl hin rfl (by decide +kernel) rfl rfl (Nat.le_of_ble_eq_true rfl) dX9_init_20 (fun H locs hP hD hS => ?_)
  have hP : va_P (gD G) vwCl [(wy, .inr (14, [.ref q_1, .ref q_3, .null])), (pz, .inr (13, [.ref gr, .ref mr, .ref cg])), (gr, .inl (gyI G, 16, .inl gv)), (q_1, .inl (gyI G, 16, .inl (fun _ => 0))), (q_3, .inr (4, [.int (nI 0), .ref (gE G), .int (nI 0)]))] H := hP
  have hD : va_D A [(wy, .inr (14, [.ref q_1, .ref q_3, .null])), (pz, .inr (13, [.ref gr, .ref mr, .ref cg])), (gr, .inl (gyI G, 16, .inl gv)), (q_1, .inl (gyI G, 16, .inl (fun _ => 0))), (q_3, .inr (4, [.int (nI 0), .ref (gE G), .int (nI 0)]))] := hD
  refine lv_aload_n hx hb dX9_init_23 rfl (lv_at hl 0 rfl) ?_
  refine va_new (D := gD G) (ci := 4) (fs := [.int 0, .null, .int 0]) (C := RJx4a65c) (T := TJx4a65c) (N := 3) hx hb hts fwJx4a65c tyJx4a65c tyJx4a65c_ok hown (hts _ q1067) (hts _ q89) (hts _ q48) hK hP hD hS hA rfl (fun j hj => by rcases (show j = 0 ∨ j = 1 ∨ j = 2 by omega) with rfl | rfl | rfl <;> rfl) (Nat.le_of_ble_eq_true rfl) (Nat.le_of_ble_eq_true rfl) dX9_init_24 (fun q_6 H hP hD hS => ?_)
  have hP : va_P (gD G) vwCl [(wy, .inr (14, [.ref q_1, .ref q_3, .null])), (pz, .inr (13, [.ref gr, .ref mr, .ref cg])), (gr, .inl (gyI G, 16, .inl gv)), (q_1, .inl (gyI G, 16, .inl (fun _ => 0))), (q_3, .inr (4, [.int (nI 0), .ref (gE G), .int (nI 0)])), (q_6, .inr (4, [.int (nI 0), .null, .int (nI 0)]))] H := hP
  have hD : va_D A [(wy, .inr (14, [.ref q_1, .ref q_3, .null])), (pz, .inr (13, [.ref gr, .ref mr, .ref cg])), (gr, .inl (gyI G, 16, .inl gv)), (q_1, .inl (gyI G, 16, .inl (fun _ => 0))), (q_3, .inr (4, [.int (nI 0), .ref (gE G), .int (nI 0)])), (q_6, .inr (4, [.int (nI 0), .null, .int (nI 0)]))] := hD
  refine lv_dup hx hb dX9_init_27 rfl ?_
  refine fin_v hP hD hS hA [5] [0, 1, 2, 3, 4] (wr := [(wy, .inr (14, [.ref q_1, .ref q_3, .null])), (pz, .inr (13, [.ref gr, .ref mr, .ref cg])), (gr, .inl (gyI G, 16, .inl gv)), (q_1, .inl (gyI G, 16, .inl (fun _ => 0))), (q_3, .inr (4, [.int (nI 0), .ref (gE G), .int (nI 0)]))]) rfl rfl (by decide) (by decide) (va_runI (As := []) (rest := [.ref q_6, .ref wy]) ⟨hx, hb, hml, hown, hts⟩ (c_Jx4a65c_init_da8c8 l G q_6 H.size) (cwI 0 hts (gI q92) rfl rfl rfl (hts _ q48) (hts _ q1068) (hts _ q91) rfl (by decide +kernel) ⟨Nat.le_of_ble_eq_true rfl, Nat.le_of_ble_eq_true rfl⟩) (preS hK hE hP hD hS hA [5] rfl (by decide)) rfl rfl hl.1 rfl (lv_room (Nat.le_of_ble_eq_true rfl)) dX9_init_28 ⟨Nat.le_of_ble_eq_true rfl, Nat.le_of_ble_eq_true rfl⟩) (fun u9 hw_7 H locs hP hD hS => ?_)
  have hP : va_P (gD G) vwCl [(wy, .inr (14, [.ref q_1, .ref q_3, .null])), (pz, .inr (13, [.ref gr, .ref mr, .ref cg])), (gr, .inl (gyI G, 16, .inl gv)), (q_1, .inl (gyI G, 16, .inl (fun _ => 0))), (q_3, .inr (4, [.int (nI 0), .ref (gE G), .int (nI 0)])), (q_6, .inr (4, [.int (nI 0), .ref (gE G), .int (nI 0)]))] H := hP
  have hD : va_D A [(wy, .inr (14, [.ref q_1, .ref q_3, .null])), (pz, .inr (13, [.ref gr, .ref mr, .ref cg])), (gr, .inl (gyI G, 16, .inl gv)), (q_1, .inl (gyI G, 16, .inl (fun _ => 0))), (q_3, .inr (4, [.int (nI 0), .ref (gE G), .int (nI 0)])), (q_6, .inr (4, [.int (nI 0), .ref (gE G), .int (nI 0)]))] := hD
  refine va_putF (D := gD G) (ci := 14) (v := .ref q_6) (ty := .object "java/util/List") (C := RX9) (T := TX9) (N := 3) hx hb hts fwX9 tyX9 tyX9_ok nmX9 hown hK hP hD hS 0 rfl rfl 2 (by decide) (hts _ q1207) (fun _ h9 => h9) rfl hin rfl (by decide +kernel) rfl rfl (Nat.le_of_ble_eq_true rfl) dX9_init_31 (fun H locs hP hD hS => ?_)
  have hP : va_P (gD G) vwCl [(wy, .inr (14, [.ref q_1, .ref q_3, .ref q_6])), (pz, .inr (13, [.ref gr, .ref mr, .ref cg])), (gr, .inl (gyI G, 16, .inl gv)), (q_1, .inl (gyI G, 16, .inl (fun _ => 0))), (q_3, .inr (4, [.int (nI 0), .ref (gE G), .int (nI 0)])), (q_6, .inr (4, [.int (nI 0), .ref (gE G), .int (nI 0)]))] H := hP
  have hD : va_D A [(wy, .inr (14, [.ref q_1, .ref q_3, .ref q_6])), (pz, .inr (13, [.ref gr, .ref mr, .ref cg])), (gr, .inl (gyI G, 16, .inl gv)), (q_1, .inl (gyI G, 16, .inl (fun _ => 0))), (q_3, .inr (4, [.int (nI 0), .ref (gE G), .int (nI 0)])), (q_6, .inr (4, [.int (nI 0), .ref (gE G), .int (nI 0)]))] := hD
  refine lv_aload_n hx hb dX9_init_34 rfl (lv_at hl 0 rfl) ?_
  refine va_get (D := gD G) (ci := 14) (v := .ref q_1) (C := RX9) (T := TX9) (N := 3) hx hb hts fwX9 hown hK hP 0 rfl rfl 0 (by decide) (hts _ q1203) (fun _ h9 => h9) rfl dX9_init_35 ?_
  refine lv_bipush (v := nI 15) hx hb dX9_init_38 (by decide) ?_
  refine fin_v hP hD hS hA [3] [0, 1, 2, 4, 5] (wr := [(wy, .inr (14, [.ref q_1, .ref q_3, .ref q_6])), (pz, .inr (13, [.ref gr, .ref mr, .ref cg])), (gr, .inl (gyI G, 16, .inl gv)), (q_3, .inr (4, [.int (nI 0), .ref (gE G), .int (nI 0)])), (q_6, .inr (4, [.int (nI 0), .ref (gE G), .int (nI 0)]))]) rfl rfl (by decide) (by decide) (va_runS (As := [.ref q_1, .int (nI 15)]) (rest := []) ⟨hx, hb, hml, hown, hts⟩ (c_J7_fill_53178 l G q_1 (fun _ => 0) 15 (by omega) H.size) (va_cwS 2 hts (gSt q1069 q1070 q60 q1071) rfl rfl rfl (by decide +kernel) ⟨Nat.le_of_ble_eq_true rfl, Nat.le_of_ble_eq_true rfl⟩) (preS hK hE hP hD hS hA [3] rfl (by decide)) rfl rfl hl.1 rfl (lv_room (Nat.le_of_ble_eq_true rfl)) dX9_init_40 ⟨Nat.le_of_ble_eq_true rfl, Nat.le_of_ble_eq_true rfl⟩) (fun u9 hw_10 H locs hP hD hS => ?_)
  obtain ⟨f2_9, rfl⟩ : ∃ z, z = u9 := ⟨_, rfl⟩
  have hf2_12 := hw_10
  have hf2_12 : inB 16 16 f2_9 := hf2_12
  have hP : va_P (gD G) vwCl [(wy, .inr (14, [.ref q_1, .ref q_3, .ref q_6])), (pz, .inr (13, [.ref gr, .ref mr, .ref cg])), (gr, .inl (gyI G, 16, .inl gv)), (q_3, .inr (4, [.int (nI 0), .ref (gE G), .int (nI 0)])), (q_6, .inr (4, [.int (nI 0), .ref (gE G), .int (nI 0)])), (q_1, .inl (gyI G, 16, .inl f2_9))] H := hP
  have hD : va_D A [(wy, .inr (14, [.ref q_1, .ref q_3, .ref q_6])), (pz, .inr (13, [.ref gr, .ref mr, .ref cg])), (gr, .inl (gyI G, 16, .inl gv)), (q_3, .inr (4, [.int (nI 0), .ref (gE G), .int (nI 0)])), (q_6, .inr (4, [.int (nI 0), .ref (gE G), .int (nI 0)])), (q_1, .inl (gyI G, 16, .inl f2_9))] := hD
  have cut_50_1 : ∀ (n9 : Nat) (rl : Nat) (c9 : Nat) (v9 : Nat) (n9_ : Nat) (f : Nat → Int32) (t : Nat) (T : va_W) (md1 : Int32) (ed1 : Nat) (n1 : Nat) (cap1 : Nat) (g1 : Nat → Option Nat) (md2 : Int32) (ed2 : Nat) (n2 : Nat) (cap2 : Nat) (g2 : Nat → Option Nat) (hrl : rl < 4) (hc9 : c9 < 16) (hv1 : 1 ≤ v9) (hv4 : v9 ≤ 4) (hn9 : n9_ < 16) (hf : inB 16 16 f) (hf9 : f c9 = nI n9_) (hbit : n9_ / pw v9 % 2 = 1) (hmu : t + mu f ≤ 64) (hti : tI T) (ha1 : 10 ≤ cap1) (hb1 : n1 ≤ cap1) (hc1 : cap1 ≤ 2 * n1 + 10) (hd1 : n1 ≤ t) (hg1 : obR (okI G T) g1) (ha2 : 10 ≤ cap2) (hb2 : n2 ≤ cap2) (hc2 : cap2 ≤ 2 * n2 + 10) (hd2 : n2 ≤ t) (hg2 : obR (okI G T) g2) (hm9 : mu f < n9) (H : Heap) (locs : List Loc), va_P (gD G) vwCl ([(wy, .inr (14, [.ref q_1, .ref q_3, .ref q_6])), (q_1, .inl (gyI G, 16, .inl f)), (pz, .inr (13, [.ref gr, .ref mr, .ref cg])), (gr, .inl (gyI G, 16, .inl gv)), (q_3, .inr (4, [.int md1, .ref ed1, .int (nI n1)])), (ed1, .inl (gyO G, cap1, .inr (.inr (.inr (.inr g1))))), (q_6, .inr (4, [.int md2, .ref ed2, .int (nI n2)])), (ed2, .inl (gyO G, cap2, .inr (.inr (.inr (.inr g2)))))] ++ T) H → va_D A ([(wy, .inr (14, [.ref q_1, .ref q_3, .ref q_6])), (q_1, .inl (gyI G, 16, .inl f)), (pz, .inr (13, [.ref gr, .ref mr, .ref cg])), (gr, .inl (gyI G, 16, .inl gv)), (q_3, .inr (4, [.int md1, .ref ed1, .int (nI n1)])), (ed1, .inl (gyO G, cap1, .inr (.inr (.inr (.inr g1))))), (q_6, .inr (4, [.int md2, .ref ed2, .int (nI n2)])), (ed2, .inl (gyO G, cap2, .inr (.inr (.inr (.inr g2)))))] ++ T) → va_S A s.heap H locs → ∀ (ls : Array Slot), lv_has ls 5 [(0, .ref wy), (1, .ref pz), (2, .int (nI hi)), (3, .int (nI (100 * rl + 5 * c9 + v9)))] → W p l e ({ frames := 7, cells := 263, slots := 65152, locals := 191 } : Room) s m ([.ref wy, .ref pz, .int (nI hi)] : List Value).toArray below meth c H locs (3 + 4 * t) (22 + 1002 * t) Q (F0 m 50 ls []) := by
    intro n9
    induction n9 with
    | zero =>
      intro rl c9 v9 n9_ f t T md1 ed1 n1 cap1 g1 md2 ed2 n2 cap2 g2 hrl hc9 hv1 hv4 hn9 hf hf9 hbit hmu hti ha1 hb1 hc1 hd1 hg1 ha2 hb2 hc2 hd2 hg2 hm9
      exact absurd hm9 (Nat.not_lt_zero _)
    | succ n9 ih_50_1 =>
      intro rl c9 v9 n9_ f t T md1 ed1 n1 cap1 g1 md2 ed2 n2 cap2 g2 hrl hc9 hv1 hv4 hn9 hf hf9 hbit hmu hti ha1 hb1 hc1 hd1 hg1 ha2 hb2 hc2 hd2 hg2 hm9 H locs hP hD hS ls hl
      refine lv_iload_n hx hb dX9_init_50 rfl (lv_at hl 3 rfl) ?_
      refine lv_if_lt (tgt := 153) hx hb dX9_init_51 (by decide) (fun c_13 => ?_) (fun c_13 => ?_)
      · skip
        have c_13 : (100 * rl + 5 * c9 + v9) < 0 := (nI_ltI (a := 100 * rl + 5 * c9 + v9) (b := 0) (by omega) (by omega)).mp c_13
        exfalso; omega
      · skip
        have c_13 : ¬ (100 * rl + 5 * c9 + v9) < 0 := fun z => c_13 ((nI_ltI (a := 100 * rl + 5 * c9 + v9) (b := 0) (by omega) (by omega)).mpr z)
        refine lv_iload_n hx hb dX9_init_54 rfl (lv_at hl 3 rfl) ?_
        refine lv_bipush (v := nI 100) hx hb dX9_init_55 (by decide) ?_
        refine lv_irem hx hb dX9_init_57 (nI_ne0 (by omega) (by omega)) ?_
        refine lv_toe (pk_rem (a := 100 * rl + 5 * c9 + v9) (d := 100) (by omega) (by omega) (by omega)) ?_
        refine lv_iconst (v := nI 5) hx hb dX9_init_58 (by decide) ?_
        refine lv_idiv hx hb dX9_init_59 (nI_ne0 (by omega) (by omega)) ?_
        refine lv_toe (pk_div (a := (100 * rl + 5 * c9 + v9) % 100) (d := 5) (by omega) (by omega) (by omega)) ?_
        refine lv_toe (show nI (((100 * rl + 5 * c9 + v9) % 100) / 5) = nI (c9) from congrArg nI (by omega)) ?_
        refine lv_istore (lv' := [(4, .int (nI c9)), (0, .ref wy), (1, .ref pz), (2, .int (nI hi)), (3, .int (nI (100 * rl + 5 * c9 + v9)))]) hx hb dX9_init_60 hl (by decide) rfl (fun ls hl => ?_)
        refine lv_aload_n hx hb dX9_init_62 rfl (lv_at hl 1 rfl) ?_
        refine va_get (D := gD G) (ci := 14) (v := .ref q_3) (C := RX9) (T := TX9) (N := 3) hx hb hts fwX9 hown hK hP 0 rfl rfl 1 (by decide) (hts _ q1205) (fun _ h9 => h9) rfl dX9_init_63 ?_
        refine lv_iload_n hx hb dX9_init_66 rfl (lv_at hl 4 rfl) ?_
        refine fin_rT hP hD hS hA [] [0, 1, 2, 3, 4, 5, 6, 7] (wr := [(wy, .inr (14, [.ref q_1, .ref q_3, .ref q_6])), (q_1, .inl (gyI G, 16, .inl f)), (pz, .inr (13, [.ref gr, .ref mr, .ref cg])), (gr, .inl (gyI G, 16, .inl gv)), (q_3, .inr (4, [.int md1, .ref ed1, .int (nI n1)])), (ed1, .inl (gyO G, cap1, .inr (.inr (.inr (.inr g1))))), (q_6, .inr (4, [.int md2, .ref ed2, .int (nI n2)])), (ed2, .inl (gyO G, cap2, .inr (.inr (.inr (.inr g2)))))]) rfl rfl (by decide) (allLt rfl) (allLt rfl) (by decide) (va_runS (As := [.int (nI (100 * rl + 5 * c9 + v9))]) (rest := [.ref q_3]) ⟨hx, hb, hml, hown, hts⟩ (c_J6_valueOf_2dffe l G (100 * rl + 5 * c9 + v9) (by omega) H.size) (va_cwS 1 hts (gSt q1176 q1177 q70 q1178) rfl rfl rfl (by decide +kernel) ⟨Nat.le_of_ble_eq_true rfl, Nat.le_of_ble_eq_true rfl⟩) (preS hK hE hP hD hS hA [] rfl (by decide)) rfl rfl hl.1 rfl (lv_room (Nat.le_of_ble_eq_true rfl)) dX9_init_67 ⟨(by show 3 + 4 * t + 1 ≤ (263 : Nat); omega), (by show 22 + 1002 * t + 1 ≤ (65152 : Nat); omega)⟩) (fun u9 r_16 hw_15 H locs hP hD hS => ?_)
        obtain ⟨T2_14, rfl⟩ : ∃ z, z = u9 := ⟨_, rfl⟩
        obtain ⟨T_17, eT_18⟩ : ∃ z : va_W, z = T2_14 ++ T := ⟨_, rfl⟩
        have hP : va_P (gD G) vwCl ([(wy, .inr (14, [.ref q_1, .ref q_3, .ref q_6])), (q_1, .inl (gyI G, 16, .inl f)), (pz, .inr (13, [.ref gr, .ref mr, .ref cg])), (gr, .inl (gyI G, 16, .inl gv)), (q_3, .inr (4, [.int md1, .ref ed1, .int (nI n1)])), (ed1, .inl (gyO G, cap1, .inr (.inr (.inr (.inr g1))))), (q_6, .inr (4, [.int md2, .ref ed2, .int (nI n2)])), (ed2, .inl (gyO G, cap2, .inr (.inr (.inr (.inr g2)))))] ++ T_17) H := by rw [eT_18, ← List.append_assoc]; exact hP
        have hD : va_D A ([(wy, .inr (14, [.ref q_1, .ref q_3, .ref q_6])), (q_1, .inl (gyI G, 16, .inl f)), (pz, .inr (13, [.ref gr, .ref mr, .ref cg])), (gr, .inl (gyI G, 16, .inl gv)), (q_3, .inr (4, [.int md1, .ref ed1, .int (nI n1)])), (ed1, .inl (gyO G, cap1, .inr (.inr (.inr (.inr g1))))), (q_6, .inr (4, [.int md2, .ref ed2, .int (nI n2)])), (ed2, .inl (gyO G, cap2, .inr (.inr (.inr (.inr g2)))))] ++ T_17) := by rw [eT_18, ← List.append_assoc]; exact hD
        have hti_19 : tI T_17 := by rw [eT_18]; exact tI.app hti hw_15
        have hok_20 : okI G T_17 r_16 := by rw [eT_18]; exact okI.new hw_15
        have hb_21 : obR (okI G T_17) g1 := by rw [eT_18]; exact obR.old hw_15 hg1
        have hb_22 : obR (okI G T_17) g2 := by rw [eT_18]; exact obR.old hw_15 hg2
        refine fin_i5T hP hD hS hA [4, 5] [0, 1, 2, 3, 6, 7] (wr := [(wy, .inr (14, [.ref q_1, .ref q_3, .ref q_6])), (q_1, .inl (gyI G, 16, .inl f)), (pz, .inr (13, [.ref gr, .ref mr, .ref cg])), (gr, .inl (gyI G, 16, .inl gv)), (q_6, .inr (4, [.int md2, .ref ed2, .int (nI n2)])), (ed2, .inl (gyO G, cap2, .inr (.inr (.inr (.inr g2)))))]) rfl rfl (by decide) (allLt rfl) (allLt rfl) (by decide) (va_runF (As := [.ref r_16]) (rest := []) (hK.1 4 _ rfl).2 ⟨hx, hb, hml, hown, hts⟩ (c_add_more l (gSet G (okI G T_17)) q_3 md1 ed1 n1 cap1 g1 r_16 hok_20 (by omega) (by omega) hb_21 (by omega) (by omega) H.size) (va_cwF 1 hts (gF q1197 q991 q469 q48 q471) rfl rfl rfl (hE.1.2.1 _ FW1) (by decide +kernel) ⟨Nat.le_of_ble_eq_true rfl, Nat.le_of_ble_eq_true rfl⟩) (preVG (okI_ob hK hE hP hD hS hA hti_19 [4, 5] rfl) (q0 := 4) (ci := 4) hK hE hP hD hS hA [4, 5] rfl (by decide) rfl rfl) rfl rfl hl.1 rfl (lv_room (Nat.le_of_ble_eq_true rfl)) dX9_init_70 ⟨(by show 3 + 4 * t + 1 + 1 ≤ (263 : Nat); omega), (by show 22 + 1002 * t + 1 + 500 ≤ (65152 : Nat); omega)⟩) (fun r_28 u9 hw_27 H locs hP hD hS => ?_)
        obtain ⟨md2_23, ed2_24, cap2_25, f2_26⟩ := u9
        obtain ⟨hc1_29, hc2_30, hc3_31, hf2_32⟩ := hw_27
        have hc1_29 : 10 ≤ cap2_25 := hc1_29
        have hc2_30 : n1 + 1 ≤ cap2_25 := hc2_30
        have hc3_31 : cap2_25 ≤ 2 * (n1 + 1) + 10 := hc3_31
        have hf2_32 : obR (gOB (gSet G (okI G T_17))) f2_26 := hf2_32
        have hP : va_P (gD G) vwCl ([(wy, .inr (14, [.ref q_1, .ref q_3, .ref q_6])), (q_1, .inl (gyI G, 16, .inl f)), (pz, .inr (13, [.ref gr, .ref mr, .ref cg])), (gr, .inl (gyI G, 16, .inl gv)), (q_6, .inr (4, [.int md2, .ref ed2, .int (nI n2)])), (ed2, .inl (gyO G, cap2, .inr (.inr (.inr (.inr g2))))), (q_3, .inr (4, [.int md2_23, .ref ed2_24, .int (nI (n1 + 1))])), (ed2_24, .inl (gyO G, cap2_25, .inr (.inr (.inr (.inr f2_26)))))] ++ T_17) H := hP
        have hD : va_D A ([(wy, .inr (14, [.ref q_1, .ref q_3, .ref q_6])), (q_1, .inl (gyI G, 16, .inl f)), (pz, .inr (13, [.ref gr, .ref mr, .ref cg])), (gr, .inl (gyI G, 16, .inl gv)), (q_6, .inr (4, [.int md2, .ref ed2, .int (nI n2)])), (ed2, .inl (gyO G, cap2, .inr (.inr (.inr (.inr g2))))), (q_3, .inr (4, [.int md2_23, .ref ed2_24, .int (nI (n1 + 1))])), (ed2_24, .inl (gyO G, cap2_25, .inr (.inr (.inr (.inr f2_26)))))] ++ T_17) := hD
        refine lv_pop hx hb dX9_init_75 rfl ?_
        refine lv_aload_n hx hb dX9_init_76 rfl (lv_at hl 1 rfl) ?_
        refine va_get (D := gD G) (ci := 14) (v := .ref q_1) (C := RX9) (T := TX9) (N := 3) hx hb hts fwX9 hown hK hP 0 rfl rfl 0 (by decide) (hts _ q1203) (fun _ h9 => h9) rfl dX9_init_77 ?_
        refine lv_iload hx hb dX9_init_80 (lv_at hl 0 rfl) ?_
        refine lv_dup2_11 hx hb dX9_init_82 rfl rfl ?_
        refine va_iald (D := gD G) (cA := gyI G) (n := 16) (f := f) hx hb hK hP 1 0 rfl rfl (vp_in_nI (n := c9) (N := 16) (by omega) (by omega)) dX9_init_83 ?_
        obtain ⟨n_33, hn_33, en_33⟩ := hf c9 (by omega)
        refine lv_toe (show f (nI c9).toNatClampNeg = nI n_33 by rw [nI_clamp (by omega)]; exact en_33) ?_
        refine lv_toe (show nI n_33 = nI n9_ from en_33.symm.trans hf9) ?_
        refine lv_iconst (v := nI 1) hx hb dX9_init_84 (by decide) ?_
        refine lv_iload_n hx hb dX9_init_85 rfl (lv_at hl 4 rfl) ?_
        refine lv_bipush (v := nI 100) hx hb dX9_init_86 (by decide) ?_
        refine lv_irem hx hb dX9_init_88 (nI_ne0 (by omega) (by omega)) ?_
        refine lv_toe (pk_rem (a := 100 * rl + 5 * c9 + v9) (d := 100) (by omega) (by omega) (by omega)) ?_
        refine lv_iconst (v := nI 5) hx hb dX9_init_89 (by decide) ?_
        refine lv_iload hx hb dX9_init_90 (lv_at hl 0 rfl) ?_
        refine lv_imul hx hb dX9_init_92 ?_
        refine lv_toe (pk_mul 5 c9) ?_
        refine lv_isub hx hb dX9_init_93 ?_
        refine lv_toe (pk_sub (a := (100 * rl + 5 * c9 + v9) % 100) (b := 5 * c9) (by omega)) ?_
        refine lv_iconst (v := nI 1) hx hb dX9_init_94 (by decide) ?_
        refine lv_isub hx hb dX9_init_95 ?_
        refine lv_toe (pk_sub (a := (100 * rl + 5 * c9 + v9) % 100 - (5 * c9)) (b := 1) (by omega)) ?_
        refine lv_toe (show nI ((100 * rl + 5 * c9 + v9) % 100 - (5 * c9) - 1) = nI (v9 - 1) from congrArg nI (by omega)) ?_
        refine lv_ishl hx hb dX9_init_96 ?_
        refine lv_iconst (v := -1) hx hb dX9_init_97 (by decide) ?_
        refine lv_ixor hx hb dX9_init_98 ?_
        refine lv_iand hx hb dX9_init_99 ?_
        refine lv_toe (clr n9_ (by omega) v9 (by omega) (by omega) hbit).1 ?_
        refine va_iast (D := gD G) (cA := gyI G) (n := 16) (f := f) hx hb hK hP hD hS 1 0 rfl rfl (vp_in_nI (n := c9) (N := 16) (by omega) (by omega)) dX9_init_100 (fun H locs hP hD hS => ?_)
        have hmu_35 : mu (upd f (nI c9).toNatClampNeg (nI (n9_ - pw v9))) < mu f := by rw [nI_clamp (by omega)]; exact mu_upd (by omega) hf9 (by omega) (by omega) (clr n9_ (by omega) v9 (by omega) (by omega) hbit).2
        have hb_36 : inB 16 16 (upd f (nI c9).toNatClampNeg (nI (n9_ - pw v9))) := hf.upd (n := n9_ - pw v9) (by omega) rfl
        generalize upd f (nI c9).toNatClampNeg (nI (n9_ - pw v9)) = f_34 at hP hD hb_36 hmu_35
        have hP : va_P (gD G) vwCl ([(wy, .inr (14, [.ref q_1, .ref q_3, .ref q_6])), (q_1, .inl (gyI G, 16, .inl f_34)), (pz, .inr (13, [.ref gr, .ref mr, .ref cg])), (gr, .inl (gyI G, 16, .inl gv)), (q_6, .inr (4, [.int md2, .ref ed2, .int (nI n2)])), (ed2, .inl (gyO G, cap2, .inr (.inr (.inr (.inr g2))))), (q_3, .inr (4, [.int md2_23, .ref ed2_24, .int (nI (n1 + 1))])), (ed2_24, .inl (gyO G, cap2_25, .inr (.inr (.inr (.inr f2_26)))))] ++ T_17) H := hP
        have hD : va_D A ([(wy, .inr (14, [.ref q_1, .ref q_3, .ref q_6])), (q_1, .inl (gyI G, 16, .inl f_34)), (pz, .inr (13, [.ref gr, .ref mr, .ref cg])), (gr, .inl (gyI G, 16, .inl gv)), (q_6, .inr (4, [.int md2, .ref ed2, .int (nI n2)])), (ed2, .inl (gyO G, cap2, .inr (.inr (.inr (.inr g2))))), (q_3, .inr (4, [.int md2_23, .ref ed2_24, .int (nI (n1 + 1))])), (ed2_24, .inl (gyO G, cap2_25, .inr (.inr (.inr (.inr f2_26)))))] ++ T_17) := hD
        refine lv_aload_n hx hb dX9_init_101 rfl (lv_at hl 1 rfl) ?_
        refine va_get (D := gD G) (ci := 14) (v := .ref q_1) (C := RX9) (T := TX9) (N := 3) hx hb hts fwX9 hown hK hP 0 rfl rfl 0 (by decide) (hts _ q1203) (fun _ h9 => h9) rfl dX9_init_102 ?_
        refine lv_iload hx hb dX9_init_105 (lv_at hl 0 rfl) ?_
        refine va_iald (D := gD G) (cA := gyI G) (n := 16) (f := f_34) hx hb hK hP 1 0 rfl rfl (vp_in_nI (n := c9) (N := 16) (by omega) (by omega)) dX9_init_107 ?_
        obtain ⟨n_37, hn_37, en_37⟩ := hb_36 c9 (by omega)
        refine lv_toe (show f_34 (nI c9).toNatClampNeg = nI n_37 by rw [nI_clamp (by omega)]; exact en_37) ?_
        refine fin_iT hP hD hS hA [] [0, 1, 2, 3, 4, 5, 6, 7] (wr := [(wy, .inr (14, [.ref q_1, .ref q_3, .ref q_6])), (q_1, .inl (gyI G, 16, .inl f_34)), (pz, .inr (13, [.ref gr, .ref mr, .ref cg])), (gr, .inl (gyI G, 16, .inl gv)), (q_6, .inr (4, [.int md2, .ref ed2, .int (nI n2)])), (ed2, .inl (gyO G, cap2, .inr (.inr (.inr (.inr g2))))), (q_3, .inr (4, [.int md2_23, .ref ed2_24, .int (nI (n1 + 1))])), (ed2_24, .inl (gyO G, cap2_25, .inr (.inr (.inr (.inr f2_26)))))]) rfl rfl (by decide) (allLt rfl) (allLt rfl) (by decide) (va_runS (As := [.int (nI n_37)]) (rest := []) ⟨hx, hb, hml, hown, hts⟩ (c_J6_bitCount_0f7a4 l G (nI n_37) H.size) (va_cwS 1 hts (gSt q1198 q277 q70 q278) rfl rfl rfl (by decide +kernel) ⟨Nat.le_of_ble_eq_true rfl, Nat.le_of_ble_eq_true rfl⟩) (preS hK hE hP hD hS hA [] rfl (by decide)) rfl rfl hl.1 rfl (lv_room (Nat.le_of_ble_eq_true rfl)) dX9_init_108 ⟨(by show 3 + 4 * t + 1 + 1 + 0 ≤ (263 : Nat); omega), (by show 22 + 1002 * t + 1 + 500 + 0 ≤ (65152 : Nat); omega)⟩) (fun r_39 u9 hw_38 H locs hP hD hS => ?_)
        have hP : va_P (gD G) vwCl ([(wy, .inr (14, [.ref q_1, .ref q_3, .ref q_6])), (q_1, .inl (gyI G, 16, .inl f_34)), (pz, .inr (13, [.ref gr, .ref mr, .ref cg])), (gr, .inl (gyI G, 16, .inl gv)), (q_6, .inr (4, [.int md2, .ref ed2, .int (nI n2)])), (ed2, .inl (gyO G, cap2, .inr (.inr (.inr (.inr g2))))), (q_3, .inr (4, [.int md2_23, .ref ed2_24, .int (nI (n1 + 1))])), (ed2_24, .inl (gyO G, cap2_25, .inr (.inr (.inr (.inr f2_26)))))] ++ T_17) H := hP
        have hD : va_D A ([(wy, .inr (14, [.ref q_1, .ref q_3, .ref q_6])), (q_1, .inl (gyI G, 16, .inl f_34)), (pz, .inr (13, [.ref gr, .ref mr, .ref cg])), (gr, .inl (gyI G, 16, .inl gv)), (q_6, .inr (4, [.int md2, .ref ed2, .int (nI n2)])), (ed2, .inl (gyO G, cap2, .inr (.inr (.inr (.inr g2))))), (q_3, .inr (4, [.int md2_23, .ref ed2_24, .int (nI (n1 + 1))])), (ed2_24, .inl (gyO G, cap2_25, .inr (.inr (.inr (.inr f2_26)))))] ++ T_17) := hD
        refine lv_iconst (v := nI 1) hx hb dX9_init_111 (by decide) ?_
        refine lv_icmp_ne (tgt := 130) hx hb dX9_init_112 (by decide) (fun c_40 => ?_) (fun c_40 => ?_)
        · skip
          refine lv_aload_n hx hb dX9_init_130 rfl (lv_at hl 1 rfl) ?_
          refine fin_iT hP hD hS hA [0, 1] [2, 3, 4, 5, 6, 7] (wr := [(pz, .inr (13, [.ref gr, .ref mr, .ref cg])), (gr, .inl (gyI G, 16, .inl gv)), (q_6, .inr (4, [.int md2, .ref ed2, .int (nI n2)])), (ed2, .inl (gyO G, cap2, .inr (.inr (.inr (.inr g2))))), (q_3, .inr (4, [.int md2_23, .ref ed2_24, .int (nI (n1 + 1))])), (ed2_24, .inl (gyO G, cap2_25, .inr (.inr (.inr (.inr f2_26)))))]) rfl rfl (by decide) (allLt rfl) (allLt rfl) (by decide) (va_runV (As := []) (rest := []) ⟨hx, hb, hml, hown, hts⟩ (c_X9_state l G wy q_1 q_3 q_6 f_34 H.size) (cwV 0 hts (gV q1199 q1200 q1201 q75 q1202) rfl rfl rfl (by decide +kernel) ⟨Nat.le_of_ble_eq_true rfl, Nat.le_of_ble_eq_true rfl⟩) (preV (q0 := 0) (ci := 14) hK hE hP hD hS hA [0, 1] rfl (by decide) rfl rfl) rfl rfl hl.1 rfl (lv_room (Nat.le_of_ble_eq_true rfl)) dX9_init_131 ⟨(by show 3 + 4 * t + 1 + 1 + 0 ≤ (263 : Nat); omega), (by show 22 + 1002 * t + 1 + 500 + 0 ≤ (65152 : Nat); omega)⟩) (fun r_42 u9 hw_41 H locs hP hD hS => ?_)
          have hP : va_P (gD G) vwCl ([(pz, .inr (13, [.ref gr, .ref mr, .ref cg])), (gr, .inl (gyI G, 16, .inl gv)), (q_6, .inr (4, [.int md2, .ref ed2, .int (nI n2)])), (ed2, .inl (gyO G, cap2, .inr (.inr (.inr (.inr g2))))), (q_3, .inr (4, [.int md2_23, .ref ed2_24, .int (nI (n1 + 1))])), (ed2_24, .inl (gyO G, cap2_25, .inr (.inr (.inr (.inr f2_26))))), (wy, .inr (14, [.ref q_1, .ref q_3, .ref q_6])), (q_1, .inl (gyI G, 16, .inl f_34))] ++ T_17) H := hP
          have hD : va_D A ([(pz, .inr (13, [.ref gr, .ref mr, .ref cg])), (gr, .inl (gyI G, 16, .inl gv)), (q_6, .inr (4, [.int md2, .ref ed2, .int (nI n2)])), (ed2, .inl (gyO G, cap2, .inr (.inr (.inr (.inr g2))))), (q_3, .inr (4, [.int md2_23, .ref ed2_24, .int (nI (n1 + 1))])), (ed2_24, .inl (gyO G, cap2_25, .inr (.inr (.inr (.inr f2_26))))), (wy, .inr (14, [.ref q_1, .ref q_3, .ref q_6])), (q_1, .inl (gyI G, 16, .inl f_34))] ++ T_17) := hD
          refine lv_bipush (v := nI 98) hx hb dX9_init_134 (by decide) ?_
          refine lv_icmp_ne (tgt := 143) hx hb dX9_init_136 (by decide) (fun c_43 => ?_) (fun c_43 => ?_)
          · skip
            refine lv_aload_n hx hb dX9_init_143 rfl (lv_at hl 1 rfl) ?_
            refine lv_aload_n hx hb dX9_init_144 rfl (lv_at hl 2 rfl) ?_
            refine lv_iload_n hx hb dX9_init_145 rfl (lv_at hl 3 rfl) ?_
            refine fin_iT hP hD hS hA [6, 7, 0, 1] [2, 3, 4, 5] (wr := [(q_6, .inr (4, [.int md2, .ref ed2, .int (nI n2)])), (ed2, .inl (gyO G, cap2, .inr (.inr (.inr (.inr g2))))), (q_3, .inr (4, [.int md2_23, .ref ed2_24, .int (nI (n1 + 1))])), (ed2_24, .inl (gyO G, cap2_25, .inr (.inr (.inr (.inr f2_26)))))]) rfl rfl (by decide) (allLt rfl) (allLt rfl) (by decide) (va_runV (As := [.ref pz, .int (nI hi)]) (rest := []) ⟨hx, hb, hml, hown, hts⟩ (c_X9_next l G wy q_1 q_3 q_6 f_34 pz gr mr cg gv hi hb_36 (by omega) H.size) (cwV 2 hts (gV q1072 q1074 q38 q75 q1075) rfl rfl rfl (by decide +kernel) ⟨Nat.le_of_ble_eq_true rfl, Nat.le_of_ble_eq_true rfl⟩) (preV (q0 := 6) (ci := 14) hK hE hP hD hS hA [6, 7, 0, 1] rfl (by decide) rfl rfl) rfl rfl hl.1 rfl (lv_room (Nat.le_of_ble_eq_true rfl)) dX9_init_146 ⟨(by show 3 + 4 * t + 1 + 1 + 0 ≤ (263 : Nat); omega), (by show 22 + 1002 * t + 1 + 500 + 0 ≤ (65152 : Nat); omega)⟩) (fun r_49 u9 hw_48 H locs hP hD hS => ?_)
            obtain ⟨rl_44, c9_45, v9_46, n9__47⟩ := u9
            have hcs_50 := hw_48
            have hcs_50 : r_49 = -1 ∨ (r_49 = nI (100 * rl_44 + 5 * c9_45 + v9_46) ∧ rl_44 < 4 ∧ c9_45 < 16 ∧ 1 ≤ v9_46 ∧ v9_46 ≤ 4 ∧ n9__47 < 16 ∧ f_34 c9_45 = nI n9__47 ∧ n9__47 / pw v9_46 % 2 = 1) := hcs_50
            have hP : va_P (gD G) vwCl ([(q_6, .inr (4, [.int md2, .ref ed2, .int (nI n2)])), (ed2, .inl (gyO G, cap2, .inr (.inr (.inr (.inr g2))))), (q_3, .inr (4, [.int md2_23, .ref ed2_24, .int (nI (n1 + 1))])), (ed2_24, .inl (gyO G, cap2_25, .inr (.inr (.inr (.inr f2_26))))), (wy, .inr (14, [.ref q_1, .ref q_3, .ref q_6])), (q_1, .inl (gyI G, 16, .inl f_34)), (pz, .inr (13, [.ref gr, .ref mr, .ref cg])), (gr, .inl (gyI G, 16, .inl gv))] ++ T_17) H := hP
            have hD : va_D A ([(q_6, .inr (4, [.int md2, .ref ed2, .int (nI n2)])), (ed2, .inl (gyO G, cap2, .inr (.inr (.inr (.inr g2))))), (q_3, .inr (4, [.int md2_23, .ref ed2_24, .int (nI (n1 + 1))])), (ed2_24, .inl (gyO G, cap2_25, .inr (.inr (.inr (.inr f2_26))))), (wy, .inr (14, [.ref q_1, .ref q_3, .ref q_6])), (q_1, .inl (gyI G, 16, .inl f_34)), (pz, .inr (13, [.ref gr, .ref mr, .ref cg])), (gr, .inl (gyI G, 16, .inl gv))] ++ T_17) := hD
            rcases hcs_50 with rfl | ⟨rfl, hrl_z_51, hc9_z_51, hv1_z_51, hv4_z_51, hn9_z_51, hf9_z_51, hbit_z_51⟩
            · skip
              refine lv_istore_n (lv' := [(3, .int (-1)), (4, .int (nI c9)), (0, .ref wy), (1, .ref pz), (2, .int (nI hi))]) hx hb dX9_init_149 rfl hl (by decide) rfl (fun ls hl => ?_)
              refine lv_goto (tgt := 50) hx hb dX9_init_150 (by decide) ?_
              refine lv_iload_n hx hb dX9_init_50 rfl (lv_at hl 0 rfl) ?_
              refine lv_if_lt (tgt := 153) hx hb dX9_init_51 (by decide) (fun c_52 => ?_) (fun c_52 => ?_)
              · skip
                have hP9 := hP.split.1.sub (ws' := [(wy, .inr (14, [.ref q_1, .ref q_3, .ref q_6])), (q_1, .inl (gyI G, 16, .inl f_34)), (pz, .inr (13, [.ref gr, .ref mr, .ref cg])), (gr, .inl (gyI G, 16, .inl gv))]) [4, 5, 6, 7] rfl
                have hD9 := hD.split.1.sub (ws' := [(wy, .inr (14, [.ref q_1, .ref q_3, .ref q_6])), (q_1, .inl (gyI G, 16, .inl f_34)), (pz, .inr (13, [.ref gr, .ref mr, .ref cg])), (gr, .inl (gyI G, 16, .inl gv))]) [4, 5, 6, 7] (by decide) rfl
                refine W.widen (k := 263) (n := 65152) (by show 3 + 4 * t + 1 + 1 ≤ 263; omega) (by show 22 + 1002 * t + 1 + 500 ≤ 65152; omega) ?_
                subst hQ
                exact W.vret hx hb hr (fun t ht hW => ⟨⟨(q_1, q_3, q_6, f_34), rfl, trivial, by rw [ht]; exact hP9, hD9⟩, hS.F ht⟩) hS.2.2 dX9_init_153
              · skip
                exact absurd (by decide) c_52
            · skip
              refine lv_istore_n (lv' := [(3, .int (nI (100 * rl_44 + 5 * c9_45 + v9_46))), (4, .int (nI c9)), (0, .ref wy), (1, .ref pz), (2, .int (nI hi))]) hx hb dX9_init_149 rfl hl (by decide) rfl (fun ls hl => ?_)
              refine lv_goto (tgt := 50) hx hb dX9_init_150 (by decide) ?_
              refine W.widen (k := 3 + 4 * (t + 1)) (n := 22 + 1002 * (t + 1)) (by show 3 + 4 * t + 1 + 1 ≤ 3 + 4 * (t + 1); omega) (by show 22 + 1002 * t + 1 + 500 ≤ 22 + 1002 * (t + 1); omega) ?_
              exact ih_50_1 rl_44 c9_45 v9_46 n9__47 f_34 (t + 1) T_17 md2_23 ed2_24 (n1 + 1) cap2_25 f2_26 md2 ed2 n2 cap2 g2 (by omega) (by omega) (by omega) (by omega) (by omega) hb_36 hf9_z_51 hbit_z_51 (by omega) hti_19 (by omega) (by omega) (by omega) (by omega) hf2_32 (by omega) (by omega) (by omega) (by omega) hb_22 (by omega) _ _ (subPT hP [4, 5, 6, 7, 2, 3, 0, 1] rfl) (subDT hD [4, 5, 6, 7, 2, 3, 0, 1] (by decide) rfl) hS ls (lv_sub hl [2, 3, 4, 0] rfl)
          · skip
            refine lv_iconst (v := -1) hx hb dX9_init_139 (by decide) ?_
            refine lv_goto (tgt := 149) hx hb dX9_init_140 (by decide) ?_
            refine lv_istore_n (lv' := [(3, .int (-1)), (4, .int (nI c9)), (0, .ref wy), (1, .ref pz), (2, .int (nI hi))]) hx hb dX9_init_149 rfl hl (by decide) rfl (fun ls hl => ?_)
            refine lv_goto (tgt := 50) hx hb dX9_init_150 (by decide) ?_
            refine lv_iload_n hx hb dX9_init_50 rfl (lv_at hl 0 rfl) ?_
            refine lv_if_lt (tgt := 153) hx hb dX9_init_51 (by decide) (fun c_53 => ?_) (fun c_53 => ?_)
            · skip
              have hP9 := hP.split.1.sub (ws' := [(wy, .inr (14, [.ref q_1, .ref q_3, .ref q_6])), (q_1, .inl (gyI G, 16, .inl f_34)), (pz, .inr (13, [.ref gr, .ref mr, .ref cg])), (gr, .inl (gyI G, 16, .inl gv))]) [6, 7, 0, 1] rfl
              have hD9 := hD.split.1.sub (ws' := [(wy, .inr (14, [.ref q_1, .ref q_3, .ref q_6])), (q_1, .inl (gyI G, 16, .inl f_34)), (pz, .inr (13, [.ref gr, .ref mr, .ref cg])), (gr, .inl (gyI G, 16, .inl gv))]) [6, 7, 0, 1] (by decide) rfl
              refine W.widen (k := 263) (n := 65152) (by show 3 + 4 * t + 1 + 1 ≤ 263; omega) (by show 22 + 1002 * t + 1 + 500 ≤ 65152; omega) ?_
              subst hQ
              exact W.vret hx hb hr (fun t ht hW => ⟨⟨(q_1, q_3, q_6, f_34), rfl, trivial, by rw [ht]; exact hP9, hD9⟩, hS.F ht⟩) hS.2.2 dX9_init_153
            · skip
              exact absurd (by decide) c_53
        · skip
          refine lv_aload_n hx hb dX9_init_115 rfl (lv_at hl 1 rfl) ?_
          refine va_get (D := gD G) (ci := 14) (v := .ref q_6) (C := RX9) (T := TX9) (N := 3) hx hb hts fwX9 hown hK hP 0 rfl rfl 2 (by decide) (hts _ q1207) (fun _ h9 => h9) rfl dX9_init_116 ?_
          refine lv_iload hx hb dX9_init_119 (lv_at hl 0 rfl) ?_
          refine fin_rT hP hD hS hA [] [0, 1, 2, 3, 4, 5, 6, 7] (wr := [(wy, .inr (14, [.ref q_1, .ref q_3, .ref q_6])), (q_1, .inl (gyI G, 16, .inl f_34)), (pz, .inr (13, [.ref gr, .ref mr, .ref cg])), (gr, .inl (gyI G, 16, .inl gv)), (q_6, .inr (4, [.int md2, .ref ed2, .int (nI n2)])), (ed2, .inl (gyO G, cap2, .inr (.inr (.inr (.inr g2))))), (q_3, .inr (4, [.int md2_23, .ref ed2_24, .int (nI (n1 + 1))])), (ed2_24, .inl (gyO G, cap2_25, .inr (.inr (.inr (.inr f2_26)))))]) rfl rfl (by decide) (allLt rfl) (allLt rfl) (by decide) (va_runS (As := [.int (nI c9)]) (rest := [.ref q_6]) ⟨hx, hb, hml, hown, hts⟩ (c_J6_valueOf_2dffe l G c9 (by omega) H.size) (va_cwS 1 hts (gSt q1176 q1177 q70 q1178) rfl rfl rfl (by decide +kernel) ⟨Nat.le_of_ble_eq_true rfl, Nat.le_of_ble_eq_true rfl⟩) (preS hK hE hP hD hS hA [] rfl (by decide)) rfl rfl hl.1 rfl (lv_room (Nat.le_of_ble_eq_true rfl)) dX9_init_121 ⟨(by show 3 + 4 * t + 1 + 1 + 1 ≤ (263 : Nat); omega), (by show 22 + 1002 * t + 1 + 500 + 1 ≤ (65152 : Nat); omega)⟩) (fun u9 r_56 hw_55 H locs hP hD hS => ?_)
          obtain ⟨T2_54, rfl⟩ : ∃ z, z = u9 := ⟨_, rfl⟩
          obtain ⟨T_57, eT_58⟩ : ∃ z : va_W, z = T2_54 ++ T_17 := ⟨_, rfl⟩
          have hP : va_P (gD G) vwCl ([(wy, .inr (14, [.ref q_1, .ref q_3, .ref q_6])), (q_1, .inl (gyI G, 16, .inl f_34)), (pz, .inr (13, [.ref gr, .ref mr, .ref cg])), (gr, .inl (gyI G, 16, .inl gv)), (q_6, .inr (4, [.int md2, .ref ed2, .int (nI n2)])), (ed2, .inl (gyO G, cap2, .inr (.inr (.inr (.inr g2))))), (q_3, .inr (4, [.int md2_23, .ref ed2_24, .int (nI (n1 + 1))])), (ed2_24, .inl (gyO G, cap2_25, .inr (.inr (.inr (.inr f2_26)))))] ++ T_57) H := by rw [eT_58, ← List.append_assoc]; exact hP
          have hD : va_D A ([(wy, .inr (14, [.ref q_1, .ref q_3, .ref q_6])), (q_1, .inl (gyI G, 16, .inl f_34)), (pz, .inr (13, [.ref gr, .ref mr, .ref cg])), (gr, .inl (gyI G, 16, .inl gv)), (q_6, .inr (4, [.int md2, .ref ed2, .int (nI n2)])), (ed2, .inl (gyO G, cap2, .inr (.inr (.inr (.inr g2))))), (q_3, .inr (4, [.int md2_23, .ref ed2_24, .int (nI (n1 + 1))])), (ed2_24, .inl (gyO G, cap2_25, .inr (.inr (.inr (.inr f2_26)))))] ++ T_57) := by rw [eT_58, ← List.append_assoc]; exact hD
          have hti_59 : tI T_57 := by rw [eT_58]; exact tI.app hti_19 hw_55
          have hok_60 : okI G T_57 r_56 := by rw [eT_58]; exact okI.new hw_55
          have hb_61 : obR (okI G T_57) g2 := by rw [eT_58]; exact obR.old hw_55 hb_22
          have hb_62 : obR (okI G T_57) f2_26 := by rw [eT_58]; exact obR.old hw_55 hf2_32
          refine fin_i5T hP hD hS hA [4, 5] [0, 1, 2, 3, 6, 7] (wr := [(wy, .inr (14, [.ref q_1, .ref q_3, .ref q_6])), (q_1, .inl (gyI G, 16, .inl f_34)), (pz, .inr (13, [.ref gr, .ref mr, .ref cg])), (gr, .inl (gyI G, 16, .inl gv)), (q_3, .inr (4, [.int md2_23, .ref ed2_24, .int (nI (n1 + 1))])), (ed2_24, .inl (gyO G, cap2_25, .inr (.inr (.inr (.inr f2_26)))))]) rfl rfl (by decide) (allLt rfl) (allLt rfl) (by decide) (va_runF (As := [.ref r_56]) (rest := []) (hK.1 4 _ rfl).2 ⟨hx, hb, hml, hown, hts⟩ (c_add_more l (gSet G (okI G T_57)) q_6 md2 ed2 n2 cap2 g2 r_56 hok_60 (by omega) (by omega) hb_61 (by omega) (by omega) H.size) (va_cwF 1 hts (gF q1197 q991 q469 q48 q471) rfl rfl rfl (hE.1.2.1 _ FW1) (by decide +kernel) ⟨Nat.le_of_ble_eq_true rfl, Nat.le_of_ble_eq_true rfl⟩) (preVG (okI_ob hK hE hP hD hS hA hti_59 [4, 5] rfl) (q0 := 4) (ci := 4) hK hE hP hD hS hA [4, 5] rfl (by decide) rfl rfl) rfl rfl hl.1 rfl (lv_room (Nat.le_of_ble_eq_true rfl)) dX9_init_124 ⟨(by show 3 + 4 * t + 1 + 1 + 1 + 1 ≤ (263 : Nat); omega), (by show 22 + 1002 * t + 1 + 500 + 1 + 500 ≤ (65152 : Nat); omega)⟩) (fun r_68 u9 hw_67 H locs hP hD hS => ?_)
          obtain ⟨md2_63, ed2_64, cap2_65, f2_66⟩ := u9
          obtain ⟨hc1_69, hc2_70, hc3_71, hf2_72⟩ := hw_67
          have hc1_69 : 10 ≤ cap2_65 := hc1_69
          have hc2_70 : n2 + 1 ≤ cap2_65 := hc2_70
          have hc3_71 : cap2_65 ≤ 2 * (n2 + 1) + 10 := hc3_71
          have hf2_72 : obR (gOB (gSet G (okI G T_57))) f2_66 := hf2_72
          have hP : va_P (gD G) vwCl ([(wy, .inr (14, [.ref q_1, .ref q_3, .ref q_6])), (q_1, .inl (gyI G, 16, .inl f_34)), (pz, .inr (13, [.ref gr, .ref mr, .ref cg])), (gr, .inl (gyI G, 16, .inl gv)), (q_3, .inr (4, [.int md2_23, .ref ed2_24, .int (nI (n1 + 1))])), (ed2_24, .inl (gyO G, cap2_25, .inr (.inr (.inr (.inr f2_26))))), (q_6, .inr (4, [.int md2_63, .ref ed2_64, .int (nI (n2 + 1))])), (ed2_64, .inl (gyO G, cap2_65, .inr (.inr (.inr (.inr f2_66)))))] ++ T_57) H := hP
          have hD : va_D A ([(wy, .inr (14, [.ref q_1, .ref q_3, .ref q_6])), (q_1, .inl (gyI G, 16, .inl f_34)), (pz, .inr (13, [.ref gr, .ref mr, .ref cg])), (gr, .inl (gyI G, 16, .inl gv)), (q_3, .inr (4, [.int md2_23, .ref ed2_24, .int (nI (n1 + 1))])), (ed2_24, .inl (gyO G, cap2_25, .inr (.inr (.inr (.inr f2_26))))), (q_6, .inr (4, [.int md2_63, .ref ed2_64, .int (nI (n2 + 1))])), (ed2_64, .inl (gyO G, cap2_65, .inr (.inr (.inr (.inr f2_66)))))] ++ T_57) := hD
          refine lv_pop hx hb dX9_init_129 rfl ?_
          refine lv_aload_n hx hb dX9_init_130 rfl (lv_at hl 1 rfl) ?_
          refine fin_iT hP hD hS hA [0, 1] [2, 3, 4, 5, 6, 7] (wr := [(pz, .inr (13, [.ref gr, .ref mr, .ref cg])), (gr, .inl (gyI G, 16, .inl gv)), (q_3, .inr (4, [.int md2_23, .ref ed2_24, .int (nI (n1 + 1))])), (ed2_24, .inl (gyO G, cap2_25, .inr (.inr (.inr (.inr f2_26))))), (q_6, .inr (4, [.int md2_63, .ref ed2_64, .int (nI (n2 + 1))])), (ed2_64, .inl (gyO G, cap2_65, .inr (.inr (.inr (.inr f2_66)))))]) rfl rfl (by decide) (allLt rfl) (allLt rfl) (by decide) (va_runV (As := []) (rest := []) ⟨hx, hb, hml, hown, hts⟩ (c_X9_state l G wy q_1 q_3 q_6 f_34 H.size) (cwV 0 hts (gV q1199 q1200 q1201 q75 q1202) rfl rfl rfl (by decide +kernel) ⟨Nat.le_of_ble_eq_true rfl, Nat.le_of_ble_eq_true rfl⟩) (preV (q0 := 0) (ci := 14) hK hE hP hD hS hA [0, 1] rfl (by decide) rfl rfl) rfl rfl hl.1 rfl (lv_room (Nat.le_of_ble_eq_true rfl)) dX9_init_131 ⟨(by show 3 + 4 * t + 1 + 1 + 1 + 1 + 0 ≤ (263 : Nat); omega), (by show 22 + 1002 * t + 1 + 500 + 1 + 500 + 0 ≤ (65152 : Nat); omega)⟩) (fun r_74 u9 hw_73 H locs hP hD hS => ?_)
          have hP : va_P (gD G) vwCl ([(pz, .inr (13, [.ref gr, .ref mr, .ref cg])), (gr, .inl (gyI G, 16, .inl gv)), (q_3, .inr (4, [.int md2_23, .ref ed2_24, .int (nI (n1 + 1))])), (ed2_24, .inl (gyO G, cap2_25, .inr (.inr (.inr (.inr f2_26))))), (q_6, .inr (4, [.int md2_63, .ref ed2_64, .int (nI (n2 + 1))])), (ed2_64, .inl (gyO G, cap2_65, .inr (.inr (.inr (.inr f2_66))))), (wy, .inr (14, [.ref q_1, .ref q_3, .ref q_6])), (q_1, .inl (gyI G, 16, .inl f_34))] ++ T_57) H := hP
          have hD : va_D A ([(pz, .inr (13, [.ref gr, .ref mr, .ref cg])), (gr, .inl (gyI G, 16, .inl gv)), (q_3, .inr (4, [.int md2_23, .ref ed2_24, .int (nI (n1 + 1))])), (ed2_24, .inl (gyO G, cap2_25, .inr (.inr (.inr (.inr f2_26))))), (q_6, .inr (4, [.int md2_63, .ref ed2_64, .int (nI (n2 + 1))])), (ed2_64, .inl (gyO G, cap2_65, .inr (.inr (.inr (.inr f2_66))))), (wy, .inr (14, [.ref q_1, .ref q_3, .ref q_6])), (q_1, .inl (gyI G, 16, .inl f_34))] ++ T_57) := hD
          refine lv_bipush (v := nI 98) hx hb dX9_init_134 (by decide) ?_
          refine lv_icmp_ne (tgt := 143) hx hb dX9_init_136 (by decide) (fun c_75 => ?_) (fun c_75 => ?_)
          · skip
            refine lv_aload_n hx hb dX9_init_143 rfl (lv_at hl 1 rfl) ?_
            refine lv_aload_n hx hb dX9_init_144 rfl (lv_at hl 2 rfl) ?_
            refine lv_iload_n hx hb dX9_init_145 rfl (lv_at hl 3 rfl) ?_
            refine fin_iT hP hD hS hA [6, 7, 0, 1] [2, 3, 4, 5] (wr := [(q_3, .inr (4, [.int md2_23, .ref ed2_24, .int (nI (n1 + 1))])), (ed2_24, .inl (gyO G, cap2_25, .inr (.inr (.inr (.inr f2_26))))), (q_6, .inr (4, [.int md2_63, .ref ed2_64, .int (nI (n2 + 1))])), (ed2_64, .inl (gyO G, cap2_65, .inr (.inr (.inr (.inr f2_66)))))]) rfl rfl (by decide) (allLt rfl) (allLt rfl) (by decide) (va_runV (As := [.ref pz, .int (nI hi)]) (rest := []) ⟨hx, hb, hml, hown, hts⟩ (c_X9_next l G wy q_1 q_3 q_6 f_34 pz gr mr cg gv hi hb_36 (by omega) H.size) (cwV 2 hts (gV q1072 q1074 q38 q75 q1075) rfl rfl rfl (by decide +kernel) ⟨Nat.le_of_ble_eq_true rfl, Nat.le_of_ble_eq_true rfl⟩) (preV (q0 := 6) (ci := 14) hK hE hP hD hS hA [6, 7, 0, 1] rfl (by decide) rfl rfl) rfl rfl hl.1 rfl (lv_room (Nat.le_of_ble_eq_true rfl)) dX9_init_146 ⟨(by show 3 + 4 * t + 1 + 1 + 1 + 1 + 0 ≤ (263 : Nat); omega), (by show 22 + 1002 * t + 1 + 500 + 1 + 500 + 0 ≤ (65152 : Nat); omega)⟩) (fun r_81 u9 hw_80 H locs hP hD hS => ?_)
            obtain ⟨rl_76, c9_77, v9_78, n9__79⟩ := u9
            have hcs_82 := hw_80
            have hcs_82 : r_81 = -1 ∨ (r_81 = nI (100 * rl_76 + 5 * c9_77 + v9_78) ∧ rl_76 < 4 ∧ c9_77 < 16 ∧ 1 ≤ v9_78 ∧ v9_78 ≤ 4 ∧ n9__79 < 16 ∧ f_34 c9_77 = nI n9__79 ∧ n9__79 / pw v9_78 % 2 = 1) := hcs_82
            have hP : va_P (gD G) vwCl ([(q_3, .inr (4, [.int md2_23, .ref ed2_24, .int (nI (n1 + 1))])), (ed2_24, .inl (gyO G, cap2_25, .inr (.inr (.inr (.inr f2_26))))), (q_6, .inr (4, [.int md2_63, .ref ed2_64, .int (nI (n2 + 1))])), (ed2_64, .inl (gyO G, cap2_65, .inr (.inr (.inr (.inr f2_66))))), (wy, .inr (14, [.ref q_1, .ref q_3, .ref q_6])), (q_1, .inl (gyI G, 16, .inl f_34)), (pz, .inr (13, [.ref gr, .ref mr, .ref cg])), (gr, .inl (gyI G, 16, .inl gv))] ++ T_57) H := hP
            have hD : va_D A ([(q_3, .inr (4, [.int md2_23, .ref ed2_24, .int (nI (n1 + 1))])), (ed2_24, .inl (gyO G, cap2_25, .inr (.inr (.inr (.inr f2_26))))), (q_6, .inr (4, [.int md2_63, .ref ed2_64, .int (nI (n2 + 1))])), (ed2_64, .inl (gyO G, cap2_65, .inr (.inr (.inr (.inr f2_66))))), (wy, .inr (14, [.ref q_1, .ref q_3, .ref q_6])), (q_1, .inl (gyI G, 16, .inl f_34)), (pz, .inr (13, [.ref gr, .ref mr, .ref cg])), (gr, .inl (gyI G, 16, .inl gv))] ++ T_57) := hD
            rcases hcs_82 with rfl | ⟨rfl, hrl_z_83, hc9_z_83, hv1_z_83, hv4_z_83, hn9_z_83, hf9_z_83, hbit_z_83⟩
            · skip
              refine lv_istore_n (lv' := [(3, .int (-1)), (4, .int (nI c9)), (0, .ref wy), (1, .ref pz), (2, .int (nI hi))]) hx hb dX9_init_149 rfl hl (by decide) rfl (fun ls hl => ?_)
              refine lv_goto (tgt := 50) hx hb dX9_init_150 (by decide) ?_
              refine lv_iload_n hx hb dX9_init_50 rfl (lv_at hl 0 rfl) ?_
              refine lv_if_lt (tgt := 153) hx hb dX9_init_51 (by decide) (fun c_84 => ?_) (fun c_84 => ?_)
              · skip
                have hP9 := hP.split.1.sub (ws' := [(wy, .inr (14, [.ref q_1, .ref q_3, .ref q_6])), (q_1, .inl (gyI G, 16, .inl f_34)), (pz, .inr (13, [.ref gr, .ref mr, .ref cg])), (gr, .inl (gyI G, 16, .inl gv))]) [4, 5, 6, 7] rfl
                have hD9 := hD.split.1.sub (ws' := [(wy, .inr (14, [.ref q_1, .ref q_3, .ref q_6])), (q_1, .inl (gyI G, 16, .inl f_34)), (pz, .inr (13, [.ref gr, .ref mr, .ref cg])), (gr, .inl (gyI G, 16, .inl gv))]) [4, 5, 6, 7] (by decide) rfl
                refine W.widen (k := 263) (n := 65152) (by show 3 + 4 * t + 1 + 1 + 1 + 1 ≤ 263; omega) (by show 22 + 1002 * t + 1 + 500 + 1 + 500 ≤ 65152; omega) ?_
                subst hQ
                exact W.vret hx hb hr (fun t ht hW => ⟨⟨(q_1, q_3, q_6, f_34), rfl, trivial, by rw [ht]; exact hP9, hD9⟩, hS.F ht⟩) hS.2.2 dX9_init_153
              · skip
                exact absurd (by decide) c_84
            · skip
              refine lv_istore_n (lv' := [(3, .int (nI (100 * rl_76 + 5 * c9_77 + v9_78))), (4, .int (nI c9)), (0, .ref wy), (1, .ref pz), (2, .int (nI hi))]) hx hb dX9_init_149 rfl hl (by decide) rfl (fun ls hl => ?_)
              refine lv_goto (tgt := 50) hx hb dX9_init_150 (by decide) ?_
              refine W.widen (k := 3 + 4 * (t + 1)) (n := 22 + 1002 * (t + 1)) (by show 3 + 4 * t + 1 + 1 + 1 + 1 ≤ 3 + 4 * (t + 1); omega) (by show 22 + 1002 * t + 1 + 500 + 1 + 500 ≤ 22 + 1002 * (t + 1); omega) ?_
              exact ih_50_1 rl_76 c9_77 v9_78 n9__79 f_34 (t + 1) T_57 md2_23 ed2_24 (n1 + 1) cap2_25 f2_26 md2_63 ed2_64 (n2 + 1) cap2_65 f2_66 (by omega) (by omega) (by omega) (by omega) (by omega) hb_36 hf9_z_83 hbit_z_83 (by omega) hti_59 (by omega) (by omega) (by omega) (by omega) hb_62 (by omega) (by omega) (by omega) (by omega) hf2_72 (by omega) _ _ (subPT hP [4, 5, 6, 7, 0, 1, 2, 3] rfl) (subDT hD [4, 5, 6, 7, 0, 1, 2, 3] (by decide) rfl) hS ls (lv_sub hl [2, 3, 4, 0] rfl)
          · skip
            refine lv_iconst (v := -1) hx hb dX9_init_139 (by decide) ?_
            refine lv_goto (tgt := 149) hx hb dX9_init_140 (by decide) ?_
            refine lv_istore_n (lv' := [(3, .int (-1)), (4, .int (nI c9)), (0, .ref wy), (1, .ref pz), (2, .int (nI hi))]) hx hb dX9_init_149 rfl hl (by decide) rfl (fun ls hl => ?_)
            refine lv_goto (tgt := 50) hx hb dX9_init_150 (by decide) ?_
            refine lv_iload_n hx hb dX9_init_50 rfl (lv_at hl 0 rfl) ?_
            refine lv_if_lt (tgt := 153) hx hb dX9_init_51 (by decide) (fun c_85 => ?_) (fun c_85 => ?_)
            · skip
              have hP9 := hP.split.1.sub (ws' := [(wy, .inr (14, [.ref q_1, .ref q_3, .ref q_6])), (q_1, .inl (gyI G, 16, .inl f_34)), (pz, .inr (13, [.ref gr, .ref mr, .ref cg])), (gr, .inl (gyI G, 16, .inl gv))]) [6, 7, 0, 1] rfl
              have hD9 := hD.split.1.sub (ws' := [(wy, .inr (14, [.ref q_1, .ref q_3, .ref q_6])), (q_1, .inl (gyI G, 16, .inl f_34)), (pz, .inr (13, [.ref gr, .ref mr, .ref cg])), (gr, .inl (gyI G, 16, .inl gv))]) [6, 7, 0, 1] (by decide) rfl
              refine W.widen (k := 263) (n := 65152) (by show 3 + 4 * t + 1 + 1 + 1 + 1 ≤ 263; omega) (by show 22 + 1002 * t + 1 + 500 + 1 + 500 ≤ 65152; omega) ?_
              subst hQ
              exact W.vret hx hb hr (fun t ht hW => ⟨⟨(q_1, q_3, q_6, f_34), rfl, trivial, by rw [ht]; exact hP9, hD9⟩, hS.F ht⟩) hS.2.2 dX9_init_153
            · skip
              exact absurd (by decide) c_85
  have cut_50_2 : ∀ (n9 : Nat) (rl : Nat) (c9 : Nat) (v9 : Nat) (n9_ : Nat) (f : Nat → Int32) (t : Nat) (T : va_W) (md1 : Int32) (ed1 : Nat) (n1 : Nat) (cap1 : Nat) (g1 : Nat → Option Nat) (hrl : rl < 4) (hc9 : c9 < 16) (hv1 : 1 ≤ v9) (hv4 : v9 ≤ 4) (hn9 : n9_ < 16) (hf : inB 16 16 f) (hf9 : f c9 = nI n9_) (hbit : n9_ / pw v9 % 2 = 1) (hmu : t + mu f ≤ 64) (hti : tI T) (ha1 : 10 ≤ cap1) (hb1 : n1 ≤ cap1) (hc1 : cap1 ≤ 2 * n1 + 10) (hd1 : n1 ≤ t) (hg1 : obR (okI G T) g1) (hm9 : mu f < n9) (H : Heap) (locs : List Loc), va_P (gD G) vwCl ([(wy, .inr (14, [.ref q_1, .ref q_3, .ref q_6])), (q_1, .inl (gyI G, 16, .inl f)), (pz, .inr (13, [.ref gr, .ref mr, .ref cg])), (gr, .inl (gyI G, 16, .inl gv)), (q_3, .inr (4, [.int md1, .ref ed1, .int (nI n1)])), (ed1, .inl (gyO G, cap1, .inr (.inr (.inr (.inr g1))))), (q_6, .inr (4, [.int (nI 0), .ref (gE G), .int (nI 0)]))] ++ T) H → va_D A ([(wy, .inr (14, [.ref q_1, .ref q_3, .ref q_6])), (q_1, .inl (gyI G, 16, .inl f)), (pz, .inr (13, [.ref gr, .ref mr, .ref cg])), (gr, .inl (gyI G, 16, .inl gv)), (q_3, .inr (4, [.int md1, .ref ed1, .int (nI n1)])), (ed1, .inl (gyO G, cap1, .inr (.inr (.inr (.inr g1))))), (q_6, .inr (4, [.int (nI 0), .ref (gE G), .int (nI 0)]))] ++ T) → va_S A s.heap H locs → ∀ (ls : Array Slot), lv_has ls 5 [(0, .ref wy), (1, .ref pz), (2, .int (nI hi)), (3, .int (nI (100 * rl + 5 * c9 + v9)))] → W p l e ({ frames := 7, cells := 263, slots := 65152, locals := 191 } : Room) s m ([.ref wy, .ref pz, .int (nI hi)] : List Value).toArray below meth c H locs (3 + 4 * t) (22 + 1002 * t) Q (F0 m 50 ls []) := by
    intro n9
    induction n9 with
    | zero =>
      intro rl c9 v9 n9_ f t T md1 ed1 n1 cap1 g1 hrl hc9 hv1 hv4 hn9 hf hf9 hbit hmu hti ha1 hb1 hc1 hd1 hg1 hm9
      exact absurd hm9 (Nat.not_lt_zero _)
    | succ n9 ih_50_2 =>
      intro rl c9 v9 n9_ f t T md1 ed1 n1 cap1 g1 hrl hc9 hv1 hv4 hn9 hf hf9 hbit hmu hti ha1 hb1 hc1 hd1 hg1 hm9 H locs hP hD hS ls hl
      refine lv_iload_n hx hb dX9_init_50 rfl (lv_at hl 3 rfl) ?_
      refine lv_if_lt (tgt := 153) hx hb dX9_init_51 (by decide) (fun c_86 => ?_) (fun c_86 => ?_)
      · skip
        have c_86 : (100 * rl + 5 * c9 + v9) < 0 := (nI_ltI (a := 100 * rl + 5 * c9 + v9) (b := 0) (by omega) (by omega)).mp c_86
        exfalso; omega
      · skip
        have c_86 : ¬ (100 * rl + 5 * c9 + v9) < 0 := fun z => c_86 ((nI_ltI (a := 100 * rl + 5 * c9 + v9) (b := 0) (by omega) (by omega)).mpr z)
        refine lv_iload_n hx hb dX9_init_54 rfl (lv_at hl 3 rfl) ?_
        refine lv_bipush (v := nI 100) hx hb dX9_init_55 (by decide) ?_
        refine lv_irem hx hb dX9_init_57 (nI_ne0 (by omega) (by omega)) ?_
        refine lv_toe (pk_rem (a := 100 * rl + 5 * c9 + v9) (d := 100) (by omega) (by omega) (by omega)) ?_
        refine lv_iconst (v := nI 5) hx hb dX9_init_58 (by decide) ?_
        refine lv_idiv hx hb dX9_init_59 (nI_ne0 (by omega) (by omega)) ?_
        refine lv_toe (pk_div (a := (100 * rl + 5 * c9 + v9) % 100) (d := 5) (by omega) (by omega) (by omega)) ?_
        refine lv_toe (show nI (((100 * rl + 5 * c9 + v9) % 100) / 5) = nI (c9) from congrArg nI (by omega)) ?_
        refine lv_istore (lv' := [(4, .int (nI c9)), (0, .ref wy), (1, .ref pz), (2, .int (nI hi)), (3, .int (nI (100 * rl + 5 * c9 + v9)))]) hx hb dX9_init_60 hl (by decide) rfl (fun ls hl => ?_)
        refine lv_aload_n hx hb dX9_init_62 rfl (lv_at hl 1 rfl) ?_
        refine va_get (D := gD G) (ci := 14) (v := .ref q_3) (C := RX9) (T := TX9) (N := 3) hx hb hts fwX9 hown hK hP 0 rfl rfl 1 (by decide) (hts _ q1205) (fun _ h9 => h9) rfl dX9_init_63 ?_
        refine lv_iload_n hx hb dX9_init_66 rfl (lv_at hl 4 rfl) ?_
        refine fin_rT hP hD hS hA [] [0, 1, 2, 3, 4, 5, 6] (wr := [(wy, .inr (14, [.ref q_1, .ref q_3, .ref q_6])), (q_1, .inl (gyI G, 16, .inl f)), (pz, .inr (13, [.ref gr, .ref mr, .ref cg])), (gr, .inl (gyI G, 16, .inl gv)), (q_3, .inr (4, [.int md1, .ref ed1, .int (nI n1)])), (ed1, .inl (gyO G, cap1, .inr (.inr (.inr (.inr g1))))), (q_6, .inr (4, [.int (nI 0), .ref (gE G), .int (nI 0)]))]) rfl rfl (by decide) (allLt rfl) (allLt rfl) (by decide) (va_runS (As := [.int (nI (100 * rl + 5 * c9 + v9))]) (rest := [.ref q_3]) ⟨hx, hb, hml, hown, hts⟩ (c_J6_valueOf_2dffe l G (100 * rl + 5 * c9 + v9) (by omega) H.size) (va_cwS 1 hts (gSt q1176 q1177 q70 q1178) rfl rfl rfl (by decide +kernel) ⟨Nat.le_of_ble_eq_true rfl, Nat.le_of_ble_eq_true rfl⟩) (preS hK hE hP hD hS hA [] rfl (by decide)) rfl rfl hl.1 rfl (lv_room (Nat.le_of_ble_eq_true rfl)) dX9_init_67 ⟨(by show 3 + 4 * t + 1 ≤ (263 : Nat); omega), (by show 22 + 1002 * t + 1 ≤ (65152 : Nat); omega)⟩) (fun u9 r_89 hw_88 H locs hP hD hS => ?_)
        obtain ⟨T2_87, rfl⟩ : ∃ z, z = u9 := ⟨_, rfl⟩
        obtain ⟨T_90, eT_91⟩ : ∃ z : va_W, z = T2_87 ++ T := ⟨_, rfl⟩
        have hP : va_P (gD G) vwCl ([(wy, .inr (14, [.ref q_1, .ref q_3, .ref q_6])), (q_1, .inl (gyI G, 16, .inl f)), (pz, .inr (13, [.ref gr, .ref mr, .ref cg])), (gr, .inl (gyI G, 16, .inl gv)), (q_3, .inr (4, [.int md1, .ref ed1, .int (nI n1)])), (ed1, .inl (gyO G, cap1, .inr (.inr (.inr (.inr g1))))), (q_6, .inr (4, [.int (nI 0), .ref (gE G), .int (nI 0)]))] ++ T_90) H := by rw [eT_91, ← List.append_assoc]; exact hP
        have hD : va_D A ([(wy, .inr (14, [.ref q_1, .ref q_3, .ref q_6])), (q_1, .inl (gyI G, 16, .inl f)), (pz, .inr (13, [.ref gr, .ref mr, .ref cg])), (gr, .inl (gyI G, 16, .inl gv)), (q_3, .inr (4, [.int md1, .ref ed1, .int (nI n1)])), (ed1, .inl (gyO G, cap1, .inr (.inr (.inr (.inr g1))))), (q_6, .inr (4, [.int (nI 0), .ref (gE G), .int (nI 0)]))] ++ T_90) := by rw [eT_91, ← List.append_assoc]; exact hD
        have hti_92 : tI T_90 := by rw [eT_91]; exact tI.app hti hw_88
        have hok_93 : okI G T_90 r_89 := by rw [eT_91]; exact okI.new hw_88
        have hb_94 : obR (okI G T_90) g1 := by rw [eT_91]; exact obR.old hw_88 hg1
        refine fin_i5T hP hD hS hA [4, 5] [0, 1, 2, 3, 6] (wr := [(wy, .inr (14, [.ref q_1, .ref q_3, .ref q_6])), (q_1, .inl (gyI G, 16, .inl f)), (pz, .inr (13, [.ref gr, .ref mr, .ref cg])), (gr, .inl (gyI G, 16, .inl gv)), (q_6, .inr (4, [.int (nI 0), .ref (gE G), .int (nI 0)]))]) rfl rfl (by decide) (allLt rfl) (allLt rfl) (by decide) (va_runF (As := [.ref r_89]) (rest := []) (hK.1 4 _ rfl).2 ⟨hx, hb, hml, hown, hts⟩ (c_add_more l (gSet G (okI G T_90)) q_3 md1 ed1 n1 cap1 g1 r_89 hok_93 (by omega) (by omega) hb_94 (by omega) (by omega) H.size) (va_cwF 1 hts (gF q1197 q991 q469 q48 q471) rfl rfl rfl (hE.1.2.1 _ FW1) (by decide +kernel) ⟨Nat.le_of_ble_eq_true rfl, Nat.le_of_ble_eq_true rfl⟩) (preVG (okI_ob hK hE hP hD hS hA hti_92 [4, 5] rfl) (q0 := 4) (ci := 4) hK hE hP hD hS hA [4, 5] rfl (by decide) rfl rfl) rfl rfl hl.1 rfl (lv_room (Nat.le_of_ble_eq_true rfl)) dX9_init_70 ⟨(by show 3 + 4 * t + 1 + 1 ≤ (263 : Nat); omega), (by show 22 + 1002 * t + 1 + 500 ≤ (65152 : Nat); omega)⟩) (fun r_100 u9 hw_99 H locs hP hD hS => ?_)
        obtain ⟨md2_95, ed2_96, cap2_97, f2_98⟩ := u9
        obtain ⟨hc1_101, hc2_102, hc3_103, hf2_104⟩ := hw_99
        have hc1_101 : 10 ≤ cap2_97 := hc1_101
        have hc2_102 : n1 + 1 ≤ cap2_97 := hc2_102
        have hc3_103 : cap2_97 ≤ 2 * (n1 + 1) + 10 := hc3_103
        have hf2_104 : obR (gOB (gSet G (okI G T_90))) f2_98 := hf2_104
        have hP : va_P (gD G) vwCl ([(wy, .inr (14, [.ref q_1, .ref q_3, .ref q_6])), (q_1, .inl (gyI G, 16, .inl f)), (pz, .inr (13, [.ref gr, .ref mr, .ref cg])), (gr, .inl (gyI G, 16, .inl gv)), (q_6, .inr (4, [.int (nI 0), .ref (gE G), .int (nI 0)])), (q_3, .inr (4, [.int md2_95, .ref ed2_96, .int (nI (n1 + 1))])), (ed2_96, .inl (gyO G, cap2_97, .inr (.inr (.inr (.inr f2_98)))))] ++ T_90) H := hP
        have hD : va_D A ([(wy, .inr (14, [.ref q_1, .ref q_3, .ref q_6])), (q_1, .inl (gyI G, 16, .inl f)), (pz, .inr (13, [.ref gr, .ref mr, .ref cg])), (gr, .inl (gyI G, 16, .inl gv)), (q_6, .inr (4, [.int (nI 0), .ref (gE G), .int (nI 0)])), (q_3, .inr (4, [.int md2_95, .ref ed2_96, .int (nI (n1 + 1))])), (ed2_96, .inl (gyO G, cap2_97, .inr (.inr (.inr (.inr f2_98)))))] ++ T_90) := hD
        refine lv_pop hx hb dX9_init_75 rfl ?_
        refine lv_aload_n hx hb dX9_init_76 rfl (lv_at hl 1 rfl) ?_
        refine va_get (D := gD G) (ci := 14) (v := .ref q_1) (C := RX9) (T := TX9) (N := 3) hx hb hts fwX9 hown hK hP 0 rfl rfl 0 (by decide) (hts _ q1203) (fun _ h9 => h9) rfl dX9_init_77 ?_
        refine lv_iload hx hb dX9_init_80 (lv_at hl 0 rfl) ?_
        refine lv_dup2_11 hx hb dX9_init_82 rfl rfl ?_
        refine va_iald (D := gD G) (cA := gyI G) (n := 16) (f := f) hx hb hK hP 1 0 rfl rfl (vp_in_nI (n := c9) (N := 16) (by omega) (by omega)) dX9_init_83 ?_
        obtain ⟨n_105, hn_105, en_105⟩ := hf c9 (by omega)
        refine lv_toe (show f (nI c9).toNatClampNeg = nI n_105 by rw [nI_clamp (by omega)]; exact en_105) ?_
        refine lv_toe (show nI n_105 = nI n9_ from en_105.symm.trans hf9) ?_
        refine lv_iconst (v := nI 1) hx hb dX9_init_84 (by decide) ?_
        refine lv_iload_n hx hb dX9_init_85 rfl (lv_at hl 4 rfl) ?_
        refine lv_bipush (v := nI 100) hx hb dX9_init_86 (by decide) ?_
        refine lv_irem hx hb dX9_init_88 (nI_ne0 (by omega) (by omega)) ?_
        refine lv_toe (pk_rem (a := 100 * rl + 5 * c9 + v9) (d := 100) (by omega) (by omega) (by omega)) ?_
        refine lv_iconst (v := nI 5) hx hb dX9_init_89 (by decide) ?_
        refine lv_iload hx hb dX9_init_90 (lv_at hl 0 rfl) ?_
        refine lv_imul hx hb dX9_init_92 ?_
        refine lv_toe (pk_mul 5 c9) ?_
        refine lv_isub hx hb dX9_init_93 ?_
        refine lv_toe (pk_sub (a := (100 * rl + 5 * c9 + v9) % 100) (b := 5 * c9) (by omega)) ?_
        refine lv_iconst (v := nI 1) hx hb dX9_init_94 (by decide) ?_
        refine lv_isub hx hb dX9_init_95 ?_
        refine lv_toe (pk_sub (a := (100 * rl + 5 * c9 + v9) % 100 - (5 * c9)) (b := 1) (by omega)) ?_
        refine lv_toe (show nI ((100 * rl + 5 * c9 + v9) % 100 - (5 * c9) - 1) = nI (v9 - 1) from congrArg nI (by omega)) ?_
        refine lv_ishl hx hb dX9_init_96 ?_
        refine lv_iconst (v := -1) hx hb dX9_init_97 (by decide) ?_
        refine lv_ixor hx hb dX9_init_98 ?_
        refine lv_iand hx hb dX9_init_99 ?_
        refine lv_toe (clr n9_ (by omega) v9 (by omega) (by omega) hbit).1 ?_
        refine va_iast (D := gD G) (cA := gyI G) (n := 16) (f := f) hx hb hK hP hD hS 1 0 rfl rfl (vp_in_nI (n := c9) (N := 16) (by omega) (by omega)) dX9_init_100 (fun H locs hP hD hS => ?_)
        have hmu_107 : mu (upd f (nI c9).toNatClampNeg (nI (n9_ - pw v9))) < mu f := by rw [nI_clamp (by omega)]; exact mu_upd (by omega) hf9 (by omega) (by omega) (clr n9_ (by omega) v9 (by omega) (by omega) hbit).2
        have hb_108 : inB 16 16 (upd f (nI c9).toNatClampNeg (nI (n9_ - pw v9))) := hf.upd (n := n9_ - pw v9) (by omega) rfl
        generalize upd f (nI c9).toNatClampNeg (nI (n9_ - pw v9)) = f_106 at hP hD hb_108 hmu_107
        have hP : va_P (gD G) vwCl ([(wy, .inr (14, [.ref q_1, .ref q_3, .ref q_6])), (q_1, .inl (gyI G, 16, .inl f_106)), (pz, .inr (13, [.ref gr, .ref mr, .ref cg])), (gr, .inl (gyI G, 16, .inl gv)), (q_6, .inr (4, [.int (nI 0), .ref (gE G), .int (nI 0)])), (q_3, .inr (4, [.int md2_95, .ref ed2_96, .int (nI (n1 + 1))])), (ed2_96, .inl (gyO G, cap2_97, .inr (.inr (.inr (.inr f2_98)))))] ++ T_90) H := hP
        have hD : va_D A ([(wy, .inr (14, [.ref q_1, .ref q_3, .ref q_6])), (q_1, .inl (gyI G, 16, .inl f_106)), (pz, .inr (13, [.ref gr, .ref mr, .ref cg])), (gr, .inl (gyI G, 16, .inl gv)), (q_6, .inr (4, [.int (nI 0), .ref (gE G), .int (nI 0)])), (q_3, .inr (4, [.int md2_95, .ref ed2_96, .int (nI (n1 + 1))])), (ed2_96, .inl (gyO G, cap2_97, .inr (.inr (.inr (.inr f2_98)))))] ++ T_90) := hD
        refine lv_aload_n hx hb dX9_init_101 rfl (lv_at hl 1 rfl) ?_
        refine va_get (D := gD G) (ci := 14) (v := .ref q_1) (C := RX9) (T := TX9) (N := 3) hx hb hts fwX9 hown hK hP 0 rfl rfl 0 (by decide) (hts _ q1203) (fun _ h9 => h9) rfl dX9_init_102 ?_
        refine lv_iload hx hb dX9_init_105 (lv_at hl 0 rfl) ?_
        refine va_iald (D := gD G) (cA := gyI G) (n := 16) (f := f_106) hx hb hK hP 1 0 rfl rfl (vp_in_nI (n := c9) (N := 16) (by omega) (by omega)) dX9_init_107 ?_
        obtain ⟨n_109, hn_109, en_109⟩ := hb_108 c9 (by omega)
        refine lv_toe (show f_106 (nI c9).toNatClampNeg = nI n_109 by rw [nI_clamp (by omega)]; exact en_109) ?_
        refine fin_iT hP hD hS hA [] [0, 1, 2, 3, 4, 5, 6] (wr := [(wy, .inr (14, [.ref q_1, .ref q_3, .ref q_6])), (q_1, .inl (gyI G, 16, .inl f_106)), (pz, .inr (13, [.ref gr, .ref mr, .ref cg])), (gr, .inl (gyI G, 16, .inl gv)), (q_6, .inr (4, [.int (nI 0), .ref (gE G), .int (nI 0)])), (q_3, .inr (4, [.int md2_95, .ref ed2_96, .int (nI (n1 + 1))])), (ed2_96, .inl (gyO G, cap2_97, .inr (.inr (.inr (.inr f2_98)))))]) rfl rfl (by decide) (allLt rfl) (allLt rfl) (by decide) (va_runS (As := [.int (nI n_109)]) (rest := []) ⟨hx, hb, hml, hown, hts⟩ (c_J6_bitCount_0f7a4 l G (nI n_109) H.size) (va_cwS 1 hts (gSt q1198 q277 q70 q278) rfl rfl rfl (by decide +kernel) ⟨Nat.le_of_ble_eq_true rfl, Nat.le_of_ble_eq_true rfl⟩) (preS hK hE hP hD hS hA [] rfl (by decide)) rfl rfl hl.1 rfl (lv_room (Nat.le_of_ble_eq_true rfl)) dX9_init_108 ⟨(by show 3 + 4 * t + 1 + 1 + 0 ≤ (263 : Nat); omega), (by show 22 + 1002 * t + 1 + 500 + 0 ≤ (65152 : Nat); omega)⟩) (fun r_111 u9 hw_110 H locs hP hD hS => ?_)
        have hP : va_P (gD G) vwCl ([(wy, .inr (14, [.ref q_1, .ref q_3, .ref q_6])), (q_1, .inl (gyI G, 16, .inl f_106)), (pz, .inr (13, [.ref gr, .ref mr, .ref cg])), (gr, .inl (gyI G, 16, .inl gv)), (q_6, .inr (4, [.int (nI 0), .ref (gE G), .int (nI 0)])), (q_3, .inr (4, [.int md2_95, .ref ed2_96, .int (nI (n1 + 1))])), (ed2_96, .inl (gyO G, cap2_97, .inr (.inr (.inr (.inr f2_98)))))] ++ T_90) H := hP
        have hD : va_D A ([(wy, .inr (14, [.ref q_1, .ref q_3, .ref q_6])), (q_1, .inl (gyI G, 16, .inl f_106)), (pz, .inr (13, [.ref gr, .ref mr, .ref cg])), (gr, .inl (gyI G, 16, .inl gv)), (q_6, .inr (4, [.int (nI 0), .ref (gE G), .int (nI 0)])), (q_3, .inr (4, [.int md2_95, .ref ed2_96, .int (nI (n1 + 1))])), (ed2_96, .inl (gyO G, cap2_97, .inr (.inr (.inr (.inr f2_98)))))] ++ T_90) := hD
        refine lv_iconst (v := nI 1) hx hb dX9_init_111 (by decide) ?_
        refine lv_icmp_ne (tgt := 130) hx hb dX9_init_112 (by decide) (fun c_112 => ?_) (fun c_112 => ?_)
        · skip
          refine lv_aload_n hx hb dX9_init_130 rfl (lv_at hl 1 rfl) ?_
          refine fin_iT hP hD hS hA [0, 1] [2, 3, 4, 5, 6] (wr := [(pz, .inr (13, [.ref gr, .ref mr, .ref cg])), (gr, .inl (gyI G, 16, .inl gv)), (q_6, .inr (4, [.int (nI 0), .ref (gE G), .int (nI 0)])), (q_3, .inr (4, [.int md2_95, .ref ed2_96, .int (nI (n1 + 1))])), (ed2_96, .inl (gyO G, cap2_97, .inr (.inr (.inr (.inr f2_98)))))]) rfl rfl (by decide) (allLt rfl) (allLt rfl) (by decide) (va_runV (As := []) (rest := []) ⟨hx, hb, hml, hown, hts⟩ (c_X9_state l G wy q_1 q_3 q_6 f_106 H.size) (cwV 0 hts (gV q1199 q1200 q1201 q75 q1202) rfl rfl rfl (by decide +kernel) ⟨Nat.le_of_ble_eq_true rfl, Nat.le_of_ble_eq_true rfl⟩) (preV (q0 := 0) (ci := 14) hK hE hP hD hS hA [0, 1] rfl (by decide) rfl rfl) rfl rfl hl.1 rfl (lv_room (Nat.le_of_ble_eq_true rfl)) dX9_init_131 ⟨(by show 3 + 4 * t + 1 + 1 + 0 ≤ (263 : Nat); omega), (by show 22 + 1002 * t + 1 + 500 + 0 ≤ (65152 : Nat); omega)⟩) (fun r_114 u9 hw_113 H locs hP hD hS => ?_)
          have hP : va_P (gD G) vwCl ([(pz, .inr (13, [.ref gr, .ref mr, .ref cg])), (gr, .inl (gyI G, 16, .inl gv)), (q_6, .inr (4, [.int (nI 0), .ref (gE G), .int (nI 0)])), (q_3, .inr (4, [.int md2_95, .ref ed2_96, .int (nI (n1 + 1))])), (ed2_96, .inl (gyO G, cap2_97, .inr (.inr (.inr (.inr f2_98))))), (wy, .inr (14, [.ref q_1, .ref q_3, .ref q_6])), (q_1, .inl (gyI G, 16, .inl f_106))] ++ T_90) H := hP
          have hD : va_D A ([(pz, .inr (13, [.ref gr, .ref mr, .ref cg])), (gr, .inl (gyI G, 16, .inl gv)), (q_6, .inr (4, [.int (nI 0), .ref (gE G), .int (nI 0)])), (q_3, .inr (4, [.int md2_95, .ref ed2_96, .int (nI (n1 + 1))])), (ed2_96, .inl (gyO G, cap2_97, .inr (.inr (.inr (.inr f2_98))))), (wy, .inr (14, [.ref q_1, .ref q_3, .ref q_6])), (q_1, .inl (gyI G, 16, .inl f_106))] ++ T_90) := hD
          refine lv_bipush (v := nI 98) hx hb dX9_init_134 (by decide) ?_
          refine lv_icmp_ne (tgt := 143) hx hb dX9_init_136 (by decide) (fun c_115 => ?_) (fun c_115 => ?_)
          · skip
            refine lv_aload_n hx hb dX9_init_143 rfl (lv_at hl 1 rfl) ?_
            refine lv_aload_n hx hb dX9_init_144 rfl (lv_at hl 2 rfl) ?_
            refine lv_iload_n hx hb dX9_init_145 rfl (lv_at hl 3 rfl) ?_
            refine fin_iT hP hD hS hA [5, 6, 0, 1] [2, 3, 4] (wr := [(q_6, .inr (4, [.int (nI 0), .ref (gE G), .int (nI 0)])), (q_3, .inr (4, [.int md2_95, .ref ed2_96, .int (nI (n1 + 1))])), (ed2_96, .inl (gyO G, cap2_97, .inr (.inr (.inr (.inr f2_98)))))]) rfl rfl (by decide) (allLt rfl) (allLt rfl) (by decide) (va_runV (As := [.ref pz, .int (nI hi)]) (rest := []) ⟨hx, hb, hml, hown, hts⟩ (c_X9_next l G wy q_1 q_3 q_6 f_106 pz gr mr cg gv hi hb_108 (by omega) H.size) (cwV 2 hts (gV q1072 q1074 q38 q75 q1075) rfl rfl rfl (by decide +kernel) ⟨Nat.le_of_ble_eq_true rfl, Nat.le_of_ble_eq_true rfl⟩) (preV (q0 := 5) (ci := 14) hK hE hP hD hS hA [5, 6, 0, 1] rfl (by decide) rfl rfl) rfl rfl hl.1 rfl (lv_room (Nat.le_of_ble_eq_true rfl)) dX9_init_146 ⟨(by show 3 + 4 * t + 1 + 1 + 0 ≤ (263 : Nat); omega), (by show 22 + 1002 * t + 1 + 500 + 0 ≤ (65152 : Nat); omega)⟩) (fun r_121 u9 hw_120 H locs hP hD hS => ?_)
            obtain ⟨rl_116, c9_117, v9_118, n9__119⟩ := u9
            have hcs_122 := hw_120
            have hcs_122 : r_121 = -1 ∨ (r_121 = nI (100 * rl_116 + 5 * c9_117 + v9_118) ∧ rl_116 < 4 ∧ c9_117 < 16 ∧ 1 ≤ v9_118 ∧ v9_118 ≤ 4 ∧ n9__119 < 16 ∧ f_106 c9_117 = nI n9__119 ∧ n9__119 / pw v9_118 % 2 = 1) := hcs_122
            have hP : va_P (gD G) vwCl ([(q_6, .inr (4, [.int (nI 0), .ref (gE G), .int (nI 0)])), (q_3, .inr (4, [.int md2_95, .ref ed2_96, .int (nI (n1 + 1))])), (ed2_96, .inl (gyO G, cap2_97, .inr (.inr (.inr (.inr f2_98))))), (wy, .inr (14, [.ref q_1, .ref q_3, .ref q_6])), (q_1, .inl (gyI G, 16, .inl f_106)), (pz, .inr (13, [.ref gr, .ref mr, .ref cg])), (gr, .inl (gyI G, 16, .inl gv))] ++ T_90) H := hP
            have hD : va_D A ([(q_6, .inr (4, [.int (nI 0), .ref (gE G), .int (nI 0)])), (q_3, .inr (4, [.int md2_95, .ref ed2_96, .int (nI (n1 + 1))])), (ed2_96, .inl (gyO G, cap2_97, .inr (.inr (.inr (.inr f2_98))))), (wy, .inr (14, [.ref q_1, .ref q_3, .ref q_6])), (q_1, .inl (gyI G, 16, .inl f_106)), (pz, .inr (13, [.ref gr, .ref mr, .ref cg])), (gr, .inl (gyI G, 16, .inl gv))] ++ T_90) := hD
            rcases hcs_122 with rfl | ⟨rfl, hrl_z_123, hc9_z_123, hv1_z_123, hv4_z_123, hn9_z_123, hf9_z_123, hbit_z_123⟩
            · skip
              refine lv_istore_n (lv' := [(3, .int (-1)), (4, .int (nI c9)), (0, .ref wy), (1, .ref pz), (2, .int (nI hi))]) hx hb dX9_init_149 rfl hl (by decide) rfl (fun ls hl => ?_)
              refine lv_goto (tgt := 50) hx hb dX9_init_150 (by decide) ?_
              refine lv_iload_n hx hb dX9_init_50 rfl (lv_at hl 0 rfl) ?_
              refine lv_if_lt (tgt := 153) hx hb dX9_init_51 (by decide) (fun c_124 => ?_) (fun c_124 => ?_)
              · skip
                have hP9 := hP.split.1.sub (ws' := [(wy, .inr (14, [.ref q_1, .ref q_3, .ref q_6])), (q_1, .inl (gyI G, 16, .inl f_106)), (pz, .inr (13, [.ref gr, .ref mr, .ref cg])), (gr, .inl (gyI G, 16, .inl gv))]) [3, 4, 5, 6] rfl
                have hD9 := hD.split.1.sub (ws' := [(wy, .inr (14, [.ref q_1, .ref q_3, .ref q_6])), (q_1, .inl (gyI G, 16, .inl f_106)), (pz, .inr (13, [.ref gr, .ref mr, .ref cg])), (gr, .inl (gyI G, 16, .inl gv))]) [3, 4, 5, 6] (by decide) rfl
                refine W.widen (k := 263) (n := 65152) (by show 3 + 4 * t + 1 + 1 ≤ 263; omega) (by show 22 + 1002 * t + 1 + 500 ≤ 65152; omega) ?_
                subst hQ
                exact W.vret hx hb hr (fun t ht hW => ⟨⟨(q_1, q_3, q_6, f_106), rfl, trivial, by rw [ht]; exact hP9, hD9⟩, hS.F ht⟩) hS.2.2 dX9_init_153
              · skip
                exact absurd (by decide) c_124
            · skip
              refine lv_istore_n (lv' := [(3, .int (nI (100 * rl_116 + 5 * c9_117 + v9_118))), (4, .int (nI c9)), (0, .ref wy), (1, .ref pz), (2, .int (nI hi))]) hx hb dX9_init_149 rfl hl (by decide) rfl (fun ls hl => ?_)
              refine lv_goto (tgt := 50) hx hb dX9_init_150 (by decide) ?_
              refine W.widen (k := 3 + 4 * (t + 1)) (n := 22 + 1002 * (t + 1)) (by show 3 + 4 * t + 1 + 1 ≤ 3 + 4 * (t + 1); omega) (by show 22 + 1002 * t + 1 + 500 ≤ 22 + 1002 * (t + 1); omega) ?_
              exact ih_50_2 rl_116 c9_117 v9_118 n9__119 f_106 (t + 1) T_90 md2_95 ed2_96 (n1 + 1) cap2_97 f2_98 (by omega) (by omega) (by omega) (by omega) (by omega) hb_108 hf9_z_123 hbit_z_123 (by omega) hti_92 (by omega) (by omega) (by omega) (by omega) hf2_104 (by omega) _ _ (subPT hP [3, 4, 5, 6, 1, 2, 0] rfl) (subDT hD [3, 4, 5, 6, 1, 2, 0] (by decide) rfl) hS ls (lv_sub hl [2, 3, 4, 0] rfl)
          · skip
            refine lv_iconst (v := -1) hx hb dX9_init_139 (by decide) ?_
            refine lv_goto (tgt := 149) hx hb dX9_init_140 (by decide) ?_
            refine lv_istore_n (lv' := [(3, .int (-1)), (4, .int (nI c9)), (0, .ref wy), (1, .ref pz), (2, .int (nI hi))]) hx hb dX9_init_149 rfl hl (by decide) rfl (fun ls hl => ?_)
            refine lv_goto (tgt := 50) hx hb dX9_init_150 (by decide) ?_
            refine lv_iload_n hx hb dX9_init_50 rfl (lv_at hl 0 rfl) ?_
            refine lv_if_lt (tgt := 153) hx hb dX9_init_51 (by decide) (fun c_125 => ?_) (fun c_125 => ?_)
            · skip
              have hP9 := hP.split.1.sub (ws' := [(wy, .inr (14, [.ref q_1, .ref q_3, .ref q_6])), (q_1, .inl (gyI G, 16, .inl f_106)), (pz, .inr (13, [.ref gr, .ref mr, .ref cg])), (gr, .inl (gyI G, 16, .inl gv))]) [5, 6, 0, 1] rfl
              have hD9 := hD.split.1.sub (ws' := [(wy, .inr (14, [.ref q_1, .ref q_3, .ref q_6])), (q_1, .inl (gyI G, 16, .inl f_106)), (pz, .inr (13, [.ref gr, .ref mr, .ref cg])), (gr, .inl (gyI G, 16, .inl gv))]) [5, 6, 0, 1] (by decide) rfl
              refine W.widen (k := 263) (n := 65152) (by show 3 + 4 * t + 1 + 1 ≤ 263; omega) (by show 22 + 1002 * t + 1 + 500 ≤ 65152; omega) ?_
              subst hQ
              exact W.vret hx hb hr (fun t ht hW => ⟨⟨(q_1, q_3, q_6, f_106), rfl, trivial, by rw [ht]; exact hP9, hD9⟩, hS.F ht⟩) hS.2.2 dX9_init_153
            · skip
              exact absurd (by decide) c_125
        · skip
          refine lv_aload_n hx hb dX9_init_115 rfl (lv_at hl 1 rfl) ?_
          refine va_get (D := gD G) (ci := 14) (v := .ref q_6) (C := RX9) (T := TX9) (N := 3) hx hb hts fwX9 hown hK hP 0 rfl rfl 2 (by decide) (hts _ q1207) (fun _ h9 => h9) rfl dX9_init_116 ?_
          refine lv_iload hx hb dX9_init_119 (lv_at hl 0 rfl) ?_
          refine fin_rT hP hD hS hA [] [0, 1, 2, 3, 4, 5, 6] (wr := [(wy, .inr (14, [.ref q_1, .ref q_3, .ref q_6])), (q_1, .inl (gyI G, 16, .inl f_106)), (pz, .inr (13, [.ref gr, .ref mr, .ref cg])), (gr, .inl (gyI G, 16, .inl gv)), (q_6, .inr (4, [.int (nI 0), .ref (gE G), .int (nI 0)])), (q_3, .inr (4, [.int md2_95, .ref ed2_96, .int (nI (n1 + 1))])), (ed2_96, .inl (gyO G, cap2_97, .inr (.inr (.inr (.inr f2_98)))))]) rfl rfl (by decide) (allLt rfl) (allLt rfl) (by decide) (va_runS (As := [.int (nI c9)]) (rest := [.ref q_6]) ⟨hx, hb, hml, hown, hts⟩ (c_J6_valueOf_2dffe l G c9 (by omega) H.size) (va_cwS 1 hts (gSt q1176 q1177 q70 q1178) rfl rfl rfl (by decide +kernel) ⟨Nat.le_of_ble_eq_true rfl, Nat.le_of_ble_eq_true rfl⟩) (preS hK hE hP hD hS hA [] rfl (by decide)) rfl rfl hl.1 rfl (lv_room (Nat.le_of_ble_eq_true rfl)) dX9_init_121 ⟨(by show 3 + 4 * t + 1 + 1 + 1 ≤ (263 : Nat); omega), (by show 22 + 1002 * t + 1 + 500 + 1 ≤ (65152 : Nat); omega)⟩) (fun u9 r_128 hw_127 H locs hP hD hS => ?_)
          obtain ⟨T2_126, rfl⟩ : ∃ z, z = u9 := ⟨_, rfl⟩
          obtain ⟨T_129, eT_130⟩ : ∃ z : va_W, z = T2_126 ++ T_90 := ⟨_, rfl⟩
          have hP : va_P (gD G) vwCl ([(wy, .inr (14, [.ref q_1, .ref q_3, .ref q_6])), (q_1, .inl (gyI G, 16, .inl f_106)), (pz, .inr (13, [.ref gr, .ref mr, .ref cg])), (gr, .inl (gyI G, 16, .inl gv)), (q_6, .inr (4, [.int (nI 0), .ref (gE G), .int (nI 0)])), (q_3, .inr (4, [.int md2_95, .ref ed2_96, .int (nI (n1 + 1))])), (ed2_96, .inl (gyO G, cap2_97, .inr (.inr (.inr (.inr f2_98)))))] ++ T_129) H := by rw [eT_130, ← List.append_assoc]; exact hP
          have hD : va_D A ([(wy, .inr (14, [.ref q_1, .ref q_3, .ref q_6])), (q_1, .inl (gyI G, 16, .inl f_106)), (pz, .inr (13, [.ref gr, .ref mr, .ref cg])), (gr, .inl (gyI G, 16, .inl gv)), (q_6, .inr (4, [.int (nI 0), .ref (gE G), .int (nI 0)])), (q_3, .inr (4, [.int md2_95, .ref ed2_96, .int (nI (n1 + 1))])), (ed2_96, .inl (gyO G, cap2_97, .inr (.inr (.inr (.inr f2_98)))))] ++ T_129) := by rw [eT_130, ← List.append_assoc]; exact hD
          have hti_131 : tI T_129 := by rw [eT_130]; exact tI.app hti_92 hw_127
          have hok_132 : okI G T_129 r_128 := by rw [eT_130]; exact okI.new hw_127
          have hb_133 : obR (okI G T_129) f2_98 := by rw [eT_130]; exact obR.old hw_127 hf2_104
          refine fin_i5T hP hD hS hA [4] [0, 1, 2, 3, 5, 6] (wr := [(wy, .inr (14, [.ref q_1, .ref q_3, .ref q_6])), (q_1, .inl (gyI G, 16, .inl f_106)), (pz, .inr (13, [.ref gr, .ref mr, .ref cg])), (gr, .inl (gyI G, 16, .inl gv)), (q_3, .inr (4, [.int md2_95, .ref ed2_96, .int (nI (n1 + 1))])), (ed2_96, .inl (gyO G, cap2_97, .inr (.inr (.inr (.inr f2_98)))))]) rfl rfl (by decide) (allLt rfl) (allLt rfl) (by decide) (va_runF (As := [.ref r_128]) (rest := []) (hK.1 4 _ rfl).2 ⟨hx, hb, hml, hown, hts⟩ (c_add_first l (gSet G (okI G T_129)) q_6 (nI 0) r_128 hok_132 H.size) (va_cwF 1 hts (gF q1197 q991 q469 q48 q471) rfl rfl rfl (hE.1.2.1 _ FW1) (by decide +kernel) ⟨Nat.le_of_ble_eq_true rfl, Nat.le_of_ble_eq_true rfl⟩) (preVG (okI_ob hK hE hP hD hS hA hti_131 [4] rfl) (q0 := 4) (ci := 4) hK hE hP hD hS hA [4] rfl (by decide) rfl rfl) rfl rfl hl.1 rfl (lv_room (Nat.le_of_ble_eq_true rfl)) dX9_init_124 ⟨(by show 3 + 4 * t + 1 + 1 + 1 + 1 ≤ (263 : Nat); omega), (by show 22 + 1002 * t + 1 + 500 + 1 + 10 ≤ (65152 : Nat); omega)⟩) (fun r_138 u9 hw_137 H locs hP hD hS => ?_)
          obtain ⟨md2_134, ed2_135, f2_136⟩ := u9
          have hf2_139 := hw_137
          have hf2_139 : obR (gOB (gSet G (okI G T_129))) f2_136 := hf2_139
          have hP : va_P (gD G) vwCl ([(wy, .inr (14, [.ref q_1, .ref q_3, .ref q_6])), (q_1, .inl (gyI G, 16, .inl f_106)), (pz, .inr (13, [.ref gr, .ref mr, .ref cg])), (gr, .inl (gyI G, 16, .inl gv)), (q_3, .inr (4, [.int md2_95, .ref ed2_96, .int (nI (n1 + 1))])), (ed2_96, .inl (gyO G, cap2_97, .inr (.inr (.inr (.inr f2_98))))), (q_6, .inr (4, [.int md2_134, .ref ed2_135, .int (nI 1)])), (ed2_135, .inl (gyO G, 10, .inr (.inr (.inr (.inr f2_136)))))] ++ T_129) H := hP
          have hD : va_D A ([(wy, .inr (14, [.ref q_1, .ref q_3, .ref q_6])), (q_1, .inl (gyI G, 16, .inl f_106)), (pz, .inr (13, [.ref gr, .ref mr, .ref cg])), (gr, .inl (gyI G, 16, .inl gv)), (q_3, .inr (4, [.int md2_95, .ref ed2_96, .int (nI (n1 + 1))])), (ed2_96, .inl (gyO G, cap2_97, .inr (.inr (.inr (.inr f2_98))))), (q_6, .inr (4, [.int md2_134, .ref ed2_135, .int (nI 1)])), (ed2_135, .inl (gyO G, 10, .inr (.inr (.inr (.inr f2_136)))))] ++ T_129) := hD
          refine lv_pop hx hb dX9_init_129 rfl ?_
          refine lv_aload_n hx hb dX9_init_130 rfl (lv_at hl 1 rfl) ?_
          refine fin_iT hP hD hS hA [0, 1] [2, 3, 4, 5, 6, 7] (wr := [(pz, .inr (13, [.ref gr, .ref mr, .ref cg])), (gr, .inl (gyI G, 16, .inl gv)), (q_3, .inr (4, [.int md2_95, .ref ed2_96, .int (nI (n1 + 1))])), (ed2_96, .inl (gyO G, cap2_97, .inr (.inr (.inr (.inr f2_98))))), (q_6, .inr (4, [.int md2_134, .ref ed2_135, .int (nI 1)])), (ed2_135, .inl (gyO G, 10, .inr (.inr (.inr (.inr f2_136)))))]) rfl rfl (by decide) (allLt rfl) (allLt rfl) (by decide) (va_runV (As := []) (rest := []) ⟨hx, hb, hml, hown, hts⟩ (c_X9_state l G wy q_1 q_3 q_6 f_106 H.size) (cwV 0 hts (gV q1199 q1200 q1201 q75 q1202) rfl rfl rfl (by decide +kernel) ⟨Nat.le_of_ble_eq_true rfl, Nat.le_of_ble_eq_true rfl⟩) (preV (q0 := 0) (ci := 14) hK hE hP hD hS hA [0, 1] rfl (by decide) rfl rfl) rfl rfl hl.1 rfl (lv_room (Nat.le_of_ble_eq_true rfl)) dX9_init_131 ⟨(by show 3 + 4 * t + 1 + 1 + 1 + 1 + 0 ≤ (263 : Nat); omega), (by show 22 + 1002 * t + 1 + 500 + 1 + 10 + 0 ≤ (65152 : Nat); omega)⟩) (fun r_141 u9 hw_140 H locs hP hD hS => ?_)
          have hP : va_P (gD G) vwCl ([(pz, .inr (13, [.ref gr, .ref mr, .ref cg])), (gr, .inl (gyI G, 16, .inl gv)), (q_3, .inr (4, [.int md2_95, .ref ed2_96, .int (nI (n1 + 1))])), (ed2_96, .inl (gyO G, cap2_97, .inr (.inr (.inr (.inr f2_98))))), (q_6, .inr (4, [.int md2_134, .ref ed2_135, .int (nI 1)])), (ed2_135, .inl (gyO G, 10, .inr (.inr (.inr (.inr f2_136))))), (wy, .inr (14, [.ref q_1, .ref q_3, .ref q_6])), (q_1, .inl (gyI G, 16, .inl f_106))] ++ T_129) H := hP
          have hD : va_D A ([(pz, .inr (13, [.ref gr, .ref mr, .ref cg])), (gr, .inl (gyI G, 16, .inl gv)), (q_3, .inr (4, [.int md2_95, .ref ed2_96, .int (nI (n1 + 1))])), (ed2_96, .inl (gyO G, cap2_97, .inr (.inr (.inr (.inr f2_98))))), (q_6, .inr (4, [.int md2_134, .ref ed2_135, .int (nI 1)])), (ed2_135, .inl (gyO G, 10, .inr (.inr (.inr (.inr f2_136))))), (wy, .inr (14, [.ref q_1, .ref q_3, .ref q_6])), (q_1, .inl (gyI G, 16, .inl f_106))] ++ T_129) := hD
          refine lv_bipush (v := nI 98) hx hb dX9_init_134 (by decide) ?_
          refine lv_icmp_ne (tgt := 143) hx hb dX9_init_136 (by decide) (fun c_142 => ?_) (fun c_142 => ?_)
          · skip
            refine lv_aload_n hx hb dX9_init_143 rfl (lv_at hl 1 rfl) ?_
            refine lv_aload_n hx hb dX9_init_144 rfl (lv_at hl 2 rfl) ?_
            refine lv_iload_n hx hb dX9_init_145 rfl (lv_at hl 3 rfl) ?_
            refine fin_iT hP hD hS hA [6, 7, 0, 1] [2, 3, 4, 5] (wr := [(q_3, .inr (4, [.int md2_95, .ref ed2_96, .int (nI (n1 + 1))])), (ed2_96, .inl (gyO G, cap2_97, .inr (.inr (.inr (.inr f2_98))))), (q_6, .inr (4, [.int md2_134, .ref ed2_135, .int (nI 1)])), (ed2_135, .inl (gyO G, 10, .inr (.inr (.inr (.inr f2_136)))))]) rfl rfl (by decide) (allLt rfl) (allLt rfl) (by decide) (va_runV (As := [.ref pz, .int (nI hi)]) (rest := []) ⟨hx, hb, hml, hown, hts⟩ (c_X9_next l G wy q_1 q_3 q_6 f_106 pz gr mr cg gv hi hb_108 (by omega) H.size) (cwV 2 hts (gV q1072 q1074 q38 q75 q1075) rfl rfl rfl (by decide +kernel) ⟨Nat.le_of_ble_eq_true rfl, Nat.le_of_ble_eq_true rfl⟩) (preV (q0 := 6) (ci := 14) hK hE hP hD hS hA [6, 7, 0, 1] rfl (by decide) rfl rfl) rfl rfl hl.1 rfl (lv_room (Nat.le_of_ble_eq_true rfl)) dX9_init_146 ⟨(by show 3 + 4 * t + 1 + 1 + 1 + 1 + 0 ≤ (263 : Nat); omega), (by show 22 + 1002 * t + 1 + 500 + 1 + 10 + 0 ≤ (65152 : Nat); omega)⟩) (fun r_148 u9 hw_147 H locs hP hD hS => ?_)
            obtain ⟨rl_143, c9_144, v9_145, n9__146⟩ := u9
            have hcs_149 := hw_147
            have hcs_149 : r_148 = -1 ∨ (r_148 = nI (100 * rl_143 + 5 * c9_144 + v9_145) ∧ rl_143 < 4 ∧ c9_144 < 16 ∧ 1 ≤ v9_145 ∧ v9_145 ≤ 4 ∧ n9__146 < 16 ∧ f_106 c9_144 = nI n9__146 ∧ n9__146 / pw v9_145 % 2 = 1) := hcs_149
            have hP : va_P (gD G) vwCl ([(q_3, .inr (4, [.int md2_95, .ref ed2_96, .int (nI (n1 + 1))])), (ed2_96, .inl (gyO G, cap2_97, .inr (.inr (.inr (.inr f2_98))))), (q_6, .inr (4, [.int md2_134, .ref ed2_135, .int (nI 1)])), (ed2_135, .inl (gyO G, 10, .inr (.inr (.inr (.inr f2_136))))), (wy, .inr (14, [.ref q_1, .ref q_3, .ref q_6])), (q_1, .inl (gyI G, 16, .inl f_106)), (pz, .inr (13, [.ref gr, .ref mr, .ref cg])), (gr, .inl (gyI G, 16, .inl gv))] ++ T_129) H := hP
            have hD : va_D A ([(q_3, .inr (4, [.int md2_95, .ref ed2_96, .int (nI (n1 + 1))])), (ed2_96, .inl (gyO G, cap2_97, .inr (.inr (.inr (.inr f2_98))))), (q_6, .inr (4, [.int md2_134, .ref ed2_135, .int (nI 1)])), (ed2_135, .inl (gyO G, 10, .inr (.inr (.inr (.inr f2_136))))), (wy, .inr (14, [.ref q_1, .ref q_3, .ref q_6])), (q_1, .inl (gyI G, 16, .inl f_106)), (pz, .inr (13, [.ref gr, .ref mr, .ref cg])), (gr, .inl (gyI G, 16, .inl gv))] ++ T_129) := hD
            rcases hcs_149 with rfl | ⟨rfl, hrl_z_150, hc9_z_150, hv1_z_150, hv4_z_150, hn9_z_150, hf9_z_150, hbit_z_150⟩
            · skip
              refine lv_istore_n (lv' := [(3, .int (-1)), (4, .int (nI c9)), (0, .ref wy), (1, .ref pz), (2, .int (nI hi))]) hx hb dX9_init_149 rfl hl (by decide) rfl (fun ls hl => ?_)
              refine lv_goto (tgt := 50) hx hb dX9_init_150 (by decide) ?_
              refine lv_iload_n hx hb dX9_init_50 rfl (lv_at hl 0 rfl) ?_
              refine lv_if_lt (tgt := 153) hx hb dX9_init_51 (by decide) (fun c_151 => ?_) (fun c_151 => ?_)
              · skip
                have hP9 := hP.split.1.sub (ws' := [(wy, .inr (14, [.ref q_1, .ref q_3, .ref q_6])), (q_1, .inl (gyI G, 16, .inl f_106)), (pz, .inr (13, [.ref gr, .ref mr, .ref cg])), (gr, .inl (gyI G, 16, .inl gv))]) [4, 5, 6, 7] rfl
                have hD9 := hD.split.1.sub (ws' := [(wy, .inr (14, [.ref q_1, .ref q_3, .ref q_6])), (q_1, .inl (gyI G, 16, .inl f_106)), (pz, .inr (13, [.ref gr, .ref mr, .ref cg])), (gr, .inl (gyI G, 16, .inl gv))]) [4, 5, 6, 7] (by decide) rfl
                refine W.widen (k := 263) (n := 65152) (by show 3 + 4 * t + 1 + 1 + 1 + 1 ≤ 263; omega) (by show 22 + 1002 * t + 1 + 500 + 1 + 10 ≤ 65152; omega) ?_
                subst hQ
                exact W.vret hx hb hr (fun t ht hW => ⟨⟨(q_1, q_3, q_6, f_106), rfl, trivial, by rw [ht]; exact hP9, hD9⟩, hS.F ht⟩) hS.2.2 dX9_init_153
              · skip
                exact absurd (by decide) c_151
            · skip
              refine lv_istore_n (lv' := [(3, .int (nI (100 * rl_143 + 5 * c9_144 + v9_145))), (4, .int (nI c9)), (0, .ref wy), (1, .ref pz), (2, .int (nI hi))]) hx hb dX9_init_149 rfl hl (by decide) rfl (fun ls hl => ?_)
              refine lv_goto (tgt := 50) hx hb dX9_init_150 (by decide) ?_
              refine W.widen (k := 3 + 4 * (t + 1)) (n := 22 + 1002 * (t + 1)) (by show 3 + 4 * t + 1 + 1 + 1 + 1 ≤ 3 + 4 * (t + 1); omega) (by show 22 + 1002 * t + 1 + 500 + 1 + 10 ≤ 22 + 1002 * (t + 1); omega) ?_
              exact cut_50_1 (mu f_106 + 1) rl_143 c9_144 v9_145 n9__146 f_106 (t + 1) T_129 md2_95 ed2_96 (n1 + 1) cap2_97 f2_98 md2_134 ed2_135 1 10 f2_136 (by omega) (by omega) (by omega) (by omega) (by omega) hb_108 hf9_z_150 hbit_z_150 (by omega) hti_131 (by omega) (by omega) (by omega) (by omega) hb_133 (by omega) (by omega) (by omega) (by omega) hf2_139 (Nat.lt_succ_self _) _ _ (subPT hP [4, 5, 6, 7, 0, 1, 2, 3] rfl) (subDT hD [4, 5, 6, 7, 0, 1, 2, 3] (by decide) rfl) hS ls (lv_sub hl [2, 3, 4, 0] rfl)
          · skip
            refine lv_iconst (v := -1) hx hb dX9_init_139 (by decide) ?_
            refine lv_goto (tgt := 149) hx hb dX9_init_140 (by decide) ?_
            refine lv_istore_n (lv' := [(3, .int (-1)), (4, .int (nI c9)), (0, .ref wy), (1, .ref pz), (2, .int (nI hi))]) hx hb dX9_init_149 rfl hl (by decide) rfl (fun ls hl => ?_)
            refine lv_goto (tgt := 50) hx hb dX9_init_150 (by decide) ?_
            refine lv_iload_n hx hb dX9_init_50 rfl (lv_at hl 0 rfl) ?_
            refine lv_if_lt (tgt := 153) hx hb dX9_init_51 (by decide) (fun c_152 => ?_) (fun c_152 => ?_)
            · skip
              have hP9 := hP.split.1.sub (ws' := [(wy, .inr (14, [.ref q_1, .ref q_3, .ref q_6])), (q_1, .inl (gyI G, 16, .inl f_106)), (pz, .inr (13, [.ref gr, .ref mr, .ref cg])), (gr, .inl (gyI G, 16, .inl gv))]) [6, 7, 0, 1] rfl
              have hD9 := hD.split.1.sub (ws' := [(wy, .inr (14, [.ref q_1, .ref q_3, .ref q_6])), (q_1, .inl (gyI G, 16, .inl f_106)), (pz, .inr (13, [.ref gr, .ref mr, .ref cg])), (gr, .inl (gyI G, 16, .inl gv))]) [6, 7, 0, 1] (by decide) rfl
              refine W.widen (k := 263) (n := 65152) (by show 3 + 4 * t + 1 + 1 + 1 + 1 ≤ 263; omega) (by show 22 + 1002 * t + 1 + 500 + 1 + 10 ≤ 65152; omega) ?_
              subst hQ
              exact W.vret hx hb hr (fun t ht hW => ⟨⟨(q_1, q_3, q_6, f_106), rfl, trivial, by rw [ht]; exact hP9, hD9⟩, hS.F ht⟩) hS.2.2 dX9_init_153
            · skip
              exact absurd (by decide) c_152
  refine lv_aload_n hx hb dX9_init_43 rfl (lv_at hl 0 rfl) ?_
  refine lv_aload_n hx hb dX9_init_44 rfl (lv_at hl 1 rfl) ?_
  refine lv_iload_n hx hb dX9_init_45 rfl (lv_at hl 2 rfl) ?_
  refine fin_i hP hD hS hA [0, 5, 1, 2] [3, 4] (wr := [(q_3, .inr (4, [.int (nI 0), .ref (gE G), .int (nI 0)])), (q_6, .inr (4, [.int (nI 0), .ref (gE G), .int (nI 0)]))]) rfl rfl (by decide) (by decide) (va_runV (As := [.ref pz, .int (nI hi)]) (rest := []) ⟨hx, hb, hml, hown, hts⟩ (c_X9_next l G wy q_1 q_3 q_6 f2_9 pz gr mr cg gv hi hf2_12 (by omega) H.size) (cwV 2 hts (gV q1072 q1074 q38 q75 q1075) rfl rfl rfl (by decide +kernel) ⟨Nat.le_of_ble_eq_true rfl, Nat.le_of_ble_eq_true rfl⟩) (preV (q0 := 0) (ci := 14) hK hE hP hD hS hA [0, 5, 1, 2] rfl (by decide) rfl rfl) rfl rfl hl.1 rfl (lv_room (Nat.le_of_ble_eq_true rfl)) dX9_init_46 ⟨Nat.le_of_ble_eq_true rfl, Nat.le_of_ble_eq_true rfl⟩) (fun r_158 u9 hw_157 H locs hP hD hS => ?_)
  obtain ⟨rl_153, c9_154, v9_155, n9__156⟩ := u9
  have hcs_159 := hw_157
  have hcs_159 : r_158 = -1 ∨ (r_158 = nI (100 * rl_153 + 5 * c9_154 + v9_155) ∧ rl_153 < 4 ∧ c9_154 < 16 ∧ 1 ≤ v9_155 ∧ v9_155 ≤ 4 ∧ n9__156 < 16 ∧ f2_9 c9_154 = nI n9__156 ∧ n9__156 / pw v9_155 % 2 = 1) := hcs_159
  have hP : va_P (gD G) vwCl [(q_3, .inr (4, [.int (nI 0), .ref (gE G), .int (nI 0)])), (q_6, .inr (4, [.int (nI 0), .ref (gE G), .int (nI 0)])), (wy, .inr (14, [.ref q_1, .ref q_3, .ref q_6])), (q_1, .inl (gyI G, 16, .inl f2_9)), (pz, .inr (13, [.ref gr, .ref mr, .ref cg])), (gr, .inl (gyI G, 16, .inl gv))] H := hP
  have hD : va_D A [(q_3, .inr (4, [.int (nI 0), .ref (gE G), .int (nI 0)])), (q_6, .inr (4, [.int (nI 0), .ref (gE G), .int (nI 0)])), (wy, .inr (14, [.ref q_1, .ref q_3, .ref q_6])), (q_1, .inl (gyI G, 16, .inl f2_9)), (pz, .inr (13, [.ref gr, .ref mr, .ref cg])), (gr, .inl (gyI G, 16, .inl gv))] := hD
  rcases hcs_159 with rfl | ⟨rfl, hrl_z_160, hc9_z_160, hv1_z_160, hv4_z_160, hn9_z_160, hf9_z_160, hbit_z_160⟩
  · skip
    refine lv_istore_n (lv' := [(3, .int (-1)), (0, .ref wy), (1, .ref pz), (2, .int (nI hi))]) hx hb dX9_init_49 rfl hl (by decide) rfl (fun ls hl => ?_)
    refine lv_iload_n hx hb dX9_init_50 rfl (lv_at hl 0 rfl) ?_
    refine lv_if_lt (tgt := 153) hx hb dX9_init_51 (by decide) (fun c_161 => ?_) (fun c_161 => ?_)
    · skip
      have hP9 := hP.sub (ws' := [(wy, .inr (14, [.ref q_1, .ref q_3, .ref q_6])), (q_1, .inl (gyI G, 16, .inl f2_9)), (pz, .inr (13, [.ref gr, .ref mr, .ref cg])), (gr, .inl (gyI G, 16, .inl gv))]) [2, 3, 4, 5] rfl
      have hD9 := hD.sub (ws' := [(wy, .inr (14, [.ref q_1, .ref q_3, .ref q_6])), (q_1, .inl (gyI G, 16, .inl f2_9)), (pz, .inr (13, [.ref gr, .ref mr, .ref cg])), (gr, .inl (gyI G, 16, .inl gv))]) [2, 3, 4, 5] (by decide) rfl
      refine W.widen (k := 263) (n := 65152) (Nat.le_of_ble_eq_true rfl) (Nat.le_of_ble_eq_true rfl) ?_
      subst hQ
      exact W.vret hx hb hr (fun t ht hW => ⟨⟨(q_1, q_3, q_6, f2_9), rfl, trivial, by rw [ht]; exact hP9, hD9⟩, hS.F ht⟩) hS.2.2 dX9_init_153
    · skip
      exact absurd (by decide) c_161
  · skip
    refine lv_istore_n (lv' := [(3, .int (nI (100 * rl_153 + 5 * c9_154 + v9_155))), (0, .ref wy), (1, .ref pz), (2, .int (nI hi))]) hx hb dX9_init_49 rfl hl (by decide) rfl (fun ls hl => ?_)
    obtain ⟨T0, hT0⟩ : ∃ z : va_W, z = [] := ⟨_, rfl⟩
    have hP : va_P (gD G) vwCl ([(q_3, .inr (4, [.int (nI 0), .ref (gE G), .int (nI 0)])), (q_6, .inr (4, [.int (nI 0), .ref (gE G), .int (nI 0)])), (wy, .inr (14, [.ref q_1, .ref q_3, .ref q_6])), (q_1, .inl (gyI G, 16, .inl f2_9)), (pz, .inr (13, [.ref gr, .ref mr, .ref cg])), (gr, .inl (gyI G, 16, .inl gv))] ++ T0) H := by rw [hT0, List.append_nil]; exact hP
    have hD : va_D A ([(q_3, .inr (4, [.int (nI 0), .ref (gE G), .int (nI 0)])), (q_6, .inr (4, [.int (nI 0), .ref (gE G), .int (nI 0)])), (wy, .inr (14, [.ref q_1, .ref q_3, .ref q_6])), (q_1, .inl (gyI G, 16, .inl f2_9)), (pz, .inr (13, [.ref gr, .ref mr, .ref cg])), (gr, .inl (gyI G, 16, .inl gv))] ++ T0) := by rw [hT0, List.append_nil]; exact hD
    have hti0 : tI T0 := by rw [hT0]; exact tI.nil
    have hmu0 := mu_le f2_9
    refine lv_iload_n hx hb dX9_init_50 rfl (lv_at hl 0 rfl) ?_
    refine lv_if_lt (tgt := 153) hx hb dX9_init_51 (by decide) (fun c_162 => ?_) (fun c_162 => ?_)
    · skip
      have c_162 : (100 * rl_153 + 5 * c9_154 + v9_155) < 0 := (nI_ltI (a := 100 * rl_153 + 5 * c9_154 + v9_155) (b := 0) (by omega) (by omega)).mp c_162
      exfalso; omega
    · skip
      have c_162 : ¬ (100 * rl_153 + 5 * c9_154 + v9_155) < 0 := fun z => c_162 ((nI_ltI (a := 100 * rl_153 + 5 * c9_154 + v9_155) (b := 0) (by omega) (by omega)).mpr z)
      refine lv_iload_n hx hb dX9_init_54 rfl (lv_at hl 0 rfl) ?_
      refine lv_bipush (v := nI 100) hx hb dX9_init_55 (by decide) ?_
      refine lv_irem hx hb dX9_init_57 (nI_ne0 (by omega) (by omega)) ?_
      refine lv_toe (pk_rem (a := 100 * rl_153 + 5 * c9_154 + v9_155) (d := 100) (by omega) (by omega) (by omega)) ?_
      refine lv_iconst (v := nI 5) hx hb dX9_init_58 (by decide) ?_
      refine lv_idiv hx hb dX9_init_59 (nI_ne0 (by omega) (by omega)) ?_
      refine lv_toe (pk_div (a := (100 * rl_153 + 5 * c9_154 + v9_155) % 100) (d := 5) (by omega) (by omega) (by omega)) ?_
      refine lv_toe (show nI (((100 * rl_153 + 5 * c9_154 + v9_155) % 100) / 5) = nI (c9_154) from congrArg nI (by omega)) ?_
      refine lv_istore (lv' := [(4, .int (nI c9_154)), (3, .int (nI (100 * rl_153 + 5 * c9_154 + v9_155))), (0, .ref wy), (1, .ref pz), (2, .int (nI hi))]) hx hb dX9_init_60 hl (by decide) rfl (fun ls hl => ?_)
      refine lv_aload_n hx hb dX9_init_62 rfl (lv_at hl 2 rfl) ?_
      refine va_get (D := gD G) (ci := 14) (v := .ref q_3) (C := RX9) (T := TX9) (N := 3) hx hb hts fwX9 hown hK hP 2 rfl rfl 1 (by decide) (hts _ q1205) (fun _ h9 => h9) rfl dX9_init_63 ?_
      refine lv_iload_n hx hb dX9_init_66 rfl (lv_at hl 1 rfl) ?_
      refine fin_rT hP hD hS hA [] [0, 1, 2, 3, 4, 5] (wr := [(q_3, .inr (4, [.int (nI 0), .ref (gE G), .int (nI 0)])), (q_6, .inr (4, [.int (nI 0), .ref (gE G), .int (nI 0)])), (wy, .inr (14, [.ref q_1, .ref q_3, .ref q_6])), (q_1, .inl (gyI G, 16, .inl f2_9)), (pz, .inr (13, [.ref gr, .ref mr, .ref cg])), (gr, .inl (gyI G, 16, .inl gv))]) rfl rfl (by decide) (allLt rfl) (allLt rfl) (by decide) (va_runS (As := [.int (nI (100 * rl_153 + 5 * c9_154 + v9_155))]) (rest := [.ref q_3]) ⟨hx, hb, hml, hown, hts⟩ (c_J6_valueOf_2dffe l G (100 * rl_153 + 5 * c9_154 + v9_155) (by omega) H.size) (va_cwS 1 hts (gSt q1176 q1177 q70 q1178) rfl rfl rfl (by decide +kernel) ⟨Nat.le_of_ble_eq_true rfl, Nat.le_of_ble_eq_true rfl⟩) (preS hK hE hP hD hS hA [] rfl (by decide)) rfl rfl hl.1 rfl (lv_room (Nat.le_of_ble_eq_true rfl)) dX9_init_67 ⟨Nat.le_of_ble_eq_true rfl, Nat.le_of_ble_eq_true rfl⟩) (fun u9 r_165 hw_164 H locs hP hD hS => ?_)
      obtain ⟨T2_163, rfl⟩ : ∃ z, z = u9 := ⟨_, rfl⟩
      obtain ⟨T_166, eT_167⟩ : ∃ z : va_W, z = T2_163 ++ T0 := ⟨_, rfl⟩
      have hP : va_P (gD G) vwCl ([(q_3, .inr (4, [.int (nI 0), .ref (gE G), .int (nI 0)])), (q_6, .inr (4, [.int (nI 0), .ref (gE G), .int (nI 0)])), (wy, .inr (14, [.ref q_1, .ref q_3, .ref q_6])), (q_1, .inl (gyI G, 16, .inl f2_9)), (pz, .inr (13, [.ref gr, .ref mr, .ref cg])), (gr, .inl (gyI G, 16, .inl gv))] ++ T_166) H := by rw [eT_167, ← List.append_assoc]; exact hP
      have hD : va_D A ([(q_3, .inr (4, [.int (nI 0), .ref (gE G), .int (nI 0)])), (q_6, .inr (4, [.int (nI 0), .ref (gE G), .int (nI 0)])), (wy, .inr (14, [.ref q_1, .ref q_3, .ref q_6])), (q_1, .inl (gyI G, 16, .inl f2_9)), (pz, .inr (13, [.ref gr, .ref mr, .ref cg])), (gr, .inl (gyI G, 16, .inl gv))] ++ T_166) := by rw [eT_167, ← List.append_assoc]; exact hD
      have hti_168 : tI T_166 := by rw [eT_167]; exact tI.app hti0 hw_164
      have hok_169 : okI G T_166 r_165 := by rw [eT_167]; exact okI.new hw_164
      refine fin_i5T hP hD hS hA [0] [1, 2, 3, 4, 5] (wr := [(q_6, .inr (4, [.int (nI 0), .ref (gE G), .int (nI 0)])), (wy, .inr (14, [.ref q_1, .ref q_3, .ref q_6])), (q_1, .inl (gyI G, 16, .inl f2_9)), (pz, .inr (13, [.ref gr, .ref mr, .ref cg])), (gr, .inl (gyI G, 16, .inl gv))]) rfl rfl (by decide) (allLt rfl) (allLt rfl) (by decide) (va_runF (As := [.ref r_165]) (rest := []) (hK.1 4 _ rfl).2 ⟨hx, hb, hml, hown, hts⟩ (c_add_first l (gSet G (okI G T_166)) q_3 (nI 0) r_165 hok_169 H.size) (va_cwF 1 hts (gF q1197 q991 q469 q48 q471) rfl rfl rfl (hE.1.2.1 _ FW1) (by decide +kernel) ⟨Nat.le_of_ble_eq_true rfl, Nat.le_of_ble_eq_true rfl⟩) (preVG (okI_ob hK hE hP hD hS hA hti_168 [0] rfl) (q0 := 0) (ci := 4) hK hE hP hD hS hA [0] rfl (by decide) rfl rfl) rfl rfl hl.1 rfl (lv_room (Nat.le_of_ble_eq_true rfl)) dX9_init_70 ⟨Nat.le_of_ble_eq_true rfl, Nat.le_of_ble_eq_true rfl⟩) (fun r_174 u9 hw_173 H locs hP hD hS => ?_)
      obtain ⟨md2_170, ed2_171, f2_172⟩ := u9
      have hf2_175 := hw_173
      have hf2_175 : obR (gOB (gSet G (okI G T_166))) f2_172 := hf2_175
      have hP : va_P (gD G) vwCl ([(q_6, .inr (4, [.int (nI 0), .ref (gE G), .int (nI 0)])), (wy, .inr (14, [.ref q_1, .ref q_3, .ref q_6])), (q_1, .inl (gyI G, 16, .inl f2_9)), (pz, .inr (13, [.ref gr, .ref mr, .ref cg])), (gr, .inl (gyI G, 16, .inl gv)), (q_3, .inr (4, [.int md2_170, .ref ed2_171, .int (nI 1)])), (ed2_171, .inl (gyO G, 10, .inr (.inr (.inr (.inr f2_172)))))] ++ T_166) H := hP
      have hD : va_D A ([(q_6, .inr (4, [.int (nI 0), .ref (gE G), .int (nI 0)])), (wy, .inr (14, [.ref q_1, .ref q_3, .ref q_6])), (q_1, .inl (gyI G, 16, .inl f2_9)), (pz, .inr (13, [.ref gr, .ref mr, .ref cg])), (gr, .inl (gyI G, 16, .inl gv)), (q_3, .inr (4, [.int md2_170, .ref ed2_171, .int (nI 1)])), (ed2_171, .inl (gyO G, 10, .inr (.inr (.inr (.inr f2_172)))))] ++ T_166) := hD
      refine lv_pop hx hb dX9_init_75 rfl ?_
      refine lv_aload_n hx hb dX9_init_76 rfl (lv_at hl 2 rfl) ?_
      refine va_get (D := gD G) (ci := 14) (v := .ref q_1) (C := RX9) (T := TX9) (N := 3) hx hb hts fwX9 hown hK hP 1 rfl rfl 0 (by decide) (hts _ q1203) (fun _ h9 => h9) rfl dX9_init_77 ?_
      refine lv_iload hx hb dX9_init_80 (lv_at hl 0 rfl) ?_
      refine lv_dup2_11 hx hb dX9_init_82 rfl rfl ?_
      refine va_iald (D := gD G) (cA := gyI G) (n := 16) (f := f2_9) hx hb hK hP 2 0 rfl rfl (vp_in_nI (n := c9_154) (N := 16) (by omega) (by omega)) dX9_init_83 ?_
      obtain ⟨n_176, hn_176, en_176⟩ := hf2_12 c9_154 (by omega)
      refine lv_toe (show f2_9 (nI c9_154).toNatClampNeg = nI n_176 by rw [nI_clamp (by omega)]; exact en_176) ?_
      refine lv_toe (show nI n_176 = nI n9__156 from en_176.symm.trans hf9_z_160) ?_
      refine lv_iconst (v := nI 1) hx hb dX9_init_84 (by decide) ?_
      refine lv_iload_n hx hb dX9_init_85 rfl (lv_at hl 1 rfl) ?_
      refine lv_bipush (v := nI 100) hx hb dX9_init_86 (by decide) ?_
      refine lv_irem hx hb dX9_init_88 (nI_ne0 (by omega) (by omega)) ?_
      refine lv_toe (pk_rem (a := 100 * rl_153 + 5 * c9_154 + v9_155) (d := 100) (by omega) (by omega) (by omega)) ?_
      refine lv_iconst (v := nI 5) hx hb dX9_init_89 (by decide) ?_
      refine lv_iload hx hb dX9_init_90 (lv_at hl 0 rfl) ?_
      refine lv_imul hx hb dX9_init_92 ?_
      refine lv_toe (pk_mul 5 c9_154) ?_
      refine lv_isub hx hb dX9_init_93 ?_
      refine lv_toe (pk_sub (a := (100 * rl_153 + 5 * c9_154 + v9_155) % 100) (b := 5 * c9_154) (by omega)) ?_
      refine lv_iconst (v := nI 1) hx hb dX9_init_94 (by decide) ?_
      refine lv_isub hx hb dX9_init_95 ?_
      refine lv_toe (pk_sub (a := (100 * rl_153 + 5 * c9_154 + v9_155) % 100 - (5 * c9_154)) (b := 1) (by omega)) ?_
      refine lv_toe (show nI ((100 * rl_153 + 5 * c9_154 + v9_155) % 100 - (5 * c9_154) - 1) = nI (v9_155 - 1) from congrArg nI (by omega)) ?_
      refine lv_ishl hx hb dX9_init_96 ?_
      refine lv_iconst (v := -1) hx hb dX9_init_97 (by decide) ?_
      refine lv_ixor hx hb dX9_init_98 ?_
      refine lv_iand hx hb dX9_init_99 ?_
      refine lv_toe (clr n9__156 (by omega) v9_155 (by omega) (by omega) hbit_z_160).1 ?_
      refine va_iast (D := gD G) (cA := gyI G) (n := 16) (f := f2_9) hx hb hK hP hD hS 2 0 rfl rfl (vp_in_nI (n := c9_154) (N := 16) (by omega) (by omega)) dX9_init_100 (fun H locs hP hD hS => ?_)
      have hmu_178 : mu (upd f2_9 (nI c9_154).toNatClampNeg (nI (n9__156 - pw v9_155))) < mu f2_9 := by rw [nI_clamp (by omega)]; exact mu_upd (by omega) hf9_z_160 (by omega) (by omega) (clr n9__156 (by omega) v9_155 (by omega) (by omega) hbit_z_160).2
      have hb_179 : inB 16 16 (upd f2_9 (nI c9_154).toNatClampNeg (nI (n9__156 - pw v9_155))) := hf2_12.upd (n := n9__156 - pw v9_155) (by omega) rfl
      generalize upd f2_9 (nI c9_154).toNatClampNeg (nI (n9__156 - pw v9_155)) = f_177 at hP hD hb_179 hmu_178
      have hP : va_P (gD G) vwCl ([(q_6, .inr (4, [.int (nI 0), .ref (gE G), .int (nI 0)])), (wy, .inr (14, [.ref q_1, .ref q_3, .ref q_6])), (q_1, .inl (gyI G, 16, .inl f_177)), (pz, .inr (13, [.ref gr, .ref mr, .ref cg])), (gr, .inl (gyI G, 16, .inl gv)), (q_3, .inr (4, [.int md2_170, .ref ed2_171, .int (nI 1)])), (ed2_171, .inl (gyO G, 10, .inr (.inr (.inr (.inr f2_172)))))] ++ T_166) H := hP
      have hD : va_D A ([(q_6, .inr (4, [.int (nI 0), .ref (gE G), .int (nI 0)])), (wy, .inr (14, [.ref q_1, .ref q_3, .ref q_6])), (q_1, .inl (gyI G, 16, .inl f_177)), (pz, .inr (13, [.ref gr, .ref mr, .ref cg])), (gr, .inl (gyI G, 16, .inl gv)), (q_3, .inr (4, [.int md2_170, .ref ed2_171, .int (nI 1)])), (ed2_171, .inl (gyO G, 10, .inr (.inr (.inr (.inr f2_172)))))] ++ T_166) := hD
      refine lv_aload_n hx hb dX9_init_101 rfl (lv_at hl 2 rfl) ?_
      refine va_get (D := gD G) (ci := 14) (v := .ref q_1) (C := RX9) (T := TX9) (N := 3) hx hb hts fwX9 hown hK hP 1 rfl rfl 0 (by decide) (hts _ q1203) (fun _ h9 => h9) rfl dX9_init_102 ?_
      refine lv_iload hx hb dX9_init_105 (lv_at hl 0 rfl) ?_
      refine va_iald (D := gD G) (cA := gyI G) (n := 16) (f := f_177) hx hb hK hP 2 0 rfl rfl (vp_in_nI (n := c9_154) (N := 16) (by omega) (by omega)) dX9_init_107 ?_
      obtain ⟨n_180, hn_180, en_180⟩ := hb_179 c9_154 (by omega)
      refine lv_toe (show f_177 (nI c9_154).toNatClampNeg = nI n_180 by rw [nI_clamp (by omega)]; exact en_180) ?_
      refine fin_iT hP hD hS hA [] [0, 1, 2, 3, 4, 5, 6] (wr := [(q_6, .inr (4, [.int (nI 0), .ref (gE G), .int (nI 0)])), (wy, .inr (14, [.ref q_1, .ref q_3, .ref q_6])), (q_1, .inl (gyI G, 16, .inl f_177)), (pz, .inr (13, [.ref gr, .ref mr, .ref cg])), (gr, .inl (gyI G, 16, .inl gv)), (q_3, .inr (4, [.int md2_170, .ref ed2_171, .int (nI 1)])), (ed2_171, .inl (gyO G, 10, .inr (.inr (.inr (.inr f2_172)))))]) rfl rfl (by decide) (allLt rfl) (allLt rfl) (by decide) (va_runS (As := [.int (nI n_180)]) (rest := []) ⟨hx, hb, hml, hown, hts⟩ (c_J6_bitCount_0f7a4 l G (nI n_180) H.size) (va_cwS 1 hts (gSt q1198 q277 q70 q278) rfl rfl rfl (by decide +kernel) ⟨Nat.le_of_ble_eq_true rfl, Nat.le_of_ble_eq_true rfl⟩) (preS hK hE hP hD hS hA [] rfl (by decide)) rfl rfl hl.1 rfl (lv_room (Nat.le_of_ble_eq_true rfl)) dX9_init_108 ⟨Nat.le_of_ble_eq_true rfl, Nat.le_of_ble_eq_true rfl⟩) (fun r_182 u9 hw_181 H locs hP hD hS => ?_)
      have hP : va_P (gD G) vwCl ([(q_6, .inr (4, [.int (nI 0), .ref (gE G), .int (nI 0)])), (wy, .inr (14, [.ref q_1, .ref q_3, .ref q_6])), (q_1, .inl (gyI G, 16, .inl f_177)), (pz, .inr (13, [.ref gr, .ref mr, .ref cg])), (gr, .inl (gyI G, 16, .inl gv)), (q_3, .inr (4, [.int md2_170, .ref ed2_171, .int (nI 1)])), (ed2_171, .inl (gyO G, 10, .inr (.inr (.inr (.inr f2_172)))))] ++ T_166) H := hP
      have hD : va_D A ([(q_6, .inr (4, [.int (nI 0), .ref (gE G), .int (nI 0)])), (wy, .inr (14, [.ref q_1, .ref q_3, .ref q_6])), (q_1, .inl (gyI G, 16, .inl f_177)), (pz, .inr (13, [.ref gr, .ref mr, .ref cg])), (gr, .inl (gyI G, 16, .inl gv)), (q_3, .inr (4, [.int md2_170, .ref ed2_171, .int (nI 1)])), (ed2_171, .inl (gyO G, 10, .inr (.inr (.inr (.inr f2_172)))))] ++ T_166) := hD
      refine lv_iconst (v := nI 1) hx hb dX9_init_111 (by decide) ?_
      refine lv_icmp_ne (tgt := 130) hx hb dX9_init_112 (by decide) (fun c_183 => ?_) (fun c_183 => ?_)
      · skip
        refine lv_aload_n hx hb dX9_init_130 rfl (lv_at hl 2 rfl) ?_
        refine fin_iT hP hD hS hA [1, 2] [0, 3, 4, 5, 6] (wr := [(q_6, .inr (4, [.int (nI 0), .ref (gE G), .int (nI 0)])), (pz, .inr (13, [.ref gr, .ref mr, .ref cg])), (gr, .inl (gyI G, 16, .inl gv)), (q_3, .inr (4, [.int md2_170, .ref ed2_171, .int (nI 1)])), (ed2_171, .inl (gyO G, 10, .inr (.inr (.inr (.inr f2_172)))))]) rfl rfl (by decide) (allLt rfl) (allLt rfl) (by decide) (va_runV (As := []) (rest := []) ⟨hx, hb, hml, hown, hts⟩ (c_X9_state l G wy q_1 q_3 q_6 f_177 H.size) (cwV 0 hts (gV q1199 q1200 q1201 q75 q1202) rfl rfl rfl (by decide +kernel) ⟨Nat.le_of_ble_eq_true rfl, Nat.le_of_ble_eq_true rfl⟩) (preV (q0 := 1) (ci := 14) hK hE hP hD hS hA [1, 2] rfl (by decide) rfl rfl) rfl rfl hl.1 rfl (lv_room (Nat.le_of_ble_eq_true rfl)) dX9_init_131 ⟨Nat.le_of_ble_eq_true rfl, Nat.le_of_ble_eq_true rfl⟩) (fun r_185 u9 hw_184 H locs hP hD hS => ?_)
        have hP : va_P (gD G) vwCl ([(q_6, .inr (4, [.int (nI 0), .ref (gE G), .int (nI 0)])), (pz, .inr (13, [.ref gr, .ref mr, .ref cg])), (gr, .inl (gyI G, 16, .inl gv)), (q_3, .inr (4, [.int md2_170, .ref ed2_171, .int (nI 1)])), (ed2_171, .inl (gyO G, 10, .inr (.inr (.inr (.inr f2_172))))), (wy, .inr (14, [.ref q_1, .ref q_3, .ref q_6])), (q_1, .inl (gyI G, 16, .inl f_177))] ++ T_166) H := hP
        have hD : va_D A ([(q_6, .inr (4, [.int (nI 0), .ref (gE G), .int (nI 0)])), (pz, .inr (13, [.ref gr, .ref mr, .ref cg])), (gr, .inl (gyI G, 16, .inl gv)), (q_3, .inr (4, [.int md2_170, .ref ed2_171, .int (nI 1)])), (ed2_171, .inl (gyO G, 10, .inr (.inr (.inr (.inr f2_172))))), (wy, .inr (14, [.ref q_1, .ref q_3, .ref q_6])), (q_1, .inl (gyI G, 16, .inl f_177))] ++ T_166) := hD
        refine lv_bipush (v := nI 98) hx hb dX9_init_134 (by decide) ?_
        refine lv_icmp_ne (tgt := 143) hx hb dX9_init_136 (by decide) (fun c_186 => ?_) (fun c_186 => ?_)
        · skip
          refine lv_aload_n hx hb dX9_init_143 rfl (lv_at hl 2 rfl) ?_
          refine lv_aload_n hx hb dX9_init_144 rfl (lv_at hl 3 rfl) ?_
          refine lv_iload_n hx hb dX9_init_145 rfl (lv_at hl 4 rfl) ?_
          refine fin_iT hP hD hS hA [5, 6, 1, 2] [0, 3, 4] (wr := [(q_6, .inr (4, [.int (nI 0), .ref (gE G), .int (nI 0)])), (q_3, .inr (4, [.int md2_170, .ref ed2_171, .int (nI 1)])), (ed2_171, .inl (gyO G, 10, .inr (.inr (.inr (.inr f2_172)))))]) rfl rfl (by decide) (allLt rfl) (allLt rfl) (by decide) (va_runV (As := [.ref pz, .int (nI hi)]) (rest := []) ⟨hx, hb, hml, hown, hts⟩ (c_X9_next l G wy q_1 q_3 q_6 f_177 pz gr mr cg gv hi hb_179 (by omega) H.size) (cwV 2 hts (gV q1072 q1074 q38 q75 q1075) rfl rfl rfl (by decide +kernel) ⟨Nat.le_of_ble_eq_true rfl, Nat.le_of_ble_eq_true rfl⟩) (preV (q0 := 5) (ci := 14) hK hE hP hD hS hA [5, 6, 1, 2] rfl (by decide) rfl rfl) rfl rfl hl.1 rfl (lv_room (Nat.le_of_ble_eq_true rfl)) dX9_init_146 ⟨Nat.le_of_ble_eq_true rfl, Nat.le_of_ble_eq_true rfl⟩) (fun r_192 u9 hw_191 H locs hP hD hS => ?_)
          obtain ⟨rl_187, c9_188, v9_189, n9__190⟩ := u9
          have hcs_193 := hw_191
          have hcs_193 : r_192 = -1 ∨ (r_192 = nI (100 * rl_187 + 5 * c9_188 + v9_189) ∧ rl_187 < 4 ∧ c9_188 < 16 ∧ 1 ≤ v9_189 ∧ v9_189 ≤ 4 ∧ n9__190 < 16 ∧ f_177 c9_188 = nI n9__190 ∧ n9__190 / pw v9_189 % 2 = 1) := hcs_193
          have hP : va_P (gD G) vwCl ([(q_6, .inr (4, [.int (nI 0), .ref (gE G), .int (nI 0)])), (q_3, .inr (4, [.int md2_170, .ref ed2_171, .int (nI 1)])), (ed2_171, .inl (gyO G, 10, .inr (.inr (.inr (.inr f2_172))))), (wy, .inr (14, [.ref q_1, .ref q_3, .ref q_6])), (q_1, .inl (gyI G, 16, .inl f_177)), (pz, .inr (13, [.ref gr, .ref mr, .ref cg])), (gr, .inl (gyI G, 16, .inl gv))] ++ T_166) H := hP
          have hD : va_D A ([(q_6, .inr (4, [.int (nI 0), .ref (gE G), .int (nI 0)])), (q_3, .inr (4, [.int md2_170, .ref ed2_171, .int (nI 1)])), (ed2_171, .inl (gyO G, 10, .inr (.inr (.inr (.inr f2_172))))), (wy, .inr (14, [.ref q_1, .ref q_3, .ref q_6])), (q_1, .inl (gyI G, 16, .inl f_177)), (pz, .inr (13, [.ref gr, .ref mr, .ref cg])), (gr, .inl (gyI G, 16, .inl gv))] ++ T_166) := hD
          rcases hcs_193 with rfl | ⟨rfl, hrl_z_194, hc9_z_194, hv1_z_194, hv4_z_194, hn9_z_194, hf9_z_194, hbit_z_194⟩
          · skip
            refine lv_istore_n (lv' := [(3, .int (-1)), (4, .int (nI c9_154)), (0, .ref wy), (1, .ref pz), (2, .int (nI hi))]) hx hb dX9_init_149 rfl hl (by decide) rfl (fun ls hl => ?_)
            refine lv_goto (tgt := 50) hx hb dX9_init_150 (by decide) ?_
            refine lv_iload_n hx hb dX9_init_50 rfl (lv_at hl 0 rfl) ?_
            refine lv_if_lt (tgt := 153) hx hb dX9_init_51 (by decide) (fun c_195 => ?_) (fun c_195 => ?_)
            · skip
              have hP9 := hP.split.1.sub (ws' := [(wy, .inr (14, [.ref q_1, .ref q_3, .ref q_6])), (q_1, .inl (gyI G, 16, .inl f_177)), (pz, .inr (13, [.ref gr, .ref mr, .ref cg])), (gr, .inl (gyI G, 16, .inl gv))]) [3, 4, 5, 6] rfl
              have hD9 := hD.split.1.sub (ws' := [(wy, .inr (14, [.ref q_1, .ref q_3, .ref q_6])), (q_1, .inl (gyI G, 16, .inl f_177)), (pz, .inr (13, [.ref gr, .ref mr, .ref cg])), (gr, .inl (gyI G, 16, .inl gv))]) [3, 4, 5, 6] (by decide) rfl
              refine W.widen (k := 263) (n := 65152) (Nat.le_of_ble_eq_true rfl) (Nat.le_of_ble_eq_true rfl) ?_
              subst hQ
              exact W.vret hx hb hr (fun t ht hW => ⟨⟨(q_1, q_3, q_6, f_177), rfl, trivial, by rw [ht]; exact hP9, hD9⟩, hS.F ht⟩) hS.2.2 dX9_init_153
            · skip
              exact absurd (by decide) c_195
          · skip
            refine lv_istore_n (lv' := [(3, .int (nI (100 * rl_187 + 5 * c9_188 + v9_189))), (4, .int (nI c9_154)), (0, .ref wy), (1, .ref pz), (2, .int (nI hi))]) hx hb dX9_init_149 rfl hl (by decide) rfl (fun ls hl => ?_)
            refine lv_goto (tgt := 50) hx hb dX9_init_150 (by decide) ?_
            refine W.widen (k := 3 + 4 * 1) (n := 22 + 1002 * 1) (Nat.le_of_ble_eq_true rfl) (Nat.le_of_ble_eq_true rfl) ?_
            exact cut_50_2 (mu f_177 + 1) rl_187 c9_188 v9_189 n9__190 f_177 1 T_166 md2_170 ed2_171 1 10 f2_172 (by omega) (by omega) (by omega) (by omega) (by omega) hb_179 hf9_z_194 hbit_z_194 (by omega) hti_168 (by omega) (by omega) (by omega) (by omega) hf2_175 (Nat.lt_succ_self _) _ _ (subPT hP [3, 4, 5, 6, 1, 2, 0] rfl) (subDT hD [3, 4, 5, 6, 1, 2, 0] (by decide) rfl) hS ls (lv_sub hl [2, 3, 4, 0] rfl)
        · skip
          refine lv_iconst (v := -1) hx hb dX9_init_139 (by decide) ?_
          refine lv_goto (tgt := 149) hx hb dX9_init_140 (by decide) ?_
          refine lv_istore_n (lv' := [(3, .int (-1)), (4, .int (nI c9_154)), (0, .ref wy), (1, .ref pz), (2, .int (nI hi))]) hx hb dX9_init_149 rfl hl (by decide) rfl (fun ls hl => ?_)
          refine lv_goto (tgt := 50) hx hb dX9_init_150 (by decide) ?_
          refine lv_iload_n hx hb dX9_init_50 rfl (lv_at hl 0 rfl) ?_
          refine lv_if_lt (tgt := 153) hx hb dX9_init_51 (by decide) (fun c_196 => ?_) (fun c_196 => ?_)
          · skip
            have hP9 := hP.split.1.sub (ws' := [(wy, .inr (14, [.ref q_1, .ref q_3, .ref q_6])), (q_1, .inl (gyI G, 16, .inl f_177)), (pz, .inr (13, [.ref gr, .ref mr, .ref cg])), (gr, .inl (gyI G, 16, .inl gv))]) [5, 6, 1, 2] rfl
            have hD9 := hD.split.1.sub (ws' := [(wy, .inr (14, [.ref q_1, .ref q_3, .ref q_6])), (q_1, .inl (gyI G, 16, .inl f_177)), (pz, .inr (13, [.ref gr, .ref mr, .ref cg])), (gr, .inl (gyI G, 16, .inl gv))]) [5, 6, 1, 2] (by decide) rfl
            refine W.widen (k := 263) (n := 65152) (Nat.le_of_ble_eq_true rfl) (Nat.le_of_ble_eq_true rfl) ?_
            subst hQ
            exact W.vret hx hb hr (fun t ht hW => ⟨⟨(q_1, q_3, q_6, f_177), rfl, trivial, by rw [ht]; exact hP9, hD9⟩, hS.F ht⟩) hS.2.2 dX9_init_153
          · skip
            exact absurd (by decide) c_196
      · skip
        refine lv_aload_n hx hb dX9_init_115 rfl (lv_at hl 2 rfl) ?_
        refine va_get (D := gD G) (ci := 14) (v := .ref q_6) (C := RX9) (T := TX9) (N := 3) hx hb hts fwX9 hown hK hP 1 rfl rfl 2 (by decide) (hts _ q1207) (fun _ h9 => h9) rfl dX9_init_116 ?_
        refine lv_iload hx hb dX9_init_119 (lv_at hl 0 rfl) ?_
        refine fin_rT hP hD hS hA [] [0, 1, 2, 3, 4, 5, 6] (wr := [(q_6, .inr (4, [.int (nI 0), .ref (gE G), .int (nI 0)])), (wy, .inr (14, [.ref q_1, .ref q_3, .ref q_6])), (q_1, .inl (gyI G, 16, .inl f_177)), (pz, .inr (13, [.ref gr, .ref mr, .ref cg])), (gr, .inl (gyI G, 16, .inl gv)), (q_3, .inr (4, [.int md2_170, .ref ed2_171, .int (nI 1)])), (ed2_171, .inl (gyO G, 10, .inr (.inr (.inr (.inr f2_172)))))]) rfl rfl (by decide) (allLt rfl) (allLt rfl) (by decide) (va_runS (As := [.int (nI c9_154)]) (rest := [.ref q_6]) ⟨hx, hb, hml, hown, hts⟩ (c_J6_valueOf_2dffe l G c9_154 (by omega) H.size) (va_cwS 1 hts (gSt q1176 q1177 q70 q1178) rfl rfl rfl (by decide +kernel) ⟨Nat.le_of_ble_eq_true rfl, Nat.le_of_ble_eq_true rfl⟩) (preS hK hE hP hD hS hA [] rfl (by decide)) rfl rfl hl.1 rfl (lv_room (Nat.le_of_ble_eq_true rfl)) dX9_init_121 ⟨Nat.le_of_ble_eq_true rfl, Nat.le_of_ble_eq_true rfl⟩) (fun u9 r_199 hw_198 H locs hP hD hS => ?_)
        obtain ⟨T2_197, rfl⟩ : ∃ z, z = u9 := ⟨_, rfl⟩
        obtain ⟨T_200, eT_201⟩ : ∃ z : va_W, z = T2_197 ++ T_166 := ⟨_, rfl⟩
        have hP : va_P (gD G) vwCl ([(q_6, .inr (4, [.int (nI 0), .ref (gE G), .int (nI 0)])), (wy, .inr (14, [.ref q_1, .ref q_3, .ref q_6])), (q_1, .inl (gyI G, 16, .inl f_177)), (pz, .inr (13, [.ref gr, .ref mr, .ref cg])), (gr, .inl (gyI G, 16, .inl gv)), (q_3, .inr (4, [.int md2_170, .ref ed2_171, .int (nI 1)])), (ed2_171, .inl (gyO G, 10, .inr (.inr (.inr (.inr f2_172)))))] ++ T_200) H := by rw [eT_201, ← List.append_assoc]; exact hP
        have hD : va_D A ([(q_6, .inr (4, [.int (nI 0), .ref (gE G), .int (nI 0)])), (wy, .inr (14, [.ref q_1, .ref q_3, .ref q_6])), (q_1, .inl (gyI G, 16, .inl f_177)), (pz, .inr (13, [.ref gr, .ref mr, .ref cg])), (gr, .inl (gyI G, 16, .inl gv)), (q_3, .inr (4, [.int md2_170, .ref ed2_171, .int (nI 1)])), (ed2_171, .inl (gyO G, 10, .inr (.inr (.inr (.inr f2_172)))))] ++ T_200) := by rw [eT_201, ← List.append_assoc]; exact hD
        have hti_202 : tI T_200 := by rw [eT_201]; exact tI.app hti_168 hw_198
        have hok_203 : okI G T_200 r_199 := by rw [eT_201]; exact okI.new hw_198
        have hb_204 : obR (okI G T_200) f2_172 := by rw [eT_201]; exact obR.old hw_198 hf2_175
        refine fin_i5T hP hD hS hA [0] [1, 2, 3, 4, 5, 6] (wr := [(wy, .inr (14, [.ref q_1, .ref q_3, .ref q_6])), (q_1, .inl (gyI G, 16, .inl f_177)), (pz, .inr (13, [.ref gr, .ref mr, .ref cg])), (gr, .inl (gyI G, 16, .inl gv)), (q_3, .inr (4, [.int md2_170, .ref ed2_171, .int (nI 1)])), (ed2_171, .inl (gyO G, 10, .inr (.inr (.inr (.inr f2_172)))))]) rfl rfl (by decide) (allLt rfl) (allLt rfl) (by decide) (va_runF (As := [.ref r_199]) (rest := []) (hK.1 4 _ rfl).2 ⟨hx, hb, hml, hown, hts⟩ (c_add_first l (gSet G (okI G T_200)) q_6 (nI 0) r_199 hok_203 H.size) (va_cwF 1 hts (gF q1197 q991 q469 q48 q471) rfl rfl rfl (hE.1.2.1 _ FW1) (by decide +kernel) ⟨Nat.le_of_ble_eq_true rfl, Nat.le_of_ble_eq_true rfl⟩) (preVG (okI_ob hK hE hP hD hS hA hti_202 [0] rfl) (q0 := 0) (ci := 4) hK hE hP hD hS hA [0] rfl (by decide) rfl rfl) rfl rfl hl.1 rfl (lv_room (Nat.le_of_ble_eq_true rfl)) dX9_init_124 ⟨Nat.le_of_ble_eq_true rfl, Nat.le_of_ble_eq_true rfl⟩) (fun r_209 u9 hw_208 H locs hP hD hS => ?_)
        obtain ⟨md2_205, ed2_206, f2_207⟩ := u9
        have hf2_210 := hw_208
        have hf2_210 : obR (gOB (gSet G (okI G T_200))) f2_207 := hf2_210
        have hP : va_P (gD G) vwCl ([(wy, .inr (14, [.ref q_1, .ref q_3, .ref q_6])), (q_1, .inl (gyI G, 16, .inl f_177)), (pz, .inr (13, [.ref gr, .ref mr, .ref cg])), (gr, .inl (gyI G, 16, .inl gv)), (q_3, .inr (4, [.int md2_170, .ref ed2_171, .int (nI 1)])), (ed2_171, .inl (gyO G, 10, .inr (.inr (.inr (.inr f2_172))))), (q_6, .inr (4, [.int md2_205, .ref ed2_206, .int (nI 1)])), (ed2_206, .inl (gyO G, 10, .inr (.inr (.inr (.inr f2_207)))))] ++ T_200) H := hP
        have hD : va_D A ([(wy, .inr (14, [.ref q_1, .ref q_3, .ref q_6])), (q_1, .inl (gyI G, 16, .inl f_177)), (pz, .inr (13, [.ref gr, .ref mr, .ref cg])), (gr, .inl (gyI G, 16, .inl gv)), (q_3, .inr (4, [.int md2_170, .ref ed2_171, .int (nI 1)])), (ed2_171, .inl (gyO G, 10, .inr (.inr (.inr (.inr f2_172))))), (q_6, .inr (4, [.int md2_205, .ref ed2_206, .int (nI 1)])), (ed2_206, .inl (gyO G, 10, .inr (.inr (.inr (.inr f2_207)))))] ++ T_200) := hD
        refine lv_pop hx hb dX9_init_129 rfl ?_
        refine lv_aload_n hx hb dX9_init_130 rfl (lv_at hl 2 rfl) ?_
        refine fin_iT hP hD hS hA [0, 1] [2, 3, 4, 5, 6, 7] (wr := [(pz, .inr (13, [.ref gr, .ref mr, .ref cg])), (gr, .inl (gyI G, 16, .inl gv)), (q_3, .inr (4, [.int md2_170, .ref ed2_171, .int (nI 1)])), (ed2_171, .inl (gyO G, 10, .inr (.inr (.inr (.inr f2_172))))), (q_6, .inr (4, [.int md2_205, .ref ed2_206, .int (nI 1)])), (ed2_206, .inl (gyO G, 10, .inr (.inr (.inr (.inr f2_207)))))]) rfl rfl (by decide) (allLt rfl) (allLt rfl) (by decide) (va_runV (As := []) (rest := []) ⟨hx, hb, hml, hown, hts⟩ (c_X9_state l G wy q_1 q_3 q_6 f_177 H.size) (cwV 0 hts (gV q1199 q1200 q1201 q75 q1202) rfl rfl rfl (by decide +kernel) ⟨Nat.le_of_ble_eq_true rfl, Nat.le_of_ble_eq_true rfl⟩) (preV (q0 := 0) (ci := 14) hK hE hP hD hS hA [0, 1] rfl (by decide) rfl rfl) rfl rfl hl.1 rfl (lv_room (Nat.le_of_ble_eq_true rfl)) dX9_init_131 ⟨Nat.le_of_ble_eq_true rfl, Nat.le_of_ble_eq_true rfl⟩) (fun r_212 u9 hw_211 H locs hP hD hS => ?_)
        have hP : va_P (gD G) vwCl ([(pz, .inr (13, [.ref gr, .ref mr, .ref cg])), (gr, .inl (gyI G, 16, .inl gv)), (q_3, .inr (4, [.int md2_170, .ref ed2_171, .int (nI 1)])), (ed2_171, .inl (gyO G, 10, .inr (.inr (.inr (.inr f2_172))))), (q_6, .inr (4, [.int md2_205, .ref ed2_206, .int (nI 1)])), (ed2_206, .inl (gyO G, 10, .inr (.inr (.inr (.inr f2_207))))), (wy, .inr (14, [.ref q_1, .ref q_3, .ref q_6])), (q_1, .inl (gyI G, 16, .inl f_177))] ++ T_200) H := hP
        have hD : va_D A ([(pz, .inr (13, [.ref gr, .ref mr, .ref cg])), (gr, .inl (gyI G, 16, .inl gv)), (q_3, .inr (4, [.int md2_170, .ref ed2_171, .int (nI 1)])), (ed2_171, .inl (gyO G, 10, .inr (.inr (.inr (.inr f2_172))))), (q_6, .inr (4, [.int md2_205, .ref ed2_206, .int (nI 1)])), (ed2_206, .inl (gyO G, 10, .inr (.inr (.inr (.inr f2_207))))), (wy, .inr (14, [.ref q_1, .ref q_3, .ref q_6])), (q_1, .inl (gyI G, 16, .inl f_177))] ++ T_200) := hD
        refine lv_bipush (v := nI 98) hx hb dX9_init_134 (by decide) ?_
        refine lv_icmp_ne (tgt := 143) hx hb dX9_init_136 (by decide) (fun c_213 => ?_) (fun c_213 => ?_)
        · skip
          refine lv_aload_n hx hb dX9_init_143 rfl (lv_at hl 2 rfl) ?_
          refine lv_aload_n hx hb dX9_init_144 rfl (lv_at hl 3 rfl) ?_
          refine lv_iload_n hx hb dX9_init_145 rfl (lv_at hl 4 rfl) ?_
          refine fin_iT hP hD hS hA [6, 7, 0, 1] [2, 3, 4, 5] (wr := [(q_3, .inr (4, [.int md2_170, .ref ed2_171, .int (nI 1)])), (ed2_171, .inl (gyO G, 10, .inr (.inr (.inr (.inr f2_172))))), (q_6, .inr (4, [.int md2_205, .ref ed2_206, .int (nI 1)])), (ed2_206, .inl (gyO G, 10, .inr (.inr (.inr (.inr f2_207)))))]) rfl rfl (by decide) (allLt rfl) (allLt rfl) (by decide) (va_runV (As := [.ref pz, .int (nI hi)]) (rest := []) ⟨hx, hb, hml, hown, hts⟩ (c_X9_next l G wy q_1 q_3 q_6 f_177 pz gr mr cg gv hi hb_179 (by omega) H.size) (cwV 2 hts (gV q1072 q1074 q38 q75 q1075) rfl rfl rfl (by decide +kernel) ⟨Nat.le_of_ble_eq_true rfl, Nat.le_of_ble_eq_true rfl⟩) (preV (q0 := 6) (ci := 14) hK hE hP hD hS hA [6, 7, 0, 1] rfl (by decide) rfl rfl) rfl rfl hl.1 rfl (lv_room (Nat.le_of_ble_eq_true rfl)) dX9_init_146 ⟨Nat.le_of_ble_eq_true rfl, Nat.le_of_ble_eq_true rfl⟩) (fun r_219 u9 hw_218 H locs hP hD hS => ?_)
          obtain ⟨rl_214, c9_215, v9_216, n9__217⟩ := u9
          have hcs_220 := hw_218
          have hcs_220 : r_219 = -1 ∨ (r_219 = nI (100 * rl_214 + 5 * c9_215 + v9_216) ∧ rl_214 < 4 ∧ c9_215 < 16 ∧ 1 ≤ v9_216 ∧ v9_216 ≤ 4 ∧ n9__217 < 16 ∧ f_177 c9_215 = nI n9__217 ∧ n9__217 / pw v9_216 % 2 = 1) := hcs_220
          have hP : va_P (gD G) vwCl ([(q_3, .inr (4, [.int md2_170, .ref ed2_171, .int (nI 1)])), (ed2_171, .inl (gyO G, 10, .inr (.inr (.inr (.inr f2_172))))), (q_6, .inr (4, [.int md2_205, .ref ed2_206, .int (nI 1)])), (ed2_206, .inl (gyO G, 10, .inr (.inr (.inr (.inr f2_207))))), (wy, .inr (14, [.ref q_1, .ref q_3, .ref q_6])), (q_1, .inl (gyI G, 16, .inl f_177)), (pz, .inr (13, [.ref gr, .ref mr, .ref cg])), (gr, .inl (gyI G, 16, .inl gv))] ++ T_200) H := hP
          have hD : va_D A ([(q_3, .inr (4, [.int md2_170, .ref ed2_171, .int (nI 1)])), (ed2_171, .inl (gyO G, 10, .inr (.inr (.inr (.inr f2_172))))), (q_6, .inr (4, [.int md2_205, .ref ed2_206, .int (nI 1)])), (ed2_206, .inl (gyO G, 10, .inr (.inr (.inr (.inr f2_207))))), (wy, .inr (14, [.ref q_1, .ref q_3, .ref q_6])), (q_1, .inl (gyI G, 16, .inl f_177)), (pz, .inr (13, [.ref gr, .ref mr, .ref cg])), (gr, .inl (gyI G, 16, .inl gv))] ++ T_200) := hD
          rcases hcs_220 with rfl | ⟨rfl, hrl_z_221, hc9_z_221, hv1_z_221, hv4_z_221, hn9_z_221, hf9_z_221, hbit_z_221⟩
          · skip
            refine lv_istore_n (lv' := [(3, .int (-1)), (4, .int (nI c9_154)), (0, .ref wy), (1, .ref pz), (2, .int (nI hi))]) hx hb dX9_init_149 rfl hl (by decide) rfl (fun ls hl => ?_)
            refine lv_goto (tgt := 50) hx hb dX9_init_150 (by decide) ?_
            refine lv_iload_n hx hb dX9_init_50 rfl (lv_at hl 0 rfl) ?_
            refine lv_if_lt (tgt := 153) hx hb dX9_init_51 (by decide) (fun c_222 => ?_) (fun c_222 => ?_)
            · skip
              have hP9 := hP.split.1.sub (ws' := [(wy, .inr (14, [.ref q_1, .ref q_3, .ref q_6])), (q_1, .inl (gyI G, 16, .inl f_177)), (pz, .inr (13, [.ref gr, .ref mr, .ref cg])), (gr, .inl (gyI G, 16, .inl gv))]) [4, 5, 6, 7] rfl
              have hD9 := hD.split.1.sub (ws' := [(wy, .inr (14, [.ref q_1, .ref q_3, .ref q_6])), (q_1, .inl (gyI G, 16, .inl f_177)), (pz, .inr (13, [.ref gr, .ref mr, .ref cg])), (gr, .inl (gyI G, 16, .inl gv))]) [4, 5, 6, 7] (by decide) rfl
              refine W.widen (k := 263) (n := 65152) (Nat.le_of_ble_eq_true rfl) (Nat.le_of_ble_eq_true rfl) ?_
              subst hQ
              exact W.vret hx hb hr (fun t ht hW => ⟨⟨(q_1, q_3, q_6, f_177), rfl, trivial, by rw [ht]; exact hP9, hD9⟩, hS.F ht⟩) hS.2.2 dX9_init_153
            · skip
              exact absurd (by decide) c_222
          · skip
            refine lv_istore_n (lv' := [(3, .int (nI (100 * rl_214 + 5 * c9_215 + v9_216))), (4, .int (nI c9_154)), (0, .ref wy), (1, .ref pz), (2, .int (nI hi))]) hx hb dX9_init_149 rfl hl (by decide) rfl (fun ls hl => ?_)
            refine lv_goto (tgt := 50) hx hb dX9_init_150 (by decide) ?_
            refine W.widen (k := 3 + 4 * 1) (n := 22 + 1002 * 1) (Nat.le_of_ble_eq_true rfl) (Nat.le_of_ble_eq_true rfl) ?_
            exact cut_50_1 (mu f_177 + 1) rl_214 c9_215 v9_216 n9__217 f_177 1 T_200 md2_170 ed2_171 1 10 f2_172 md2_205 ed2_206 1 10 f2_207 (by omega) (by omega) (by omega) (by omega) (by omega) hb_179 hf9_z_221 hbit_z_221 (by omega) hti_202 (by omega) (by omega) (by omega) (by omega) hb_204 (by omega) (by omega) (by omega) (by omega) hf2_210 (Nat.lt_succ_self _) _ _ (subPT hP [4, 5, 6, 7, 0, 1, 2, 3] rfl) (subDT hD [4, 5, 6, 7, 0, 1, 2, 3] (by decide) rfl) hS ls (lv_sub hl [2, 3, 4, 0] rfl)
        · skip
          refine lv_iconst (v := -1) hx hb dX9_init_139 (by decide) ?_
          refine lv_goto (tgt := 149) hx hb dX9_init_140 (by decide) ?_
          refine lv_istore_n (lv' := [(3, .int (-1)), (4, .int (nI c9_154)), (0, .ref wy), (1, .ref pz), (2, .int (nI hi))]) hx hb dX9_init_149 rfl hl (by decide) rfl (fun ls hl => ?_)
          refine lv_goto (tgt := 50) hx hb dX9_init_150 (by decide) ?_
          refine lv_iload_n hx hb dX9_init_50 rfl (lv_at hl 0 rfl) ?_
          refine lv_if_lt (tgt := 153) hx hb dX9_init_51 (by decide) (fun c_223 => ?_) (fun c_223 => ?_)
          · skip
            have hP9 := hP.split.1.sub (ws' := [(wy, .inr (14, [.ref q_1, .ref q_3, .ref q_6])), (q_1, .inl (gyI G, 16, .inl f_177)), (pz, .inr (13, [.ref gr, .ref mr, .ref cg])), (gr, .inl (gyI G, 16, .inl gv))]) [6, 7, 0, 1] rfl
            have hD9 := hD.split.1.sub (ws' := [(wy, .inr (14, [.ref q_1, .ref q_3, .ref q_6])), (q_1, .inl (gyI G, 16, .inl f_177)), (pz, .inr (13, [.ref gr, .ref mr, .ref cg])), (gr, .inl (gyI G, 16, .inl gv))]) [6, 7, 0, 1] (by decide) rfl
            refine W.widen (k := 263) (n := 65152) (Nat.le_of_ble_eq_true rfl) (Nat.le_of_ble_eq_true rfl) ?_
            subst hQ
            exact W.vret hx hb hr (fun t ht hW => ⟨⟨(q_1, q_3, q_6, f_177), rfl, trivial, by rw [ht]; exact hP9, hD9⟩, hS.F ht⟩) hS.2.2 dX9_init_153
          · skip
            exact absurd (by decide) c_223
