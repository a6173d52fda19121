theorem q23 : (Jvm.Cond.selects "Pegboardry" ({ cls := "Pegboardry", name := "puzzleAt", desc := "(I)LPegboardry$Puzzle;" } : Jvm.MethodName) ({ cls := "Pegboardry", name := "puzzleAt", desc := "(I)LPegboardry$Puzzle;" } : Jvm.MethodName)) ∈ WW := inW 23 (by decide +kernel) rfl
theorem q32 : (Jvm.Cond.selects "Pegboardry" ({ cls := "Pegboardry", name := "checkProof", desc := "()V" } : Jvm.MethodName) ({ cls := "Pegboardry", name := "checkProof", desc := "()V" } : Jvm.MethodName)) ∈ WW := inW 32 (by decide +kernel) rfl
theorem q68 : (Jvm.Cond.initialized "java/lang/IllegalArgumentException") ∈ WW := inW 68 (by decide +kernel) rfl
theorem q79 : (Jvm.Cond.initialized "java/lang/ArithmeticException") ∈ WW := inW 79 (by decide +kernel) rfl
theorem q566 : (Jvm.Cond.methodLink "Pegboardry" (63 : Nat) ({ cls := "Pegboardry", name := "puzzleAt", desc := "(I)LPegboardry$Puzzle;" } : Jvm.MethodName)) ∈ WW := inW 566 (by decide +kernel) rfl
theorem q568 : (Jvm.Cond.instanceMethod ({ cls := "Pegboardry", name := "puzzleAt", desc := "(I)LPegboardry$Puzzle;" } : Jvm.MethodName)) ∈ WW := inW 568 (by decide +kernel) rfl
theorem q569 : (Jvm.Cond.code ({ cls := "Pegboardry", name := "puzzleAt", desc := "(I)LPegboardry$Puzzle;" } : Jvm.MethodName) prog_1_method_29_code (2 : Nat) (Option.some (Jvm.ClassFile.FieldType.object "Pegboardry$Puzzle"))) ∈ WW := inW 569 (by decide +kernel) rfl
theorem q583 : (Jvm.Cond.methodLink "Pegboardry" (67 : Nat) ({ cls := "Pegboardry", name := "checkCell", desc := "(I)V" } : Jvm.MethodName)) ∈ WW := inW 583 (by decide +kernel) rfl
theorem q584 : (Jvm.Cond.static ({ cls := "Pegboardry", name := "checkCell", desc := "(I)V" } : Jvm.MethodName)) ∈ WW := inW 584 (by decide +kernel) rfl
theorem q585 : (Jvm.Cond.code ({ cls := "Pegboardry", name := "checkCell", desc := "(I)V" } : Jvm.MethodName) prog_1_method_30_code (1 : Nat) (Option.none : Option Jvm.ClassFile.FieldType)) ∈ WW := inW 585 (by decide +kernel) rfl
theorem q590 : (Jvm.Cond.classLink "Pegboardry" (82 : Nat) "java/lang/IllegalArgumentException") ∈ WW := inW 590 (by decide +kernel) rfl
theorem q834 : (Jvm.Cond.methodLink "Pegboardry" (200 : Nat) ({ cls := "Pegboardry", name := "checkProof", desc := "()V" } : Jvm.MethodName)) ∈ WW := inW 834 (by decide +kernel) rfl
theorem q836 : (Jvm.Cond.instanceMethod ({ cls := "Pegboardry", name := "checkProof", desc := "()V" } : Jvm.MethodName)) ∈ WW := inW 836 (by decide +kernel) rfl
theorem q837 : (Jvm.Cond.code ({ cls := "Pegboardry", name := "checkProof", desc := "()V" } : Jvm.MethodName) prog_1_method_32_code (1 : Nat) (Option.none : Option Jvm.ClassFile.FieldType)) ∈ WW := inW 837 (by decide +kernel) rfl
theorem q909 : (Jvm.Cond.classLink "Pegboardry" (241 : Nat) "java/lang/ArithmeticException") ∈ WW := inW 909 (by decide +kernel) rfl
theorem dX6_give_0 : decode cX6_give 0 = .ok (.aload_n 0, 1) := by decide +kernel
theorem dX6_give_1 : decode cX6_give 1 = .ok (.iload_n 1, 1) := by decide +kernel
theorem dX6_give_2 : decode cX6_give 2 = .ok (.invokevirtual 63, 3) := by decide +kernel
theorem dX6_addCage_0 : decode cX6_addCage 0 = .ok (.aload_n 0, 1) := by decide +kernel
theorem dX6_addCage_1 : decode cX6_addCage 1 = .ok (.iload_n 1, 1) := by decide +kernel
theorem dX6_addCage_2 : decode cX6_addCage 2 = .ok (.invokevirtual 63, 3) := by decide +kernel
theorem dX6_given_0 : decode cX6_given 0 = .ok (.aload_n 0, 1) := by decide +kernel
theorem dX6_given_1 : decode cX6_given 1 = .ok (.iload_n 1, 1) := by decide +kernel
theorem dX6_given_2 : decode cX6_given 2 = .ok (.invokevirtual 63, 3) := by decide +kernel
theorem dX6_givens_0 : decode cX6_givens 0 = .ok (.aload_n 0, 1) := by decide +kernel
theorem dX6_givens_1 : decode cX6_givens 1 = .ok (.iload_n 1, 1) := by decide +kernel
theorem dX6_givens_2 : decode cX6_givens 2 = .ok (.invokevirtual 63, 3) := by decide +kernel
theorem dX6_solutions_0 : decode cX6_solutions 0 = .ok (.aload_n 0, 1) := by decide +kernel
theorem dX6_solutions_1 : decode cX6_solutions 1 = .ok (.iload_n 1, 1) := by decide +kernel
theorem dX6_solutions_2 : decode cX6_solutions 2 = .ok (.invokevirtual 63, 3) := by decide +kernel
theorem dX6_solution_0 : decode cX6_solution 0 = .ok (.aload_n 0, 1) := by decide +kernel
theorem dX6_solution_1 : decode cX6_solution 1 = .ok (.iload_n 1, 1) := by decide +kernel
theorem dX6_solution_2 : decode cX6_solution 2 = .ok (.invokevirtual 63, 3) := by decide +kernel
theorem dX6_solve_0 : decode cX6_solve 0 = .ok (.aload_n 0, 1) := by decide +kernel
theorem dX6_solve_1 : decode cX6_solve 1 = .ok (.iload_n 1, 1) := by decide +kernel
theorem dX6_solve_2 : decode cX6_solve 2 = .ok (.invokevirtual 63, 3) := by decide +kernel
theorem dX6_steps_0 : decode cX6_steps 0 = .ok (.aload_n 0, 1) := by decide +kernel
theorem dX6_steps_1 : decode cX6_steps 1 = .ok (.iload_n 1, 1) := by decide +kernel
theorem dX6_steps_2 : decode cX6_steps 2 = .ok (.invokevirtual 63, 3) := by decide +kernel
theorem dX6_stepAt_0 : decode cX6_stepAt 0 = .ok (.aload_n 0, 1) := by decide +kernel
theorem dX6_stepAt_1 : decode cX6_stepAt 1 = .ok (.iload_n 1, 1) := by decide +kernel
theorem dX6_stepAt_2 : decode cX6_stepAt 2 = .ok (.invokevirtual 63, 3) := by decide +kernel
theorem dX6_grade_0 : decode cX6_grade 0 = .ok (.aload_n 0, 1) := by decide +kernel
theorem dX6_grade_1 : decode cX6_grade 1 = .ok (.iload_n 1, 1) := by decide +kernel
theorem dX6_grade_2 : decode cX6_grade 2 = .ok (.invokevirtual 63, 3) := by decide +kernel
theorem dX6_isMinimal_0 : decode cX6_isMinimal 0 = .ok (.aload_n 0, 1) := by decide +kernel
theorem dX6_isMinimal_1 : decode cX6_isMinimal 1 = .ok (.iload_n 1, 1) := by decide +kernel
theorem dX6_isMinimal_2 : decode cX6_isMinimal 2 = .ok (.invokevirtual 63, 3) := by decide +kernel
theorem dX6_areAlike_0 : decode cX6_areAlike 0 = .ok (.aload_n 0, 1) := by decide +kernel
theorem dX6_areAlike_1 : decode cX6_areAlike 1 = .ok (.iload_n 1, 1) := by decide +kernel
theorem dX6_areAlike_2 : decode cX6_areAlike 2 = .ok (.invokevirtual 63, 3) := by decide +kernel
theorem dX6_begin_0 : decode cX6_begin 0 = .ok (.aload_n 0, 1) := by decide +kernel
theorem dX6_begin_1 : decode cX6_begin 1 = .ok (.aload_n 0, 1) := by decide +kernel
theorem dX6_begin_2 : decode cX6_begin 2 = .ok (.iload_n 1, 1) := by decide +kernel
theorem dX6_begin_3 : decode cX6_begin 3 = .ok (.invokevirtual 63, 3) := by decide +kernel
theorem dX6_mark_0 : decode cX6_mark 0 = .ok (.aload_n 0, 1) := by decide +kernel
theorem dX6_mark_1 : decode cX6_mark 1 = .ok (.iload_n 1, 1) := by decide +kernel
theorem dX6_mark_2 : decode cX6_mark 2 = .ok (.invokevirtual 63, 3) := by decide +kernel
theorem dX6_marked_0 : decode cX6_marked 0 = .ok (.aload_n 0, 1) := by decide +kernel
theorem dX6_marked_1 : decode cX6_marked 1 = .ok (.iload_n 1, 1) := by decide +kernel
theorem dX6_marked_2 : decode cX6_marked 2 = .ok (.invokevirtual 63, 3) := by decide +kernel
theorem dX6_wrong_0 : decode cX6_wrong 0 = .ok (.aload_n 0, 1) := by decide +kernel
theorem dX6_wrong_1 : decode cX6_wrong 1 = .ok (.iload_n 1, 1) := by decide +kernel
theorem dX6_wrong_2 : decode cX6_wrong 2 = .ok (.invokevirtual 63, 3) := by decide +kernel
theorem dX6_hint_0 : decode cX6_hint 0 = .ok (.aload_n 0, 1) := by decide +kernel
theorem dX6_hint_1 : decode cX6_hint 1 = .ok (.iload_n 1, 1) := by decide +kernel
theorem dX6_hint_2 : decode cX6_hint 2 = .ok (.invokevirtual 63, 3) := by decide +kernel
theorem dX6_tell_0 : decode cX6_tell 0 = .ok (.iload_n 2, 1) := by decide +kernel
theorem dX6_tell_1 : decode cX6_tell 1 = .ok (.invokestatic 67, 3) := by decide +kernel
theorem dX6_tell_4 : decode cX6_tell 4 = .ok (.iload_n 1, 1) := by decide +kernel
theorem dX6_tell_5 : decode cX6_tell 5 = .ok (.ifCond .lt 18, 3) := by decide +kernel
theorem dX6_tell_23 : decode cX6_tell 23 = .ok (.new 82, 3) := by decide +kernel
theorem dX6_tell_26 : decode cX6_tell 26 = .ok (.dup, 1) := by decide +kernel
theorem dX6_tell_27 : decode cX6_tell 27 = .ok (.ldc 181, 2) := by decide +kernel
theorem dX6_tell_29 : decode cX6_tell 29 = .ok (.invokespecial 86, 3) := by decide +kernel
theorem dX6_tell_32 : decode cX6_tell 32 = .ok (.athrow, 1) := by decide +kernel
theorem dX6_tell_8 : decode cX6_tell 8 = .ok (.iload_n 1, 1) := by decide +kernel
theorem dX6_tell_9 : decode cX6_tell 9 = .ok (.iconst 4, 1) := by decide +kernel
theorem dX6_tell_10 : decode cX6_tell 10 = .ok (.if_icmp .gt 13, 3) := by decide +kernel
theorem dX6_tell_13 : decode cX6_tell 13 = .ok (.iload_n 3, 1) := by decide +kernel
theorem dX6_tell_14 : decode cX6_tell 14 = .ok (.iconst 1, 1) := by decide +kernel
theorem dX6_tell_15 : decode cX6_tell 15 = .ok (.if_icmp .lt 8, 3) := by decide +kernel
theorem dX6_tell_18 : decode cX6_tell 18 = .ok (.iload_n 3, 1) := by decide +kernel
theorem dX6_tell_19 : decode cX6_tell 19 = .ok (.iconst 4, 1) := by decide +kernel
theorem dX6_tell_20 : decode cX6_tell 20 = .ok (.if_icmp .le 13, 3) := by decide +kernel
theorem dX6_tell_33 : decode cX6_tell 33 = .ok (.aload_n 0, 1) := by decide +kernel
theorem dX6_tell_34 : decode cX6_tell 34 = .ok (.getfield 37, 3) := by decide +kernel
theorem dX6_tell_37 : decode cX6_tell 37 = .ok (.ifnonnull 13, 3) := by decide +kernel
theorem dX6_tell_40 : decode cX6_tell 40 = .ok (.new 49, 3) := by decide +kernel
theorem dX6_tell_43 : decode cX6_tell 43 = .ok (.dup, 1) := by decide +kernel
theorem dX6_tell_44 : decode cX6_tell 44 = .ok (.ldc 183, 2) := by decide +kernel
theorem dX6_tell_46 : decode cX6_tell 46 = .ok (.invokespecial 53, 3) := by decide +kernel
theorem dX6_tell_49 : decode cX6_tell 49 = .ok (.athrow, 1) := by decide +kernel
theorem dX6_candidates_0 : decode cX6_candidates 0 = .ok (.iload_n 1, 1) := by decide +kernel
theorem dX6_candidates_1 : decode cX6_candidates 1 = .ok (.invokestatic 67, 3) := by decide +kernel
theorem dX6_candidates_4 : decode cX6_candidates 4 = .ok (.aload_n 0, 1) := by decide +kernel
theorem dX6_candidates_5 : decode cX6_candidates 5 = .ok (.invokevirtual 200, 3) := by decide +kernel
theorem dX6_isWhole_0 : decode cX6_isWhole 0 = .ok (.aload_n 0, 1) := by decide +kernel
theorem dX6_isWhole_1 : decode cX6_isWhole 1 = .ok (.invokevirtual 200, 3) := by decide +kernel
theorem dX6_solvedShare_0 : decode cX6_solvedShare 0 = .ok (.aload_n 0, 1) := by decide +kernel
theorem dX6_solvedShare_1 : decode cX6_solvedShare 1 = .ok (.getfield 10, 3) := by decide +kernel
theorem dX6_solvedShare_4 : decode cX6_solvedShare 4 = .ok (.invokevirtual 45, 3) := by decide +kernel
theorem dX6_solvedShare_7 : decode cX6_solvedShare 7 = .ok (.istore_n 1, 1) := by decide +kernel
theorem dX6_solvedShare_8 : decode cX6_solvedShare 8 = .ok (.iload_n 1, 1) := by decide +kernel
theorem dX6_solvedShare_9 : decode cX6_solvedShare 9 = .ok (.ifCond .ne 13, 3) := by decide +kernel
theorem dX6_solvedShare_12 : decode cX6_solvedShare 12 = .ok (.new 241, 3) := by decide +kernel
theorem dX6_solvedShare_15 : decode cX6_solvedShare 15 = .ok (.dup, 1) := by decide +kernel
theorem dX6_solvedShare_16 : decode cX6_solvedShare 16 = .ok (.ldc 243, 2) := by decide +kernel
theorem dX6_solvedShare_18 : decode cX6_solvedShare 18 = .ok (.invokespecial 245, 3) := by decide +kernel
theorem dX6_solvedShare_21 : decode cX6_solvedShare 21 = .ok (.athrow, 1) := by decide +kernel
theorem dX6_meanGivens_0 : decode cX6_meanGivens 0 = .ok (.aload_n 0, 1) := by decide +kernel
theorem dX6_meanGivens_1 : decode cX6_meanGivens 1 = .ok (.getfield 10, 3) := by decide +kernel
theorem dX6_meanGivens_4 : decode cX6_meanGivens 4 = .ok (.invokevirtual 45, 3) := by decide +kernel
theorem dX6_meanGivens_7 : decode cX6_meanGivens 7 = .ok (.istore_n 1, 1) := by decide +kernel
theorem dX6_meanGivens_8 : decode cX6_meanGivens 8 = .ok (.iload_n 1, 1) := by decide +kernel
theorem dX6_meanGivens_9 : decode cX6_meanGivens 9 = .ok (.ifCond .ne 13, 3) := by decide +kernel
theorem dX6_meanGivens_12 : decode cX6_meanGivens 12 = .ok (.new 241, 3) := by decide +kernel
theorem dX6_meanGivens_15 : decode cX6_meanGivens 15 = .ok (.dup, 1) := by decide +kernel
theorem dX6_meanGivens_16 : decode cX6_meanGivens 16 = .ok (.ldc 243, 2) := by decide +kernel
theorem dX6_meanGivens_18 : decode cX6_meanGivens 18 = .ok (.invokespecial 245, 3) := by decide +kernel
theorem dX6_meanGivens_21 : decode cX6_meanGivens 21 = .ok (.athrow, 1) := by decide +kernel
theorem dX6_make_21 : decode cX6_make 21 = .ok (.new 82, 3) := by decide +kernel
theorem dX6_make_24 : decode cX6_make 24 = .ok (.dup, 1) := by decide +kernel
theorem dX6_make_25 : decode cX6_make 25 = .ok (.ldc 112, 2) := by decide +kernel
theorem dX6_make_27 : decode cX6_make 27 = .ok (.invokespecial 86, 3) := by decide +kernel
theorem dX6_make_30 : decode cX6_make 30 = .ok (.athrow, 1) := by decide +kernel
theorem dX6_reason_0 : decode cX6_reason 0 = .ok (.aload_n 0, 1) := by decide +kernel
theorem dX6_reason_1 : decode cX6_reason 1 = .ok (.getfield 41, 3) := by decide +kernel
theorem dX6_reason_4 : decode cX6_reason 4 = .ok (.ireturn, 1) := by decide +kernel
theorem dX6_checksum_0 : decode cX6_checksum 0 = .ok (.lconst 0, 1) := by decide +kernel
theorem dX6_checksum_1 : decode cX6_checksum 1 = .ok (.lstore_n 1, 1) := by decide +kernel
theorem dX6_checksum_2 : decode cX6_checksum 2 = .ok (.iconst 0, 1) := by decide +kernel
theorem dX6_checksum_3 : decode cX6_checksum 3 = .ok (.istore_n 3, 1) := by decide +kernel
theorem dX6_checksum_4 : decode cX6_checksum 4 = .ok (.iload_n 3, 1) := by decide +kernel
theorem dX6_checksum_5 : decode cX6_checksum 5 = .ok (.aload_n 0, 1) := by decide +kernel
theorem dX6_checksum_6 : decode cX6_checksum 6 = .ok (.getfield 10, 3) := by decide +kernel
theorem dX6_checksum_9 : decode cX6_checksum 9 = .ok (.invokevirtual 45, 3) := by decide +kernel
theorem dX6_checksum_12 : decode cX6_checksum 12 = .ok (.if_icmp .ge 66, 3) := by decide +kernel
theorem dX6_checksum_78 : decode cX6_checksum 78 = .ok (.lload_n 1, 1) := by decide +kernel
theorem dX6_checksum_79 : decode cX6_checksum 79 = .ok (.lreturn, 1) := by decide +kernel
theorem dX6_isSound_0 : decode cX6_isSound 0 = .ok (.iconst 0, 1) := by decide +kernel
theorem dX6_isSound_1 : decode cX6_isSound 1 = .ok (.istore_n 1, 1) := by decide +kernel
theorem dX6_isSound_2 : decode cX6_isSound 2 = .ok (.iload_n 1, 1) := by decide +kernel
theorem dX6_isSound_3 : decode cX6_isSound 3 = .ok (.aload_n 0, 1) := by decide +kernel
theorem dX6_isSound_4 : decode cX6_isSound 4 = .ok (.getfield 10, 3) := by decide +kernel
theorem dX6_isSound_7 : decode cX6_isSound 7 = .ok (.invokevirtual 45, 3) := by decide +kernel
theorem dX6_isSound_10 : decode cX6_isSound 10 = .ok (.if_icmp .ge 74, 3) := by decide +kernel
theorem dX6_isSound_84 : decode cX6_isSound 84 = .ok (.iconst 1, 1) := by decide +kernel
theorem dX6_isSound_85 : decode cX6_isSound 85 = .ok (.ireturn, 1) := by decide +kernel
set_option maxHeartbeats 4000000 in
set_option maxRecDepth 100000 in
theorem c_X6_give (l : Launch) (G : GG) (ho : Nat) (al : Nat) (ts : Nat) (pb : Nat) (lr : Int32) (sv : Nat) (md : Int32) (v : Int32) (v2 : Int32) (x : Int32) (hst : l.stackTraces = false) : Mx l G yX6_give cX6_give 6 (some .int) ({ frames := 7, cells := 1, slots := 6, locals := 103 } : Room) [.ref ho, .int v, .int v2, .int x] [(ho, .inr (11, [.ref al, .ref sv, .ref ts, .ref pb, .null, .int lr])), (al, .inr (4, [.int md, .ref (gE G), .int (nI 0)]))] "java/lang/IndexOutOfBoundsException" [(ho, .inr (11, [.ref al, .ref sv, .ref ts, .ref pb, .null, .int lr])), (al, .inr (4, [.int md, .ref (gE G), .int (nI 0)]))] := by
  intro sz
  refine vx_ofW (cc := cX6_give) (maxL := 6) (ret := (some .int)) (by decide) rfl ?_
  intro p e s m args below meth c s₁ B9 hml htab hv
  obtain ⟨rfl, hsz, hP, hK, hD0, hE⟩ := hv
  have hx := B9.exec
  have hb := B9.bytes
  have hr := B9.returns
  have hts : ∀ w ∈ WW, w.before ([.ref ho, .int v, .int v2, .int x] : List Value).toArray s = true := fun w h => atoms_spec (ws := .code yX6_give cX6_give 6 (some .int) :: WW) B9.pre w (List.mem_cons_of_mem _ h)
  have hown : s.vm.findClass RX6 = some m.cls := findClass_of_methodNamed B9.named
  subst hsz
  have hD := hD0.self (sz := s.heap.size)
  generalize hAe : va_A [(ho, .inr (11, [.ref al, .ref sv, .ref ts, .ref pb, .null, .int lr])), (al, .inr (4, [.int md, .ref (gE G), .int (nI 0)]))] s.heap.size = A at hD hE ⊢
  have hA : ∀ q : Nat, s.heap.size ≤ q → A q := fun q h => by rw [← hAe]; exact Or.inr h
  have hl := lv_entry ([.ref ho, .int v, .int v2, .int x]) (n := 6) (Nat.le_of_ble_eq_true rfl)
  rw [lg_entry_eq]
  generalize (lg_sl ([.ref ho, .int v, .int v2, .int x]) ++ List.replicate (6 - (lg_sl ([.ref ho, .int v, .int v2, .int x])).length) Slot.unset).toArray = ls at hl ⊢
  have hl : lv_has ls 6 [(0, .ref ho), (1, .int v), (2, .int v2), (3, .int x)] := hl
  refine qgen (fun Q hQ => ?_)
  refine hgen (fun H locs hP hD hS => ?_) hP hD
  refine lv_aload_n hx hb dX6_give_0 rfl (lv_at hl 0 rfl) ?_
  refine lv_iload_n hx hb dX6_give_1 rfl (lv_at hl 1 rfl) ?_
  refine finx hP hD hS hA [0, 1] [] (wr := []) rfl rfl (by decide) (by decide) (vx_runV (As := [.int v]) (rest := []) ⟨hx, hb, hml, hown, hts⟩ (c_X6_puzzleAt l G ho al ts pb lr sv md v hst H.size) (cwV 1 hts (gV q566 q568 q23 q45 q569) rfl rfl rfl (by decide +kernel) ⟨Nat.le_of_ble_eq_true rfl, Nat.le_of_ble_eq_true rfl⟩) (preV (q0 := 0) (ci := 11) hK hE hP hD hS hA [0, 1] rfl (by decide) rfl rfl) rfl rfl hl.1 rfl (lv_room (Nat.le_of_ble_eq_true rfl)) dX6_give_2 ⟨Nat.le_of_ble_eq_true rfl, Nat.le_of_ble_eq_true rfl⟩) (fun ce9 q9 H locs hP hD hS hc9 hv9 hf9 => ?_)
  have hP9 := hP.sub (ws' := [(ho, .inr (11, [.ref al, .ref sv, .ref ts, .ref pb, .null, .int lr])), (al, .inr (4, [.int md, .ref (gE G), .int (nI 0)]))]) [0, 1] rfl
  have hD9 := hD.sub (ws' := [(ho, .inr (11, [.ref al, .ref sv, .ref ts, .ref pb, .null, .int lr])), (al, .inr (4, [.int md, .ref (gE G), .int (nI 0)]))]) [0, 1] (by decide) rfl
  subst hQ
  exact vx_out (E := "java/lang/IndexOutOfBoundsException") (fun x9 h9 => (htab x9 h9).elim) B9.notSynchronized hc9 hv9 hf9 (outX hP9 hD9 hS) hS.2.2 (Nat.le_of_ble_eq_true rfl) (Nat.le_of_ble_eq_true rfl)
set_option maxHeartbeats 4000000 in
set_option maxRecDepth 100000 in
theorem c_X6_addCage (l : Launch) (G : GG) (ho : Nat) (al : Nat) (ts : Nat) (pb : Nat) (lr : Int32) (sv : Nat) (md : Int32) (v : Int32) (v2 : Int32) (x : Int32) (hst : l.stackTraces = false) : Mx l G yX6_addCage cX6_addCage 5 (some .int) ({ frames := 7, cells := 1, slots := 6, locals := 103 } : Room) [.ref ho, .int v, .int v2, .int x] [(ho, .inr (11, [.ref al, .ref sv, .ref ts, .ref pb, .null, .int lr])), (al, .inr (4, [.int md, .ref (gE G), .int (nI 0)]))] "java/lang/IndexOutOfBoundsException" [(ho, .inr (11, [.ref al, .ref sv, .ref ts, .ref pb, .null, .int lr])), (al, .inr (4, [.int md, .ref (gE G), .int (nI 0)]))] := by
  intro sz
  refine vx_ofW (cc := cX6_addCage) (maxL := 5) (ret := (some .int)) (by decide) rfl ?_
  intro p e s m args below meth c s₁ B9 hml htab hv
  obtain ⟨rfl, hsz, hP, hK, hD0, hE⟩ := hv
  have hx := B9.exec
  have hb := B9.bytes
  have hr := B9.returns
  have hts : ∀ w ∈ WW, w.before ([.ref ho, .int v, .int v2, .int x] : List Value).toArray s = true := fun w h => atoms_spec (ws := .code yX6_addCage cX6_addCage 5 (some .int) :: WW) B9.pre w (List.mem_cons_of_mem _ h)
  have hown : s.vm.findClass RX6 = some m.cls := findClass_of_methodNamed B9.named
  subst hsz
  have hD := hD0.self (sz := s.heap.size)
  generalize hAe : va_A [(ho, .inr (11, [.ref al, .ref sv, .ref ts, .ref pb, .null, .int lr])), (al, .inr (4, [.int md, .ref (gE G), .int (nI 0)]))] s.heap.size = A at hD hE ⊢
  have hA : ∀ q : Nat, s.heap.size ≤ q → A q := fun q h => by rw [← hAe]; exact Or.inr h
  have hl := lv_entry ([.ref ho, .int v, .int v2, .int x]) (n := 5) (Nat.le_of_ble_eq_true rfl)
  rw [lg_entry_eq]
  generalize (lg_sl ([.ref ho, .int v, .int v2, .int x]) ++ List.replicate (5 - (lg_sl ([.ref ho, .int v, .int v2, .int x])).length) Slot.unset).toArray = ls at hl ⊢
  have hl : lv_has ls 5 [(0, .ref ho), (1, .int v), (2, .int v2), (3, .int x)] := hl
  refine qgen (fun Q hQ => ?_)
  refine hgen (fun H locs hP hD hS => ?_) hP hD
  refine lv_aload_n hx hb dX6_addCage_0 rfl (lv_at hl 0 rfl) ?_
  refine lv_iload_n hx hb dX6_addCage_1 rfl (lv_at hl 1 rfl) ?_
  refine finx hP hD hS hA [0, 1] [] (wr := []) rfl rfl (by decide) (by decide) (vx_runV (As := [.int v]) (rest := []) ⟨hx, hb, hml, hown, hts⟩ (c_X6_puzzleAt l G ho al ts pb lr sv md v hst H.size) (cwV 1 hts (gV q566 q568 q23 q45 q569) rfl rfl rfl (by decide +kernel) ⟨Nat.le_of_ble_eq_true rfl, Nat.le_of_ble_eq_true rfl⟩) (preV (q0 := 0) (ci := 11) hK hE hP hD hS hA [0, 1] rfl (by decide) rfl rfl) rfl rfl hl.1 rfl (lv_room (Nat.le_of_ble_eq_true rfl)) dX6_addCage_2 ⟨Nat.le_of_ble_eq_true rfl, Nat.le_of_ble_eq_true rfl⟩) (fun ce9 q9 H locs hP hD hS hc9 hv9 hf9 => ?_)
  have hP9 := hP.sub (ws' := [(ho, .inr (11, [.ref al, .ref sv, .ref ts, .ref pb, .null, .int lr])), (al, .inr (4, [.int md, .ref (gE G), .int (nI 0)]))]) [0, 1] rfl
  have hD9 := hD.sub (ws' := [(ho, .inr (11, [.ref al, .ref sv, .ref ts, .ref pb, .null, .int lr])), (al, .inr (4, [.int md, .ref (gE G), .int (nI 0)]))]) [0, 1] (by decide) rfl
  subst hQ
  exact vx_out (E := "java/lang/IndexOutOfBoundsException") (fun x9 h9 => (htab x9 h9).elim) B9.notSynchronized hc9 hv9 hf9 (outX hP9 hD9 hS) hS.2.2 (Nat.le_of_ble_eq_true rfl) (Nat.le_of_ble_eq_true rfl)
set_option maxHeartbeats 4000000 in
set_option maxRecDepth 100000 in
theorem c_X6_given (l : Launch) (G : GG) (ho : Nat) (al : Nat) (ts : Nat) (pb : Nat) (lr : Int32) (sv : Nat) (md : Int32) (v : Int32) (v2 : Int32) (hst : l.stackTraces = false) : Mx l G yX6_given cX6_given 4 (some .int) ({ frames := 7, cells := 1, slots := 6, locals := 103 } : Room) [.ref ho, .int v, .int v2] [(ho, .inr (11, [.ref al, .ref sv, .ref ts, .ref pb, .null, .int lr])), (al, .inr (4, [.int md, .ref (gE G), .int (nI 0)]))] "java/lang/IndexOutOfBoundsException" [(ho, .inr (11, [.ref al, .ref sv, .ref ts, .ref pb, .null, .int lr])), (al, .inr (4, [.int md, .ref (gE G), .int (nI 0)]))] := by
  intro sz
  refine vx_ofW (cc := cX6_given) (maxL := 4) (ret := (some .int)) (by decide) rfl ?_
  intro p e s m args below meth c s₁ B9 hml htab hv
  obtain ⟨rfl, hsz, hP, hK, hD0, hE⟩ := hv
  have hx := B9.exec
  have hb := B9.bytes
  have hr := B9.returns
  have hts : ∀ w ∈ WW, w.before ([.ref ho, .int v, .int v2] : List Value).toArray s = true := fun w h => atoms_spec (ws := .code yX6_given cX6_given 4 (some .int) :: WW) B9.pre w (List.mem_cons_of_mem _ h)
  have hown : s.vm.findClass RX6 = some m.cls := findClass_of_methodNamed B9.named
  subst hsz
  have hD := hD0.self (sz := s.heap.size)
  generalize hAe : va_A [(ho, .inr (11, [.ref al, .ref sv, .ref ts, .ref pb, .null, .int lr])), (al, .inr (4, [.int md, .ref (gE G), .int (nI 0)]))] s.heap.size = A at hD hE ⊢
  have hA : ∀ q : Nat, s.heap.size ≤ q → A q := fun q h => by rw [← hAe]; exact Or.inr h
  have hl := lv_entry ([.ref ho, .int v, .int v2]) (n := 4) (Nat.le_of_ble_eq_true rfl)
  rw [lg_entry_eq]
  generalize (lg_sl ([.ref ho, .int v, .int v2]) ++ List.replicate (4 - (lg_sl ([.ref ho, .int v, .int v2])).length) Slot.unset).toArray = ls at hl ⊢
  have hl : lv_has ls 4 [(0, .ref ho), (1, .int v), (2, .int v2)] := hl
  refine qgen (fun Q hQ => ?_)
  refine hgen (fun H locs hP hD hS => ?_) hP hD
  refine lv_aload_n hx hb dX6_given_0 rfl (lv_at hl 0 rfl) ?_
  refine lv_iload_n hx hb dX6_given_1 rfl (lv_at hl 1 rfl) ?_
  refine finx hP hD hS hA [0, 1] [] (wr := []) rfl rfl (by decide) (by decide) (vx_runV (As := [.int v]) (rest := []) ⟨hx, hb, hml, hown, hts⟩ (c_X6_puzzleAt l G ho al ts pb lr sv md v hst H.size) (cwV 1 hts (gV q566 q568 q23 q45 q569) rfl rfl rfl (by decide +kernel) ⟨Nat.le_of_ble_eq_true rfl, Nat.le_of_ble_eq_true rfl⟩) (preV (q0 := 0) (ci := 11) hK hE hP hD hS hA [0, 1] rfl (by decide) rfl rfl) rfl rfl hl.1 rfl (lv_room (Nat.le_of_ble_eq_true rfl)) dX6_given_2 ⟨Nat.le_of_ble_eq_true rfl, Nat.le_of_ble_eq_true rfl⟩) (fun ce9 q9 H locs hP hD hS hc9 hv9 hf9 => ?_)
  have hP9 := hP.sub (ws' := [(ho, .inr (11, [.ref al, .ref sv, .ref ts, .ref pb, .null, .int lr])), (al, .inr (4, [.int md, .ref (gE G), .int (nI 0)]))]) [0, 1] rfl
  have hD9 := hD.sub (ws' := [(ho, .inr (11, [.ref al, .ref sv, .ref ts, .ref pb, .null, .int lr])), (al, .inr (4, [.int md, .ref (gE G), .int (nI 0)]))]) [0, 1] (by decide) rfl
  subst hQ
  exact vx_out (E := "java/lang/IndexOutOfBoundsException") (fun x9 h9 => (htab x9 h9).elim) B9.notSynchronized hc9 hv9 hf9 (outX hP9 hD9 hS) hS.2.2 (Nat.le_of_ble_eq_true rfl) (Nat.le_of_ble_eq_true rfl)
set_option maxHeartbeats 4000000 in
set_option maxRecDepth 100000 in
theorem c_X6_givens (l : Launch) (G : GG) (ho : Nat) (al : Nat) (ts : Nat) (pb : Nat) (lr : Int32) (sv : Nat) (md : Int32) (v : Int32) (hst : l.stackTraces = false) : Mx l G yX6_givens cX6_givens 2 (some .int) ({ frames := 7, cells := 1, slots := 6, locals := 103 } : Room) [.ref ho, .int v] [(ho, .inr (11, [.ref al, .ref sv, .ref ts, .ref pb, .null, .int lr])), (al, .inr (4, [.int md, .ref (gE G), .int (nI 0)]))] "java/lang/IndexOutOfBoundsException" [(ho, .inr (11, [.ref al, .ref sv, .ref ts, .ref pb, .null, .int lr])), (al, .inr (4, [.int md, .ref (gE G), .int (nI 0)]))] := by
  intro sz
  refine vx_ofW (cc := cX6_givens) (maxL := 2) (ret := (some .int)) (by decide) rfl ?_
  intro p e s m args below meth c s₁ B9 hml htab hv
  obtain ⟨rfl, hsz, hP, hK, hD0, hE⟩ := hv
  have hx := B9.exec
  have hb := B9.bytes
  have hr := B9.returns
  have hts : ∀ w ∈ WW, w.before ([.ref ho, .int v] : List Value).toArray s = true := fun w h => atoms_spec (ws := .code yX6_givens cX6_givens 2 (some .int) :: WW) B9.pre w (List.mem_cons_of_mem _ h)
  have hown : s.vm.findClass RX6 = some m.cls := findClass_of_methodNamed B9.named
  subst hsz
  have hD := hD0.self (sz := s.heap.size)
  generalize hAe : va_A [(ho, .inr (11, [.ref al, .ref sv, .ref ts, .ref pb, .null, .int lr])), (al, .inr (4, [.int md, .ref (gE G), .int (nI 0)]))] s.heap.size = A at hD hE ⊢
  have hA : ∀ q : Nat, s.heap.size ≤ q → A q := fun q h => by rw [← hAe]; exact Or.inr h
  have hl := lv_entry ([.ref ho, .int v]) (n := 2) (Nat.le_of_ble_eq_true rfl)
  rw [lg_entry_eq]
  generalize (lg_sl ([.ref ho, .int v]) ++ List.replicate (2 - (lg_sl ([.ref ho, .int v])).length) Slot.unset).toArray = ls at hl ⊢
  have hl : lv_has ls 2 [(0, .ref ho), (1, .int v)] := hl
  refine qgen (fun Q hQ => ?_)
  refine hgen (fun H locs hP hD hS => ?_) hP hD
  refine lv_aload_n hx hb dX6_givens_0 rfl (lv_at hl 0 rfl) ?_
  refine lv_iload_n hx hb dX6_givens_1 rfl (lv_at hl 1 rfl) ?_
  refine finx hP hD hS hA [0, 1] [] (wr := []) rfl rfl (by decide) (by decide) (vx_runV (As := [.int v]) (rest := []) ⟨hx, hb, hml, hown, hts⟩ (c_X6_puzzleAt l G ho al ts pb lr sv md v hst H.size) (cwV 1 hts (gV q566 q568 q23 q45 q569) rfl rfl rfl (by decide +kernel) ⟨Nat.le_of_ble_eq_true rfl, Nat.le_of_ble_eq_true rfl⟩) (preV (q0 := 0) (ci := 11) hK hE hP hD hS hA [0, 1] rfl (by decide) rfl rfl) rfl rfl hl.1 rfl (lv_room (Nat.le_of_ble_eq_true rfl)) dX6_givens_2 ⟨Nat.le_of_ble_eq_true rfl, Nat.le_of_ble_eq_true rfl⟩) (fun ce9 q9 H locs hP hD hS hc9 hv9 hf9 => ?_)
  have hP9 := hP.sub (ws' := [(ho, .inr (11, [.ref al, .ref sv, .ref ts, .ref pb, .null, .int lr])), (al, .inr (4, [.int md, .ref (gE G), .int (nI 0)]))]) [0, 1] rfl
  have hD9 := hD.sub (ws' := [(ho, .inr (11, [.ref al, .ref sv, .ref ts, .ref pb, .null, .int lr])), (al, .inr (4, [.int md, .ref (gE G), .int (nI 0)]))]) [0, 1] (by decide) rfl
  subst hQ
  exact vx_out (E := "java/lang/IndexOutOfBoundsException") (fun x9 h9 => (htab x9 h9).elim) B9.notSynchronized hc9 hv9 hf9 (outX hP9 hD9 hS) hS.2.2 (Nat.le_of_ble_eq_true rfl) (Nat.le_of_ble_eq_true rfl)
set_option maxHeartbeats 4000000 in
set_option maxRecDepth 100000 in
theorem c_X6_solutions (l : Launch) (G : GG) (ho : Nat) (al : Nat) (ts : Nat) (pb : Nat) (lr : Int32) (sv : Nat) (md : Int32) (v : Int32) (hst : l.stackTraces = false) : Mx l G yX6_solutions cX6_solutions 2 (some .int) ({ frames := 7, cells := 1, slots := 6, locals := 103 } : Room) [.ref ho, .int v] [(ho, .inr (11, [.ref al, .ref sv, .ref ts, .ref pb, .null, .int lr])), (al, .inr (4, [.int md, .ref (gE G), .int (nI 0)]))] "java/lang/IndexOutOfBoundsException" [(ho, .inr (11, [.ref al, .ref sv, .ref ts, .ref pb, .null, .int lr])), (al, .inr (4, [.int md, .ref (gE G), .int (nI 0)]))] := by
  intro sz
  refine vx_ofW (cc := cX6_solutions) (maxL := 2) (ret := (some .int)) (by decide) rfl ?_
  intro p e s m args below meth c s₁ B9 hml htab hv
  obtain ⟨rfl, hsz, hP, hK, hD0, hE⟩ := hv
  have hx := B9.exec
  have hb := B9.bytes
  have hr := B9.returns
  have hts : ∀ w ∈ WW, w.before ([.ref ho, .int v] : List Value).toArray s = true := fun w h => atoms_spec (ws := .code yX6_solutions cX6_solutions 2 (some .int) :: WW) B9.pre w (List.mem_cons_of_mem _ h)
  have hown : s.vm.findClass RX6 = some m.cls := findClass_of_methodNamed B9.named
  subst hsz
  have hD := hD0.self (sz := s.heap.size)
  generalize hAe : va_A [(ho, .inr (11, [.ref al, .ref sv, .ref ts, .ref pb, .null, .int lr])), (al, .inr (4, [.int md, .ref (gE G), .int (nI 0)]))] s.heap.size = A at hD hE ⊢
  have hA : ∀ q : Nat, s.heap.size ≤ q → A q := fun q h => by rw [← hAe]; exact Or.inr h
  have hl := lv_entry ([.ref ho, .int v]) (n := 2) (Nat.le_of_ble_eq_true rfl)
  rw [lg_entry_eq]
  generalize (lg_sl ([.ref ho, .int v]) ++ List.replicate (2 - (lg_sl ([.ref ho, .int v])).length) Slot.unset).toArray = ls at hl ⊢
  have hl : lv_has ls 2 [(0, .ref ho), (1, .int v)] := hl
  refine qgen (fun Q hQ => ?_)
  refine hgen (fun H locs hP hD hS => ?_) hP hD
  refine lv_aload_n hx hb dX6_solutions_0 rfl (lv_at hl 0 rfl) ?_
  refine lv_iload_n hx hb dX6_solutions_1 rfl (lv_at hl 1 rfl) ?_
  refine finx hP hD hS hA [0, 1] [] (wr := []) rfl rfl (by decide) (by decide) (vx_runV (As := [.int v]) (rest := []) ⟨hx, hb, hml, hown, hts⟩ (c_X6_puzzleAt l G ho al ts pb lr sv md v hst H.size) (cwV 1 hts (gV q566 q568 q23 q45 q569) rfl rfl rfl (by decide +kernel) ⟨Nat.le_of_ble_eq_true rfl, Nat.le_of_ble_eq_true rfl⟩) (preV (q0 := 0) (ci := 11) hK hE hP hD hS hA [0, 1] rfl (by decide) rfl rfl) rfl rfl hl.1 rfl (lv_room (Nat.le_of_ble_eq_true rfl)) dX6_solutions_2 ⟨Nat.le_of_ble_eq_true rfl, Nat.le_of_ble_eq_true rfl⟩) (fun ce9 q9 H locs hP hD hS hc9 hv9 hf9 => ?_)
  have hP9 := hP.sub (ws' := [(ho, .inr (11, [.ref al, .ref sv, .ref ts, .ref pb, .null, .int lr])), (al, .inr (4, [.int md, .ref (gE G), .int (nI 0)]))]) [0, 1] rfl
  have hD9 := hD.sub (ws' := [(ho, .inr (11, [.ref al, .ref sv, .ref ts, .ref pb, .null, .int lr])), (al, .inr (4, [.int md, .ref (gE G), .int (nI 0)]))]) [0, 1] (by decide) rfl
  subst hQ
  exact vx_out (E := "java/lang/IndexOutOfBoundsException") (fun x9 h9 => (htab x9 h9).elim) B9.notSynchronized hc9 hv9 hf9 (outX hP9 hD9 hS) hS.2.2 (Nat.le_of_ble_eq_true rfl) (Nat.le_of_ble_eq_true rfl)
set_option maxHeartbeats 4000000 in
set_option maxRecDepth 100000 in
theorem c_X6_solution (l : Launch) (G : GG) (ho : Nat) (al : Nat) (ts : Nat) (pb : Nat) (lr : Int32) (sv : Nat) (md : Int32) (v : Int32) (v2 : Int32) (hst : l.stackTraces = false) : Mx l G yX6_solution cX6_solution 5 (some .int) ({ frames := 7, cells := 1, slots := 6, locals := 103 } : Room) [.ref ho, .int v, .int v2] [(ho, .inr (11, [.ref al, .ref sv, .ref ts, .ref pb, .null, .int lr])), (al, .inr (4, [.int md, .ref (gE G), .int (nI 0)]))] "java/lang/IndexOutOfBoundsException" [(ho, .inr (11, [.ref al, .ref sv, .ref ts, .ref pb, .null, .int lr])), (al, .inr (4, [.int md, .ref (gE G), .int (nI 0)]))] := by
  intro sz
  refine vx_ofW (cc := cX6_solution) (maxL := 5) (ret := (some .int)) (by decide) rfl ?_
  intro p e s m args below meth c s₁ B9 hml htab hv
  obtain ⟨rfl, hsz, hP, hK, hD0, hE⟩ := hv
  have hx := B9.exec
  have hb := B9.bytes
  have hr := B9.returns
  have hts : ∀ w ∈ WW, w.before ([.ref ho, .int v, .int v2] : List Value).toArray s = true := fun w h => atoms_spec (ws := .code yX6_solution cX6_solution 5 (some .int) :: WW) B9.pre w (List.mem_cons_of_mem _ h)
  have hown : s.vm.findClass RX6 = some m.cls := findClass_of_methodNamed B9.named
  subst hsz
  have hD := hD0.self (sz := s.heap.size)
  generalize hAe : va_A [(ho, .inr (11, [.ref al, .ref sv, .ref ts, .ref pb, .null, .int lr])), (al, .inr (4, [.int md, .ref (gE G), .int (nI 0)]))] s.heap.size = A at hD hE ⊢
  have hA : ∀ q : Nat, s.heap.size ≤ q → A q := fun q h => by rw [← hAe]; exact Or.inr h
  have hl := lv_entry ([.ref ho, .int v, .int v2]) (n := 5) (Nat.le_of_ble_eq_true rfl)
  rw [lg_entry_eq]
  generalize (lg_sl ([.ref ho, .int v, .int v2]) ++ List.replicate (5 - (lg_sl ([.ref ho, .int v, .int v2])).length) Slot.unset).toArray = ls at hl ⊢
  have hl : lv_has ls 5 [(0, .ref ho), (1, .int v), (2, .int v2)] := hl
  refine qgen (fun Q hQ => ?_)
  refine hgen (fun H locs hP hD hS => ?_) hP hD
  refine lv_aload_n hx hb dX6_solution_0 rfl (lv_at hl 0 rfl) ?_
  refine lv_iload_n hx hb dX6_solution_1 rfl (lv_at hl 1 rfl) ?_
  refine finx hP hD hS hA [0, 1] [] (wr := []) rfl rfl (by decide) (by decide) (vx_runV (As := [.int v]) (rest := []) ⟨hx, hb, hml, hown, hts⟩ (c_X6_puzzleAt l G ho al ts pb lr sv md v hst H.size) (cwV 1 hts (gV q566 q568 q23 q45 q569) rfl rfl rfl (by decide +kernel) ⟨Nat.le_of_ble_eq_true rfl, Nat.le_of_ble_eq_true rfl⟩) (preV (q0 := 0) (ci := 11) hK hE hP hD hS hA [0, 1] rfl (by decide) rfl rfl) rfl rfl hl.1 rfl (lv_room (Nat.le_of_ble_eq_true rfl)) dX6_solution_2 ⟨Nat.le_of_ble_eq_true rfl, Nat.le_of_ble_eq_true rfl⟩) (fun ce9 q9 H locs hP hD hS hc9 hv9 hf9 => ?_)
  have hP9 := hP.sub (ws' := [(ho, .inr (11, [.ref al, .ref sv, .ref ts, .ref pb, .null, .int lr])), (al, .inr (4, [.int md, .ref (gE G), .int (nI 0)]))]) [0, 1] rfl
  have hD9 := hD.sub (ws' := [(ho, .inr (11, [.ref al, .ref sv, .ref ts, .ref pb, .null, .int lr])), (al, .inr (4, [.int md, .ref (gE G), .int (nI 0)]))]) [0, 1] (by decide) rfl
  subst hQ
  exact vx_out (E := "java/lang/IndexOutOfBoundsException") (fun x9 h9 => (htab x9 h9).elim) B9.notSynchronized hc9 hv9 hf9 (outX hP9 hD9 hS) hS.2.2 (Nat.le_of_ble_eq_true rfl) (Nat.le_of_ble_eq_true rfl)
set_option maxHeartbeats 4000000 in
set_option maxRecDepth 100000 in
theorem c_X6_solve (l : Launch) (G : GG) (ho : Nat) (al : Nat) (ts : Nat) (pb : Nat) (lr : Int32) (sv : Nat) (md : Int32) (v : Int32) (hst : l.stackTraces = false) : Mx l G yX6_solve cX6_solve 2 (some .char) ({ frames := 7, cells := 1, slots := 6, locals := 103 } : Room) [.ref ho, .int v] [(ho, .inr (11, [.ref al, .ref sv, .ref ts, .ref pb, .null, .int lr])), (al, .inr (4, [.int md, .ref (gE G), .int (nI 0)]))] "java/lang/IndexOutOfBoundsException" [(ho, .inr (11, [.ref al, .ref sv, .ref ts, .ref pb, .null, .int lr])), (al, .inr (4, [.int md, .ref (gE G), .int (nI 0)]))] := by
  intro sz
  refine vx_ofW (cc := cX6_solve) (maxL := 2) (ret := (some .char)) (by decide) rfl ?_
  intro p e s m args below meth c s₁ B9 hml htab hv
  obtain ⟨rfl, hsz, hP, hK, hD0, hE⟩ := hv
  have hx := B9.exec
  have hb := B9.bytes
  have hr := B9.returns
  have hts : ∀ w ∈ WW, w.before ([.ref ho, .int v] : List Value).toArray s = true := fun w h => atoms_spec (ws := .code yX6_solve cX6_solve 2 (some .char) :: WW) B9.pre w (List.mem_cons_of_mem _ h)
  have hown : s.vm.findClass RX6 = some m.cls := findClass_of_methodNamed B9.named
  subst hsz
  have hD := hD0.self (sz := s.heap.size)
  generalize hAe : va_A [(ho, .inr (11, [.ref al, .ref sv, .ref ts, .ref pb, .null, .int lr])), (al, .inr (4, [.int md, .ref (gE G), .int (nI 0)]))] s.heap.size = A at hD hE ⊢
  have hA : ∀ q : Nat, s.heap.size ≤ q → A q := fun q h => by rw [← hAe]; exact Or.inr h
  have hl := lv_entry ([.ref ho, .int v]) (n := 2) (Nat.le_of_ble_eq_true rfl)
  rw [lg_entry_eq]
  generalize (lg_sl ([.ref ho, .int v]) ++ List.replicate (2 - (lg_sl ([.ref ho, .int v])).length) Slot.unset).toArray = ls at hl ⊢
  have hl : lv_has ls 2 [(0, .ref ho), (1, .int v)] := hl
  refine qgen (fun Q hQ => ?_)
  refine hgen (fun H locs hP hD hS => ?_) hP hD
  refine lv_aload_n hx hb dX6_solve_0 rfl (lv_at hl 0 rfl) ?_
  refine lv_iload_n hx hb dX6_solve_1 rfl (lv_at hl 1 rfl) ?_
  refine finx hP hD hS hA [0, 1] [] (wr := []) rfl rfl (by decide) (by decide) (vx_runV (As := [.int v]) (rest := []) ⟨hx, hb, hml, hown, hts⟩ (c_X6_puzzleAt l G ho al ts pb lr sv md v hst H.size) (cwV 1 hts (gV q566 q568 q23 q45 q569) rfl rfl rfl (by decide +kernel) ⟨Nat.le_of_ble_eq_true rfl, Nat.le_of_ble_eq_true rfl⟩) (preV (q0 := 0) (ci := 11) hK hE hP hD hS hA [0, 1] rfl (by decide) rfl rfl) rfl rfl hl.1 rfl (lv_room (Nat.le_of_ble_eq_true rfl)) dX6_solve_2 ⟨Nat.le_of_ble_eq_true rfl, Nat.le_of_ble_eq_true rfl⟩) (fun ce9 q9 H locs hP hD hS hc9 hv9 hf9 => ?_)
  have hP9 := hP.sub (ws' := [(ho, .inr (11, [.ref al, .ref sv, .ref ts, .ref pb, .null, .int lr])), (al, .inr (4, [.int md, .ref (gE G), .int (nI 0)]))]) [0, 1] rfl
  have hD9 := hD.sub (ws' := [(ho, .inr (11, [.ref al, .ref sv, .ref ts, .ref pb, .null, .int lr])), (al, .inr (4, [.int md, .ref (gE G), .int (nI 0)]))]) [0, 1] (by decide) rfl
  subst hQ
  exact vx_out (E := "java/lang/IndexOutOfBoundsException") (fun x9 h9 => (htab x9 h9).elim) B9.notSynchronized hc9 hv9 hf9 (outX hP9 hD9 hS) hS.2.2 (Nat.le_of_ble_eq_true rfl) (Nat.le_of_ble_eq_true rfl)
set_option maxHeartbeats 4000000 in
set_option maxRecDepth 100000 in
theorem c_X6_steps (l : Launch) (G : GG) (ho : Nat) (al : Nat) (ts : Nat) (pb : Nat) (lr : Int32) (sv : Nat) (md : Int32) (v : Int32) (hst : l.stackTraces = false) : Mx l G yX6_steps cX6_steps 2 (some .int) ({ frames := 7, cells := 1, slots := 6, locals := 103 } : Room) [.ref ho, .int v] [(ho, .inr (11, [.ref al, .ref sv, .ref ts, .ref pb, .null, .int lr])), (al, .inr (4, [.int md, .ref (gE G), .int (nI 0)]))] "java/lang/IndexOutOfBoundsException" [(ho, .inr (11, [.ref al, .ref sv, .ref ts, .ref pb, .null, .int lr])), (al, .inr (4, [.int md, .ref (gE G), .int (nI 0)]))] := by
  intro sz
  refine vx_ofW (cc := cX6_steps) (maxL := 2) (ret := (some .int)) (by decide) rfl ?_
  intro p e s m args below meth c s₁ B9 hml htab hv
  obtain ⟨rfl, hsz, hP, hK, hD0, hE⟩ := hv
  have hx := B9.exec
  have hb := B9.bytes
  have hr := B9.returns
  have hts : ∀ w ∈ WW, w.before ([.ref ho, .int v] : List Value).toArray s = true := fun w h => atoms_spec (ws := .code yX6_steps cX6_steps 2 (some .int) :: WW) B9.pre w (List.mem_cons_of_mem _ h)
  have hown : s.vm.findClass RX6 = some m.cls := findClass_of_methodNamed B9.named
  subst hsz
  have hD := hD0.self (sz := s.heap.size)
  generalize hAe : va_A [(ho, .inr (11, [.ref al, .ref sv, .ref ts, .ref pb, .null, .int lr])), (al, .inr (4, [.int md, .ref (gE G), .int (nI 0)]))] s.heap.size = A at hD hE ⊢
  have hA : ∀ q : Nat, s.heap.size ≤ q → A q := fun q h => by rw [← hAe]; exact Or.inr h
  have hl := lv_entry ([.ref ho, .int v]) (n := 2) (Nat.le_of_ble_eq_true rfl)
  rw [lg_entry_eq]
  generalize (lg_sl ([.ref ho, .int v]) ++ List.replicate (2 - (lg_sl ([.ref ho, .int v])).length) Slot.unset).toArray = ls at hl ⊢
  have hl : lv_has ls 2 [(0, .ref ho), (1, .int v)] := hl
  refine qgen (fun Q hQ => ?_)
  refine hgen (fun H locs hP hD hS => ?_) hP hD
  refine lv_aload_n hx hb dX6_steps_0 rfl (lv_at hl 0 rfl) ?_
  refine lv_iload_n hx hb dX6_steps_1 rfl (lv_at hl 1 rfl) ?_
  refine finx hP hD hS hA [0, 1] [] (wr := []) rfl rfl (by decide) (by decide) (vx_runV (As := [.int v]) (rest := []) ⟨hx, hb, hml, hown, hts⟩ (c_X6_puzzleAt l G ho al ts pb lr sv md v hst H.size) (cwV 1 hts (gV q566 q568 q23 q45 q569) rfl rfl rfl (by decide +kernel) ⟨Nat.le_of_ble_eq_true rfl, Nat.le_of_ble_eq_true rfl⟩) (preV (q0 := 0) (ci := 11) hK hE hP hD hS hA [0, 1] rfl (by decide) rfl rfl) rfl rfl hl.1 rfl (lv_room (Nat.le_of_ble_eq_true rfl)) dX6_steps_2 ⟨Nat.le_of_ble_eq_true rfl, Nat.le_of_ble_eq_true rfl⟩) (fun ce9 q9 H locs hP hD hS hc9 hv9 hf9 => ?_)
  have hP9 := hP.sub (ws' := [(ho, .inr (11, [.ref al, .ref sv, .ref ts, .ref pb, .null, .int lr])), (al, .inr (4, [.int md, .ref (gE G), .int (nI 0)]))]) [0, 1] rfl
  have hD9 := hD.sub (ws' := [(ho, .inr (11, [.ref al, .ref sv, .ref ts, .ref pb, .null, .int lr])), (al, .inr (4, [.int md, .ref (gE G), .int (nI 0)]))]) [0, 1] (by decide) rfl
  subst hQ
  exact vx_out (E := "java/lang/IndexOutOfBoundsException") (fun x9 h9 => (htab x9 h9).elim) B9.notSynchronized hc9 hv9 hf9 (outX hP9 hD9 hS) hS.2.2 (Nat.le_of_ble_eq_true rfl) (Nat.le_of_ble_eq_true rfl)
set_option maxHeartbeats 4000000 in
set_option maxRecDepth 100000 in
theorem c_X6_stepAt (l : Launch) (G : GG) (ho : Nat) (al : Nat) (ts : Nat) (pb : Nat) (lr : Int32) (sv : Nat) (md : Int32) (v : Int32) (v2 : Int32) (hst : l.stackTraces = false) : Mx l G yX6_stepAt cX6_stepAt 4 (some .int) ({ frames := 7, cells := 1, slots := 6, locals := 103 } : Room) [.ref ho, .int v, .int v2] [(ho, .inr (11, [.ref al, .ref sv, .ref ts, .ref pb, .null, .int lr])), (al, .inr (4, [.int md, .ref (gE G), .int (nI 0)]))] "java/lang/IndexOutOfBoundsException" [(ho, .inr (11, [.ref al, .ref sv, .ref ts, .ref pb, .null, .int lr])), (al, .inr (4, [.int md, .ref (gE G), .int (nI 0)]))] := by
  intro sz
  refine vx_ofW (cc := cX6_stepAt) (maxL := 4) (ret := (some .int)) (by decide) rfl ?_
  intro p e s m args below meth c s₁ B9 hml htab hv
  obtain ⟨rfl, hsz, hP, hK, hD0, hE⟩ := hv
  have hx := B9.exec
  have hb := B9.bytes
  have hr := B9.returns
  have hts : ∀ w ∈ WW, w.before ([.ref ho, .int v, .int v2] : List Value).toArray s = true := fun w h => atoms_spec (ws := .code yX6_stepAt cX6_stepAt 4 (some .int) :: WW) B9.pre w (List.mem_cons_of_mem _ h)
  have hown : s.vm.findClass RX6 = some m.cls := findClass_of_methodNamed B9.named
  subst hsz
  have hD := hD0.self (sz := s.heap.size)
  generalize hAe : va_A [(ho, .inr (11, [.ref al, .ref sv, .ref ts, .ref pb, .null, .int lr])), (al, .inr (4, [.int md, .ref (gE G), .int (nI 0)]))] s.heap.size = A at hD hE ⊢
  have hA : ∀ q : Nat, s.heap.size ≤ q → A q := fun q h => by rw [← hAe]; exact Or.inr h
  have hl := lv_entry ([.ref ho, .int v, .int v2]) (n := 4) (Nat.le_of_ble_eq_true rfl)
  rw [lg_entry_eq]
  generalize (lg_sl ([.ref ho, .int v, .int v2]) ++ List.replicate (4 - (lg_sl ([.ref ho, .int v, .int v2])).length) Slot.unset).toArray = ls at hl ⊢
  have hl : lv_has ls 4 [(0, .ref ho), (1, .int v), (2, .int v2)] := hl
  refine qgen (fun Q hQ => ?_)
  refine hgen (fun H locs hP hD hS => ?_) hP hD
  refine lv_aload_n hx hb dX6_stepAt_0 rfl (lv_at hl 0 rfl) ?_
  refine lv_iload_n hx hb dX6_stepAt_1 rfl (lv_at hl 1 rfl) ?_
  refine finx hP hD hS hA [0, 1] [] (wr := []) rfl rfl (by decide) (by decide) (vx_runV (As := [.int v]) (rest := []) ⟨hx, hb, hml, hown, hts⟩ (c_X6_puzzleAt l G ho al ts pb lr sv md v hst H.size) (cwV 1 hts (gV q566 q568 q23 q45 q569) rfl rfl rfl (by decide +kernel) ⟨Nat.le_of_ble_eq_true rfl, Nat.le_of_ble_eq_true rfl⟩) (preV (q0 := 0) (ci := 11) hK hE hP hD hS hA [0, 1] rfl (by decide) rfl rfl) rfl rfl hl.1 rfl (lv_room (Nat.le_of_ble_eq_true rfl)) dX6_stepAt_2 ⟨Nat.le_of_ble_eq_true rfl, Nat.le_of_ble_eq_true rfl⟩) (fun ce9 q9 H locs hP hD hS hc9 hv9 hf9 => ?_)
  have hP9 := hP.sub (ws' := [(ho, .inr (11, [.ref al, .ref sv, .ref ts, .ref pb, .null, .int lr])), (al, .inr (4, [.int md, .ref (gE G), .int (nI 0)]))]) [0, 1] rfl
  have hD9 := hD.sub (ws' := [(ho, .inr (11, [.ref al, .ref sv, .ref ts, .ref pb, .null, .int lr])), (al, .inr (4, [.int md, .ref (gE G), .int (nI 0)]))]) [0, 1] (by decide) rfl
  subst hQ
  exact vx_out (E := "java/lang/IndexOutOfBoundsException") (fun x9 h9 => (htab x9 h9).elim) B9.notSynchronized hc9 hv9 hf9 (outX hP9 hD9 hS) hS.2.2 (Nat.le_of_ble_eq_true rfl) (Nat.le_of_ble_eq_true rfl)
set_option maxHeartbeats 4000000 in
set_option maxRecDepth 100000 in
theorem c_X6_grade (l : Launch) (G : GG) (ho : Nat) (al : Nat) (ts : Nat) (pb : Nat) (lr : Int32) (sv : Nat) (md : Int32) (v : Int32) (hst : l.stackTraces = false) : Mx l G yX6_grade cX6_grade 3 (some .int) ({ frames := 7, cells := 1, slots := 6, locals := 103 } : Room) [.ref ho, .int v] [(ho, .inr (11, [.ref al, .ref sv, .ref ts, .ref pb, .null, .int lr])), (al, .inr (4, [.int md, .ref (gE G), .int (nI 0)]))] "java/lang/IndexOutOfBoundsException" [(ho, .inr (11, [.ref al, .ref sv, .ref ts, .ref pb, .null, .int lr])), (al, .inr (4, [.int md, .ref (gE G), .int (nI 0)]))] := by
  intro sz
  refine vx_ofW (cc := cX6_grade) (maxL := 3) (ret := (some .int)) (by decide) rfl ?_
  intro p e s m args below meth c s₁ B9 hml htab hv
  obtain ⟨rfl, hsz, hP, hK, hD0, hE⟩ := hv
  have hx := B9.exec
  have hb := B9.bytes
  have hr := B9.returns
  have hts : ∀ w ∈ WW, w.before ([.ref ho, .int v] : List Value).toArray s = true := fun w h => atoms_spec (ws := .code yX6_grade cX6_grade 3 (some .int) :: WW) B9.pre w (List.mem_cons_of_mem _ h)
  have hown : s.vm.findClass RX6 = some m.cls := findClass_of_methodNamed B9.named
  subst hsz
  have hD := hD0.self (sz := s.heap.size)
  generalize hAe : va_A [(ho, .inr (11, [.ref al, .ref sv, .ref ts, .ref pb, .null, .int lr])), (al, .inr (4, [.int md, .ref (gE G), .int (nI 0)]))] s.heap.size = A at hD hE ⊢
  have hA : ∀ q : Nat, s.heap.size ≤ q → A q := fun q h => by rw [← hAe]; exact Or.inr h
  have hl := lv_entry ([.ref ho, .int v]) (n := 3) (Nat.le_of_ble_eq_true rfl)
  rw [lg_entry_eq]
  generalize (lg_sl ([.ref ho, .int v]) ++ List.replicate (3 - (lg_sl ([.ref ho, .int v])).length) Slot.unset).toArray = ls at hl ⊢
  have hl : lv_has ls 3 [(0, .ref ho), (1, .int v)] := hl
  refine qgen (fun Q hQ => ?_)
  refine hgen (fun H locs hP hD hS => ?_) hP hD
  refine lv_aload_n hx hb dX6_grade_0 rfl (lv_at hl 0 rfl) ?_
  refine lv_iload_n hx hb dX6_grade_1 rfl (lv_at hl 1 rfl) ?_
  refine finx hP hD hS hA [0, 1] [] (wr := []) rfl rfl (by decide) (by decide) (vx_runV (As := [.int v]) (rest := []) ⟨hx, hb, hml, hown, hts⟩ (c_X6_puzzleAt l G ho al ts pb lr sv md v hst H.size) (cwV 1 hts (gV q566 q568 q23 q45 q569) rfl rfl rfl (by decide +kernel) ⟨Nat.le_of_ble_eq_true rfl, Nat.le_of_ble_eq_true rfl⟩) (preV (q0 := 0) (ci := 11) hK hE hP hD hS hA [0, 1] rfl (by decide) rfl rfl) rfl rfl hl.1 rfl (lv_room (Nat.le_of_ble_eq_true rfl)) dX6_grade_2 ⟨Nat.le_of_ble_eq_true rfl, Nat.le_of_ble_eq_true rfl⟩) (fun ce9 q9 H locs hP hD hS hc9 hv9 hf9 => ?_)
  have hP9 := hP.sub (ws' := [(ho, .inr (11, [.ref al, .ref sv, .ref ts, .ref pb, .null, .int lr])), (al, .inr (4, [.int md, .ref (gE G), .int (nI 0)]))]) [0, 1] rfl
  have hD9 := hD.sub (ws' := [(ho, .inr (11, [.ref al, .ref sv, .ref ts, .ref pb, .null, .int lr])), (al, .inr (4, [.int md, .ref (gE G), .int (nI 0)]))]) [0, 1] (by decide) rfl
  subst hQ
  exact vx_out (E := "java/lang/IndexOutOfBoundsException") (fun x9 h9 => (htab x9 h9).elim) B9.notSynchronized hc9 hv9 hf9 (outX hP9 hD9 hS) hS.2.2 (Nat.le_of_ble_eq_true rfl) (Nat.le_of_ble_eq_true rfl)
set_option maxHeartbeats 4000000 in
set_option maxRecDepth 100000 in
theorem c_X6_isMinimal (l : Launch) (G : GG) (ho : Nat) (al : Nat) (ts : Nat) (pb : Nat) (lr : Int32) (sv : Nat) (md : Int32) (v : Int32) (hst : l.stackTraces = false) : Mx l G yX6_isMinimal cX6_isMinimal 4 (some .boolean) ({ frames := 7, cells := 1, slots := 6, locals := 103 } : Room) [.ref ho, .int v] [(ho, .inr (11, [.ref al, .ref sv, .ref ts, .ref pb, .null, .int lr])), (al, .inr (4, [.int md, .ref (gE G), .int (nI 0)]))] "java/lang/IndexOutOfBoundsException" [(ho, .inr (11, [.ref al, .ref sv, .ref ts, .ref pb, .null, .int lr])), (al, .inr (4, [.int md, .ref (gE G), .int (nI 0)]))] := by
  intro sz
  refine vx_ofW (cc := cX6_isMinimal) (maxL := 4) (ret := (some .boolean)) (by decide) rfl ?_
  intro p e s m args below meth c s₁ B9 hml htab hv
  obtain ⟨rfl, hsz, hP, hK, hD0, hE⟩ := hv
  have hx := B9.exec
  have hb := B9.bytes
  have hr := B9.returns
  have hts : ∀ w ∈ WW, w.before ([.ref ho, .int v] : List Value).toArray s = true := fun w h => atoms_spec (ws := .code yX6_isMinimal cX6_isMinimal 4 (some .boolean) :: WW) B9.pre w (List.mem_cons_of_mem _ h)
  have hown : s.vm.findClass RX6 = some m.cls := findClass_of_methodNamed B9.named
  subst hsz
  have hD := hD0.self (sz := s.heap.size)
  generalize hAe : va_A [(ho, .inr (11, [.ref al, .ref sv, .ref ts, .ref pb, .null, .int lr])), (al, .inr (4, [.int md, .ref (gE G), .int (nI 0)]))] s.heap.size = A at hD hE ⊢
  have hA : ∀ q : Nat, s.heap.size ≤ q → A q := fun q h => by rw [← hAe]; exact Or.inr h
  have hl := lv_entry ([.ref ho, .int v]) (n := 4) (Nat.le_of_ble_eq_true rfl)
  rw [lg_entry_eq]
  generalize (lg_sl ([.ref ho, .int v]) ++ List.replicate (4 - (lg_sl ([.ref ho, .int v])).length) Slot.unset).toArray = ls at hl ⊢
  have hl : lv_has ls 4 [(0, .ref ho), (1, .int v)] := hl
  refine qgen (fun Q hQ => ?_)
  refine hgen (fun H locs hP hD hS => ?_) hP hD
  refine lv_aload_n hx hb dX6_isMinimal_0 rfl (lv_at hl 0 rfl) ?_
  refine lv_iload_n hx hb dX6_isMinimal_1 rfl (lv_at hl 1 rfl) ?_
  refine finx hP hD hS hA [0, 1] [] (wr := []) rfl rfl (by decide) (by decide) (vx_runV (As := [.int v]) (rest := []) ⟨hx, hb, hml, hown, hts⟩ (c_X6_puzzleAt l G ho al ts pb lr sv md v hst H.size) (cwV 1 hts (gV q566 q568 q23 q45 q569) rfl rfl rfl (by decide +kernel) ⟨Nat.le_of_ble_eq_true rfl, Nat.le_of_ble_eq_true rfl⟩) (preV (q0 := 0) (ci := 11) hK hE hP hD hS hA [0, 1] rfl (by decide) rfl rfl) rfl rfl hl.1 rfl (lv_room (Nat.le_of_ble_eq_true rfl)) dX6_isMinimal_2 ⟨Nat.le_of_ble_eq_true rfl, Nat.le_of_ble_eq_true rfl⟩) (fun ce9 q9 H locs hP hD hS hc9 hv9 hf9 => ?_)
  have hP9 := hP.sub (ws' := [(ho, .inr (11, [.ref al, .ref sv, .ref ts, .ref pb, .null, .int lr])), (al, .inr (4, [.int md, .ref (gE G), .int (nI 0)]))]) [0, 1] rfl
  have hD9 := hD.sub (ws' := [(ho, .inr (11, [.ref al, .ref sv, .ref ts, .ref pb, .null, .int lr])), (al, .inr (4, [.int md, .ref (gE G), .int (nI 0)]))]) [0, 1] (by decide) rfl
  subst hQ
  exact vx_out (E := "java/lang/IndexOutOfBoundsException") (fun x9 h9 => (htab x9 h9).elim) B9.notSynchronized hc9 hv9 hf9 (outX hP9 hD9 hS) hS.2.2 (Nat.le_of_ble_eq_true rfl) (Nat.le_of_ble_eq_true rfl)
set_option maxHeartbeats 4000000 in
set_option maxRecDepth 100000 in
theorem c_X6_areAlike (l : Launch) (G : GG) (ho : Nat) (al : Nat) (ts : Nat) (pb : Nat) (lr : Int32) (sv : Nat) (md : Int32) (v : Int32) (v2 : Int32) (hst : l.stackTraces = false) : Mx l G yX6_areAlike cX6_areAlike 6 (some .boolean) ({ frames := 7, cells := 1, slots := 6, locals := 103 } : Room) [.ref ho, .int v, .int v2] [(ho, .inr (11, [.ref al, .ref sv, .ref ts, .ref pb, .null, .int lr])), (al, .inr (4, [.int md, .ref (gE G), .int (nI 0)]))] "java/lang/IndexOutOfBoundsException" [(ho, .inr (11, [.ref al, .ref sv, .ref ts, .ref pb, .null, .int lr])), (al, .inr (4, [.int md, .ref (gE G), .int (nI 0)]))] := by
  intro sz
  refine vx_ofW (cc := cX6_areAlike) (maxL := 6) (ret := (some .boolean)) (by decide) rfl ?_
  intro p e s m args below meth c s₁ B9 hml htab hv
  obtain ⟨rfl, hsz, hP, hK, hD0, hE⟩ := hv
  have hx := B9.exec
  have hb := B9.bytes
  have hr := B9.returns
  have hts : ∀ w ∈ WW, w.before ([.ref ho, .int v, .int v2] : List Value).toArray s = true := fun w h => atoms_spec (ws := .code yX6_areAlike cX6_areAlike 6 (some .boolean) :: WW) B9.pre w (List.mem_cons_of_mem _ h)
  have hown : s.vm.findClass RX6 = some m.cls := findClass_of_methodNamed B9.named
  subst hsz
  have hD := hD0.self (sz := s.heap.size)
  generalize hAe : va_A [(ho, .inr (11, [.ref al, .ref sv, .ref ts, .ref pb, .null, .int lr])), (al, .inr (4, [.int md, .ref (gE G), .int (nI 0)]))] s.heap.size = A at hD hE ⊢
  have hA : ∀ q : Nat, s.heap.size ≤ q → A q := fun q h => by rw [← hAe]; exact Or.inr h
  have hl := lv_entry ([.ref ho, .int v, .int v2]) (n := 6) (Nat.le_of_ble_eq_true rfl)
  rw [lg_entry_eq]
  generalize (lg_sl ([.ref ho, .int v, .int v2]) ++ List.replicate (6 - (lg_sl ([.ref ho, .int v, .int v2])).length) Slot.unset).toArray = ls at hl ⊢
  have hl : lv_has ls 6 [(0, .ref ho), (1, .int v), (2, .int v2)] := hl
  refine qgen (fun Q hQ => ?_)
  refine hgen (fun H locs hP hD hS => ?_) hP hD
  refine lv_aload_n hx hb dX6_areAlike_0 rfl (lv_at hl 0 rfl) ?_
  refine lv_iload_n hx hb dX6_areAlike_1 rfl (lv_at hl 1 rfl) ?_
  refine finx hP hD hS hA [0, 1] [] (wr := []) rfl rfl (by decide) (by decide) (vx_runV (As := [.int v]) (rest := []) ⟨hx, hb, hml, hown, hts⟩ (c_X6_puzzleAt l G ho al ts pb lr sv md v hst H.size) (cwV 1 hts (gV q566 q568 q23 q45 q569) rfl rfl rfl (by decide +kernel) ⟨Nat.le_of_ble_eq_true rfl, Nat.le_of_ble_eq_true rfl⟩) (preV (q0 := 0) (ci := 11) hK hE hP hD hS hA [0, 1] rfl (by decide) rfl rfl) rfl rfl hl.1 rfl (lv_room (Nat.le_of_ble_eq_true rfl)) dX6_areAlike_2 ⟨Nat.le_of_ble_eq_true rfl, Nat.le_of_ble_eq_true rfl⟩) (fun ce9 q9 H locs hP hD hS hc9 hv9 hf9 => ?_)
  have hP9 := hP.sub (ws' := [(ho, .inr (11, [.ref al, .ref sv, .ref ts, .ref pb, .null, .int lr])), (al, .inr (4, [.int md, .ref (gE G), .int (nI 0)]))]) [0, 1] rfl
  have hD9 := hD.sub (ws' := [(ho, .inr (11, [.ref al, .ref sv, .ref ts, .ref pb, .null, .int lr])), (al, .inr (4, [.int md, .ref (gE G), .int (nI 0)]))]) [0, 1] (by decide) rfl
  subst hQ
  exact vx_out (E := "java/lang/IndexOutOfBoundsException") (fun x9 h9 => (htab x9 h9).elim) B9.notSynchronized hc9 hv9 hf9 (outX hP9 hD9 hS) hS.2.2 (Nat.le_of_ble_eq_true rfl) (Nat.le_of_ble_eq_true rfl)
set_option maxHeartbeats 4000000 in
set_option maxRecDepth 100000 in
theorem c_X6_begin (l : Launch) (G : GG) (ho : Nat) (al : Nat) (ts : Nat) (pb : Nat) (lr : Int32) (sv : Nat) (md : Int32) (v : Int32) (hst : l.stackTraces = false) : Mx l G yX6_begin cX6_begin 2 (some .int) ({ frames := 7, cells := 1, slots := 6, locals := 103 } : Room) [.ref ho, .int v] [(ho, .inr (11, [.ref al, .ref sv, .ref ts, .ref pb, .null, .int lr])), (al, .inr (4, [.int md, .ref (gE G), .int (nI 0)]))] "java/lang/IndexOutOfBoundsException" [(ho, .inr (11, [.ref al, .ref sv, .ref ts, .ref pb, .null, .int lr])), (al, .inr (4, [.int md, .ref (gE G), .int (nI 0)]))] := by
  intro sz
  refine vx_ofW (cc := cX6_begin) (maxL := 2) (ret := (some .int)) (by decide) rfl ?_
  intro p e s m args below meth c s₁ B9 hml htab hv
  obtain ⟨rfl, hsz, hP, hK, hD0, hE⟩ := hv
  have hx := B9.exec
  have hb := B9.bytes
  have hr := B9.returns
  have hts : ∀ w ∈ WW, w.before ([.ref ho, .int v] : List Value).toArray s = true := fun w h => atoms_spec (ws := .code yX6_begin cX6_begin 2 (some .int) :: WW) B9.pre w (List.mem_cons_of_mem _ h)
  have hown : s.vm.findClass RX6 = some m.cls := findClass_of_methodNamed B9.named
  subst hsz
  have hD := hD0.self (sz := s.heap.size)
  generalize hAe : va_A [(ho, .inr (11, [.ref al, .ref sv, .ref ts, .ref pb, .null, .int lr])), (al, .inr (4, [.int md, .ref (gE G), .int (nI 0)]))] s.heap.size = A at hD hE ⊢
  have hA : ∀ q : Nat, s.heap.size ≤ q → A q := fun q h => by rw [← hAe]; exact Or.inr h
  have hl := lv_entry ([.ref ho, .int v]) (n := 2) (Nat.le_of_ble_eq_true rfl)
  rw [lg_entry_eq]
  generalize (lg_sl ([.ref ho, .int v]) ++ List.replicate (2 - (lg_sl ([.ref ho, .int v])).length) Slot.unset).toArray = ls at hl ⊢
  have hl : lv_has ls 2 [(0, .ref ho), (1, .int v)] := hl
  refine qgen (fun Q hQ => ?_)
  refine hgen (fun H locs hP hD hS => ?_) hP hD
  refine lv_aload_n hx hb dX6_begin_0 rfl (lv_at hl 0 rfl) ?_
  refine lv_aload_n hx hb dX6_begin_1 rfl (lv_at hl 0 rfl) ?_
  refine lv_iload_n hx hb dX6_begin_2 rfl (lv_at hl 1 rfl) ?_
  refine finx hP hD hS hA [0, 1] [] (wr := []) rfl rfl (by decide) (by decide) (vx_runV (As := [.int v]) (rest := [.ref ho]) ⟨hx, hb, hml, hown, hts⟩ (c_X6_puzzleAt l G ho al ts pb lr sv md v hst H.size) (cwV 1 hts (gV q566 q568 q23 q45 q569) rfl rfl rfl (by decide +kernel) ⟨Nat.le_of_ble_eq_true rfl, Nat.le_of_ble_eq_true rfl⟩) (preV (q0 := 0) (ci := 11) hK hE hP hD hS hA [0, 1] rfl (by decide) rfl rfl) rfl rfl hl.1 rfl (lv_room (Nat.le_of_ble_eq_true rfl)) dX6_begin_3 ⟨Nat.le_of_ble_eq_true rfl, Nat.le_of_ble_eq_true rfl⟩) (fun ce9 q9 H locs hP hD hS hc9 hv9 hf9 => ?_)
  have hP9 := hP.sub (ws' := [(ho, .inr (11, [.ref al, .ref sv, .ref ts, .ref pb, .null, .int lr])), (al, .inr (4, [.int md, .ref (gE G), .int (nI 0)]))]) [0, 1] rfl
  have hD9 := hD.sub (ws' := [(ho, .inr (11, [.ref al, .ref sv, .ref ts, .ref pb, .null, .int lr])), (al, .inr (4, [.int md, .ref (gE G), .int (nI 0)]))]) [0, 1] (by decide) rfl
  subst hQ
  exact vx_out (E := "java/lang/IndexOutOfBoundsException") (fun x9 h9 => (htab x9 h9).elim) B9.notSynchronized hc9 hv9 hf9 (outX hP9 hD9 hS) hS.2.2 (Nat.le_of_ble_eq_true rfl) (Nat.le_of_ble_eq_true rfl)
set_option maxHeartbeats 4000000 in
set_option maxRecDepth 100000 in
theorem c_X6_mark (l : Launch) (G : GG) (ho : Nat) (al : Nat) (ts : Nat) (pb : Nat) (lr : Int32) (sv : Nat) (md : Int32) (v : Int32) (v2 : Int32) (x : Int32) (hst : l.stackTraces = false) : Mx l G yX6_mark cX6_mark 6 (some .int) ({ frames := 7, cells := 1, slots := 6, locals := 103 } : Room) [.ref ho, .int v, .int v2, .int x] [(ho, .inr (11, [.ref al, .ref sv, .ref ts, .ref pb, .null, .int lr])), (al, .inr (4, [.int md, .ref (gE G), .int (nI 0)]))] "java/lang/IndexOutOfBoundsException" [(ho, .inr (11, [.ref al, .ref sv, .ref ts, .ref pb, .null, .int lr])), (al, .inr (4, [.int md, .ref (gE G), .int (nI 0)]))] := by
  intro sz
  refine vx_ofW (cc := cX6_mark) (maxL := 6) (ret := (some .int)) (by decide) rfl ?_
  intro p e s m args below meth c s₁ B9 hml htab hv
  obtain ⟨rfl, hsz, hP, hK, hD0, hE⟩ := hv
  have hx := B9.exec
  have hb := B9.bytes
  have hr := B9.returns
  have hts : ∀ w ∈ WW, w.before ([.ref ho, .int v, .int v2, .int x] : List Value).toArray s = true := fun w h => atoms_spec (ws := .code yX6_mark cX6_mark 6 (some .int) :: WW) B9.pre w (List.mem_cons_of_mem _ h)
  have hown : s.vm.findClass RX6 = some m.cls := findClass_of_methodNamed B9.named
  subst hsz
  have hD := hD0.self (sz := s.heap.size)
  generalize hAe : va_A [(ho, .inr (11, [.ref al, .ref sv, .ref ts, .ref pb, .null, .int lr])), (al, .inr (4, [.int md, .ref (gE G), .int (nI 0)]))] s.heap.size = A at hD hE ⊢
  have hA : ∀ q : Nat, s.heap.size ≤ q → A q := fun q h => by rw [← hAe]; exact Or.inr h
  have hl := lv_entry ([.ref ho, .int v, .int v2, .int x]) (n := 6) (Nat.le_of_ble_eq_true rfl)
  rw [lg_entry_eq]
  generalize (lg_sl ([.ref ho, .int v, .int v2, .int x]) ++ List.replicate (6 - (lg_sl ([.ref ho, .int v, .int v2, .int x])).length) Slot.unset).toArray = ls at hl ⊢
  have hl : lv_has ls 6 [(0, .ref ho), (1, .int v), (2, .int v2), (3, .int x)] := hl
  refine qgen (fun Q hQ => ?_)
  refine hgen (fun H locs hP hD hS => ?_) hP hD
  refine lv_aload_n hx hb dX6_mark_0 rfl (lv_at hl 0 rfl) ?_
  refine lv_iload_n hx hb dX6_mark_1 rfl (lv_at hl 1 rfl) ?_
  refine finx hP hD hS hA [0, 1] [] (wr := []) rfl rfl (by decide) (by decide) (vx_runV (As := [.int v]) (rest := []) ⟨hx, hb, hml, hown, hts⟩ (c_X6_puzzleAt l G ho al ts pb lr sv md v hst H.size) (cwV 1 hts (gV q566 q568 q23 q45 q569) rfl rfl rfl (by decide +kernel) ⟨Nat.le_of_ble_eq_true rfl, Nat.le_of_ble_eq_true rfl⟩) (preV (q0 := 0) (ci := 11) hK hE hP hD hS hA [0, 1] rfl (by decide) rfl rfl) rfl rfl hl.1 rfl (lv_room (Nat.le_of_ble_eq_true rfl)) dX6_mark_2 ⟨Nat.le_of_ble_eq_true rfl, Nat.le_of_ble_eq_true rfl⟩) (fun ce9 q9 H locs hP hD hS hc9 hv9 hf9 => ?_)
  have hP9 := hP.sub (ws' := [(ho, .inr (11, [.ref al, .ref sv, .ref ts, .ref pb, .null, .int lr])), (al, .inr (4, [.int md, .ref (gE G), .int (nI 0)]))]) [0, 1] rfl
  have hD9 := hD.sub (ws' := [(ho, .inr (11, [.ref al, .ref sv, .ref ts, .ref pb, .null, .int lr])), (al, .inr (4, [.int md, .ref (gE G), .int (nI 0)]))]) [0, 1] (by decide) rfl
  subst hQ
  exact vx_out (E := "java/lang/IndexOutOfBoundsException") (fun x9 h9 => (htab x9 h9).elim) B9.notSynchronized hc9 hv9 hf9 (outX hP9 hD9 hS) hS.2.2 (Nat.le_of_ble_eq_true rfl) (Nat.le_of_ble_eq_true rfl)
set_option maxHeartbeats 4000000 in
set_option maxRecDepth 100000 in
theorem c_X6_marked (l : Launch) (G : GG) (ho : Nat) (al : Nat) (ts : Nat) (pb : Nat) (lr : Int32) (sv : Nat) (md : Int32) (v : Int32) (v2 : Int32) (hst : l.stackTraces = false) : Mx l G yX6_marked cX6_marked 4 (some .int) ({ frames := 7, cells := 1, slots := 6, locals := 103 } : Room) [.ref ho, .int v, .int v2] [(ho, .inr (11, [.ref al, .ref sv, .ref ts, .ref pb, .null, .int lr])), (al, .inr (4, [.int md, .ref (gE G), .int (nI 0)]))] "java/lang/IndexOutOfBoundsException" [(ho, .inr (11, [.ref al, .ref sv, .ref ts, .ref pb, .null, .int lr])), (al, .inr (4, [.int md, .ref (gE G), .int (nI 0)]))] := by
  intro sz
  refine vx_ofW (cc := cX6_marked) (maxL := 4) (ret := (some .int)) (by decide) rfl ?_
  intro p e s m args below meth c s₁ B9 hml htab hv
  obtain ⟨rfl, hsz, hP, hK, hD0, hE⟩ := hv
  have hx := B9.exec
  have hb := B9.bytes
  have hr := B9.returns
  have hts : ∀ w ∈ WW, w.before ([.ref ho, .int v, .int v2] : List Value).toArray s = true := fun w h => atoms_spec (ws := .code yX6_marked cX6_marked 4 (some .int) :: WW) B9.pre w (List.mem_cons_of_mem _ h)
  have hown : s.vm.findClass RX6 = some m.cls := findClass_of_methodNamed B9.named
  subst hsz
  have hD := hD0.self (sz := s.heap.size)
  generalize hAe : va_A [(ho, .inr (11, [.ref al, .ref sv, .ref ts, .ref pb, .null, .int lr])), (al, .inr (4, [.int md, .ref (gE G), .int (nI 0)]))] s.heap.size = A at hD hE ⊢
  have hA : ∀ q : Nat, s.heap.size ≤ q → A q := fun q h => by rw [← hAe]; exact Or.inr h
  have hl := lv_entry ([.ref ho, .int v, .int v2]) (n := 4) (Nat.le_of_ble_eq_true rfl)
  rw [lg_entry_eq]
  generalize (lg_sl ([.ref ho, .int v, .int v2]) ++ List.replicate (4 - (lg_sl ([.ref ho, .int v, .int v2])).length) Slot.unset).toArray = ls at hl ⊢
  have hl : lv_has ls 4 [(0, .ref ho), (1, .int v), (2, .int v2)] := hl
  refine qgen (fun Q hQ => ?_)
  refine hgen (fun H locs hP hD hS => ?_) hP hD
  refine lv_aload_n hx hb dX6_marked_0 rfl (lv_at hl 0 rfl) ?_
  refine lv_iload_n hx hb dX6_marked_1 rfl (lv_at hl 1 rfl) ?_
  refine finx hP hD hS hA [0, 1] [] (wr := []) rfl rfl (by decide) (by decide) (vx_runV (As := [.int v]) (rest := []) ⟨hx, hb, hml, hown, hts⟩ (c_X6_puzzleAt l G ho al ts pb lr sv md v hst H.size) (cwV 1 hts (gV q566 q568 q23 q45 q569) rfl rfl rfl (by decide +kernel) ⟨Nat.le_of_ble_eq_true rfl, Nat.le_of_ble_eq_true rfl⟩) (preV (q0 := 0) (ci := 11) hK hE hP hD hS hA [0, 1] rfl (by decide) rfl rfl) rfl rfl hl.1 rfl (lv_room (Nat.le_of_ble_eq_true rfl)) dX6_marked_2 ⟨Nat.le_of_ble_eq_true rfl, Nat.le_of_ble_eq_true rfl⟩) (fun ce9 q9 H locs hP hD hS hc9 hv9 hf9 => ?_)
  have hP9 := hP.sub (ws' := [(ho, .inr (11, [.ref al, .ref sv, .ref ts, .ref pb, .null, .int lr])), (al, .inr (4, [.int md, .ref (gE G), .int (nI 0)]))]) [0, 1] rfl
  have hD9 := hD.sub (ws' := [(ho, .inr (11, [.ref al, .ref sv, .ref ts, .ref pb, .null, .int lr])), (al, .inr (4, [.int md, .ref (gE G), .int (nI 0)]))]) [0, 1] (by decide) rfl
  subst hQ
  exact vx_out (E := "java/lang/IndexOutOfBoundsException") (fun x9 h9 => (htab x9 h9).elim) B9.notSynchronized hc9 hv9 hf9 (outX hP9 hD9 hS) hS.2.2 (Nat.le_of_ble_eq_true rfl) (Nat.le_of_ble_eq_true rfl)
set_option maxHeartbeats 4000000 in
set_option maxRecDepth 100000 in
theorem c_X6_wrong (l : Launch) (G : GG) (ho : Nat) (al : Nat) (ts : Nat) (pb : Nat) (lr : Int32) (sv : Nat) (md : Int32) (v : Int32) (hst : l.stackTraces = false) : Mx l G yX6_wrong cX6_wrong 3 (some .int) ({ frames := 7, cells := 1, slots := 6, locals := 103 } : Room) [.ref ho, .int v] [(ho, .inr (11, [.ref al, .ref sv, .ref ts, .ref pb, .null, .int lr])), (al, .inr (4, [.int md, .ref (gE G), .int (nI 0)]))] "java/lang/IndexOutOfBoundsException" [(ho, .inr (11, [.ref al, .ref sv, .ref ts, .ref pb, .null, .int lr])), (al, .inr (4, [.int md, .ref (gE G), .int (nI 0)]))] := by
  intro sz
  refine vx_ofW (cc := cX6_wrong) (maxL := 3) (ret := (some .int)) (by decide) rfl ?_
  intro p e s m args below meth c s₁ B9 hml htab hv
  obtain ⟨rfl, hsz, hP, hK, hD0, hE⟩ := hv
  have hx := B9.exec
  have hb := B9.bytes
  have hr := B9.returns
  have hts : ∀ w ∈ WW, w.before ([.ref ho, .int v] : List Value).toArray s = true := fun w h => atoms_spec (ws := .code yX6_wrong cX6_wrong 3 (some .int) :: WW) B9.pre w (List.mem_cons_of_mem _ h)
  have hown : s.vm.findClass RX6 = some m.cls := findClass_of_methodNamed B9.named
  subst hsz
  have hD := hD0.self (sz := s.heap.size)
  generalize hAe : va_A [(ho, .inr (11, [.ref al, .ref sv, .ref ts, .ref pb, .null, .int lr])), (al, .inr (4, [.int md, .ref (gE G), .int (nI 0)]))] s.heap.size = A at hD hE ⊢
  have hA : ∀ q : Nat, s.heap.size ≤ q → A q := fun q h => by rw [← hAe]; exact Or.inr h
  have hl := lv_entry ([.ref ho, .int v]) (n := 3) (Nat.le_of_ble_eq_true rfl)
  rw [lg_entry_eq]
  generalize (lg_sl ([.ref ho, .int v]) ++ List.replicate (3 - (lg_sl ([.ref ho, .int v])).length) Slot.unset).toArray = ls at hl ⊢
  have hl : lv_has ls 3 [(0, .ref ho), (1, .int v)] := hl
  refine qgen (fun Q hQ => ?_)
  refine hgen (fun H locs hP hD hS => ?_) hP hD
  refine lv_aload_n hx hb dX6_wrong_0 rfl (lv_at hl 0 rfl) ?_
  refine lv_iload_n hx hb dX6_wrong_1 rfl (lv_at hl 1 rfl) ?_
  refine finx hP hD hS hA [0, 1] [] (wr := []) rfl rfl (by decide) (by decide) (vx_runV (As := [.int v]) (rest := []) ⟨hx, hb, hml, hown, hts⟩ (c_X6_puzzleAt l G ho al ts pb lr sv md v hst H.size) (cwV 1 hts (gV q566 q568 q23 q45 q569) rfl rfl rfl (by decide +kernel) ⟨Nat.le_of_ble_eq_true rfl, Nat.le_of_ble_eq_true rfl⟩) (preV (q0 := 0) (ci := 11) hK hE hP hD hS hA [0, 1] rfl (by decide) rfl rfl) rfl rfl hl.1 rfl (lv_room (Nat.le_of_ble_eq_true rfl)) dX6_wrong_2 ⟨Nat.le_of_ble_eq_true rfl, Nat.le_of_ble_eq_true rfl⟩) (fun ce9 q9 H locs hP hD hS hc9 hv9 hf9 => ?_)
  have hP9 := hP.sub (ws' := [(ho, .inr (11, [.ref al, .ref sv, .ref ts, .ref pb, .null, .int lr])), (al, .inr (4, [.int md, .ref (gE G), .int (nI 0)]))]) [0, 1] rfl
  have hD9 := hD.sub (ws' := [(ho, .inr (11, [.ref al, .ref sv, .ref ts, .ref pb, .null, .int lr])), (al, .inr (4, [.int md, .ref (gE G), .int (nI 0)]))]) [0, 1] (by decide) rfl
  subst hQ
  exact vx_out (E := "java/lang/IndexOutOfBoundsException") (fun x9 h9 => (htab x9 h9).elim) B9.notSynchronized hc9 hv9 hf9 (outX hP9 hD9 hS) hS.2.2 (Nat.le_of_ble_eq_true rfl) (Nat.le_of_ble_eq_true rfl)
set_option maxHeartbeats 4000000 in
set_option maxRecDepth 100000 in
theorem c_X6_hint (l : Launch) (G : GG) (ho : Nat) (al : Nat) (ts : Nat) (pb : Nat) (lr : Int32) (sv : Nat) (md : Int32) (v : Int32) (hst : l.stackTraces = false) : Mx l G yX6_hint cX6_hint 6 (some .int) ({ frames := 7, cells := 1, slots := 6, locals := 103 } : Room) [.ref ho, .int v] [(ho, .inr (11, [.ref al, .ref sv, .ref ts, .ref pb, .null, .int lr])), (al, .inr (4, [.int md, .ref (gE G), .int (nI 0)]))] "java/lang/IndexOutOfBoundsException" [(ho, .inr (11, [.ref al, .ref sv, .ref ts, .ref pb, .null, .int lr])), (al, .inr (4, [.int md, .ref (gE G), .int (nI 0)]))] := by
  intro sz
  refine vx_ofW (cc := cX6_hint) (maxL := 6) (ret := (some .int)) (by decide) rfl ?_
  intro p e s m args below meth c s₁ B9 hml htab hv
  obtain ⟨rfl, hsz, hP, hK, hD0, hE⟩ := hv
  have hx := B9.exec
  have hb := B9.bytes
  have hr := B9.returns
  have hts : ∀ w ∈ WW, w.before ([.ref ho, .int v] : List Value).toArray s = true := fun w h => atoms_spec (ws := .code yX6_hint cX6_hint 6 (some .int) :: WW) B9.pre w (List.mem_cons_of_mem _ h)
  have hown : s.vm.findClass RX6 = some m.cls := findClass_of_methodNamed B9.named
  subst hsz
  have hD := hD0.self (sz := s.heap.size)
  generalize hAe : va_A [(ho, .inr (11, [.ref al, .ref sv, .ref ts, .ref pb, .null, .int lr])), (al, .inr (4, [.int md, .ref (gE G), .int (nI 0)]))] s.heap.size = A at hD hE ⊢
  have hA : ∀ q : Nat, s.heap.size ≤ q → A q := fun q h => by rw [← hAe]; exact Or.inr h
  have hl := lv_entry ([.ref ho, .int v]) (n := 6) (Nat.le_of_ble_eq_true rfl)
  rw [lg_entry_eq]
  generalize (lg_sl ([.ref ho, .int v]) ++ List.replicate (6 - (lg_sl ([.ref ho, .int v])).length) Slot.unset).toArray = ls at hl ⊢
  have hl : lv_has ls 6 [(0, .ref ho), (1, .int v)] := hl
  refine qgen (fun Q hQ => ?_)
  refine hgen (fun H locs hP hD hS => ?_) hP hD
  refine lv_aload_n hx hb dX6_hint_0 rfl (lv_at hl 0 rfl) ?_
  refine lv_iload_n hx hb dX6_hint_1 rfl (lv_at hl 1 rfl) ?_
  refine finx hP hD hS hA [0, 1] [] (wr := []) rfl rfl (by decide) (by decide) (vx_runV (As := [.int v]) (rest := []) ⟨hx, hb, hml, hown, hts⟩ (c_X6_puzzleAt l G ho al ts pb lr sv md v hst H.size) (cwV 1 hts (gV q566 q568 q23 q45 q569) rfl rfl rfl (by decide +kernel) ⟨Nat.le_of_ble_eq_true rfl, Nat.le_of_ble_eq_true rfl⟩) (preV (q0 := 0) (ci := 11) hK hE hP hD hS hA [0, 1] rfl (by decide) rfl rfl) rfl rfl hl.1 rfl (lv_room (Nat.le_of_ble_eq_true rfl)) dX6_hint_2 ⟨Nat.le_of_ble_eq_true rfl, Nat.le_of_ble_eq_true rfl⟩) (fun ce9 q9 H locs hP hD hS hc9 hv9 hf9 => ?_)
  have hP9 := hP.sub (ws' := [(ho, .inr (11, [.ref al, .ref sv, .ref ts, .ref pb, .null, .int lr])), (al, .inr (4, [.int md, .ref (gE G), .int (nI 0)]))]) [0, 1] rfl
  have hD9 := hD.sub (ws' := [(ho, .inr (11, [.ref al, .ref sv, .ref ts, .ref pb, .null, .int lr])), (al, .inr (4, [.int md, .ref (gE G), .int (nI 0)]))]) [0, 1] (by decide) rfl
  subst hQ
  exact vx_out (E := "java/lang/IndexOutOfBoundsException") (fun x9 h9 => (htab x9 h9).elim) B9.notSynchronized hc9 hv9 hf9 (outX hP9 hD9 hS) hS.2.2 (Nat.le_of_ble_eq_true rfl) (Nat.le_of_ble_eq_true rfl)
set_option maxHeartbeats 4000000 in
set_option maxRecDepth 100000 in
theorem c_tell_1 (l : Launch) (G : GG) (ho : Nat) (al : Nat) (ts : Nat) (pb : Nat) (lr : Int32) (sv : Nat) (md : Int32) (v : Int32) (v2 : Int32) (x : Int32) (hst : l.stackTraces = false) (hbad : v2 < nI 0 ∨ nI 15 < v2) : Mx l G yX6_tell cX6_tell 4 (some .int) ({ frames := 7, cells := 1, slots := 6, locals := 102 } : Room) [.ref ho, .int v, .int v2, .int x] [(ho, .inr (11, [.ref al, .ref sv, .ref ts, .ref pb, .null, .int lr])), (al, .inr (4, [.int md, .ref (gE G), .int (nI 0)]))] "java/lang/IndexOutOfBoundsException" [(ho, .inr (11, [.ref al, .ref sv, .ref ts, .ref pb, .null, .int lr])), (al, .inr (4, [.int md, .ref (gE G), .int (nI 0)]))] := by
  intro sz
  refine vx_ofW (cc := cX6_tell) (maxL := 4) (ret := (some .int)) (by decide) rfl ?_
  intro p e s m args below meth c s₁ B9 hml htab hv
  obtain ⟨rfl, hsz, hP, hK, hD0, hE⟩ := hv
  have hx := B9.exec
  have hb := B9.bytes
  have hr := B9.returns
  have hts : ∀ w ∈ WW, w.before ([.ref ho, .int v, .int v2, .int x] : List Value).toArray s = true := fun w h => atoms_spec (ws := .code yX6_tell cX6_tell 4 (some .int) :: WW) B9.pre w (List.mem_cons_of_mem _ h)
  have hown : s.vm.findClass RX6 = some m.cls := findClass_of_methodNamed B9.named
  subst hsz
  have hD := hD0.self (sz := s.heap.size)
  generalize hAe : va_A [(ho, .inr (11, [.ref al, .ref sv, .ref ts, .ref pb, .null, .int lr])), (al, .inr (4, [.int md, .ref (gE G), .int (nI 0)]))] s.heap.size = A at hD hE ⊢
  have hA : ∀ q : Nat, s.heap.size ≤ q → A q := fun q h => by rw [← hAe]; exact Or.inr h
  have hl := lv_entry ([.ref ho, .int v, .int v2, .int x]) (n := 4) (Nat.le_of_ble_eq_true rfl)
  rw [lg_entry_eq]
  generalize (lg_sl ([.ref ho, .int v, .int v2, .int x]) ++ List.replicate (4 - (lg_sl ([.ref ho, .int v, .int v2, .int x])).length) Slot.unset).toArray = ls at hl ⊢
  have hl : lv_has ls 4 [(0, .ref ho), (1, .int v), (2, .int v2), (3, .int x)] := hl
  refine qgen (fun Q hQ => ?_)
  refine hgen (fun H locs hP hD hS => ?_) hP hD
  refine lv_iload_n hx hb dX6_tell_0 rfl (lv_at hl 2 rfl) ?_
  refine finx hP hD hS hA [] [0, 1] (wr := [(ho, .inr (11, [.ref al, .ref sv, .ref ts, .ref pb, .null, .int lr])), (al, .inr (4, [.int md, .ref (gE G), .int (nI 0)]))]) rfl rfl (by decide) (by decide) (vx_runS (As := [.int v2]) (rest := []) ⟨hx, hb, hml, hown, hts⟩ (c_X6_checkCell l G v2 hst (by omega) H.size) (va_cwS 1 hts (gSt q583 q584 q45 q585) rfl rfl rfl (by decide +kernel) ⟨Nat.le_of_ble_eq_true rfl, Nat.le_of_ble_eq_true rfl⟩) (preS hK hE hP hD hS hA [] rfl (by decide)) rfl rfl hl.1 rfl (lv_room (Nat.le_of_ble_eq_true rfl)) dX6_tell_1 ⟨Nat.le_of_ble_eq_true rfl, Nat.le_of_ble_eq_true rfl⟩) (fun ce9 q9 H locs hP hD hS hc9 hv9 hf9 => ?_)
  have hP9 := hP.sub (ws' := [(ho, .inr (11, [.ref al, .ref sv, .ref ts, .ref pb, .null, .int lr])), (al, .inr (4, [.int md, .ref (gE G), .int (nI 0)]))]) [0, 1] rfl
  have hD9 := hD.sub (ws' := [(ho, .inr (11, [.ref al, .ref sv, .ref ts, .ref pb, .null, .int lr])), (al, .inr (4, [.int md, .ref (gE G), .int (nI 0)]))]) [0, 1] (by decide) rfl
  subst hQ
  exact vx_out (E := "java/lang/IndexOutOfBoundsException") (fun x9 h9 => (htab x9 h9).elim) B9.notSynchronized hc9 hv9 hf9 (outX hP9 hD9 hS) hS.2.2 (Nat.le_of_ble_eq_true rfl) (Nat.le_of_ble_eq_true rfl)
set_option maxHeartbeats 4000000 in
set_option maxRecDepth 100000 in
theorem c_tell_2a (l : Launch) (G : GG) (ho : Nat) (al : Nat) (ts : Nat) (pb : Nat) (lr : Int32) (sv : Nat) (md : Int32) (v : Int32) (k : Nat) (x : Int32) (hst : l.stackTraces = false) (hk : k < 16) (hbad : v < nI 0 ∨ nI 4 < v) : Mx l G yX6_tell cX6_tell 4 (some .int) ({ frames := 6, cells := 1, slots := 6, locals := 82 } : Room) [.ref ho, .int v, .int (nI k), .int x] [(ho, .inr (11, [.ref al, .ref sv, .ref ts, .ref pb, .null, .int lr])), (al, .inr (4, [.int md, .ref (gE G), .int (nI 0)]))] "java/lang/IllegalArgumentException" [(ho, .inr (11, [.ref al, .ref sv, .ref ts, .ref pb, .null, .int lr])), (al, .inr (4, [.int md, .ref (gE G), .int (nI 0)]))] := by
  intro sz
  refine vx_ofW (cc := cX6_tell) (maxL := 4) (ret := (some .int)) (by decide) rfl ?_
  intro p e s m args below meth c s₁ B9 hml htab hv
  obtain ⟨rfl, hsz, hP, hK, hD0, hE⟩ := hv
  have hx := B9.exec
  have hb := B9.bytes
  have hr := B9.returns
  have hts : ∀ w ∈ WW, w.before ([.ref ho, .int v, .int (nI k), .int x] : List Value).toArray s = true := fun w h => atoms_spec (ws := .code yX6_tell cX6_tell 4 (some .int) :: WW) B9.pre w (List.mem_cons_of_mem _ h)
  have hown : s.vm.findClass RX6 = some m.cls := findClass_of_methodNamed B9.named
  subst hsz
  have hD := hD0.self (sz := s.heap.size)
  generalize hAe : va_A [(ho, .inr (11, [.ref al, .ref sv, .ref ts, .ref pb, .null, .int lr])), (al, .inr (4, [.int md, .ref (gE G), .int (nI 0)]))] s.heap.size = A at hD hE ⊢
  have hA : ∀ q : Nat, s.heap.size ≤ q → A q := fun q h => by rw [← hAe]; exact Or.inr h
  have hl := lv_entry ([.ref ho, .int v, .int (nI k), .int x]) (n := 4) (Nat.le_of_ble_eq_true rfl)
  rw [lg_entry_eq]
  generalize (lg_sl ([.ref ho, .int v, .int (nI k), .int x]) ++ List.replicate (4 - (lg_sl ([.ref ho, .int v, .int (nI k), .int x])).length) Slot.unset).toArray = ls at hl ⊢
  have hl : lv_has ls 4 [(0, .ref ho), (1, .int v), (2, .int (nI k)), (3, .int x)] := hl
  refine qgen (fun Q hQ => ?_)
  refine hgen (fun H locs hP hD hS => ?_) hP hD
  refine lv_iload_n hx hb dX6_tell_0 rfl (lv_at hl 2 rfl) ?_
  refine fin_v hP hD hS hA [] [0, 1] (wr := [(ho, .inr (11, [.ref al, .ref sv, .ref ts, .ref pb, .null, .int lr])), (al, .inr (4, [.int md, .ref (gE G), .int (nI 0)]))]) rfl rfl (by decide) (by decide) (va_runS (As := [.int (nI k)]) (rest := []) ⟨hx, hb, hml, hown, hts⟩ (c_checkCell_ok l G k (by omega) H.size) (va_cwS 1 hts (gSt q583 q584 q45 q585) rfl rfl rfl (by decide +kernel) ⟨Nat.le_of_ble_eq_true rfl, Nat.le_of_ble_eq_true rfl⟩) (preS hK hE hP hD hS hA [] rfl (by decide)) rfl rfl hl.1 rfl (lv_room (Nat.le_of_ble_eq_true rfl)) dX6_tell_1 ⟨Nat.le_of_ble_eq_true rfl, Nat.le_of_ble_eq_true rfl⟩) (fun u9 hw_1 H locs hP hD hS => ?_)
  have hP : va_P (gD G) vwCl [(ho, .inr (11, [.ref al, .ref sv, .ref ts, .ref pb, .null, .int lr])), (al, .inr (4, [.int md, .ref (gE G), .int (nI 0)]))] H := hP
  have hD : va_D A [(ho, .inr (11, [.ref al, .ref sv, .ref ts, .ref pb, .null, .int lr])), (al, .inr (4, [.int md, .ref (gE G), .int (nI 0)]))] := hD
  refine lv_iload_n hx hb dX6_tell_4 rfl (lv_at hl 1 rfl) ?_
  refine lv_if_lt (tgt := 23) hx hb dX6_tell_5 (by decide) (fun c_3 => ?_) (fun c_3 => ?_)
  · skip
    have hP9 := hP.sub (ws' := [(ho, .inr (11, [.ref al, .ref sv, .ref ts, .ref pb, .null, .int lr])), (al, .inr (4, [.int md, .ref (gE G), .int (nI 0)]))]) [0, 1] rfl
    have hD9 := hD.sub (ws' := [(ho, .inr (11, [.ref al, .ref sv, .ref ts, .ref pb, .null, .int lr])), (al, .inr (4, [.int md, .ref (gE G), .int (nI 0)]))]) [0, 1] (by decide) rfl
    subst hQ
    exact vx_throwS (own := RX6) (cls := "java/lang/IllegalArgumentException") (text := "there is no such rule or value") (names := NMs) (ik := 82) (is := 181) (ic := 86) (sa := gS G 181) hx hb hst hown fit86 fitNM (hts _ q590) (hts _ q68) (hE.1.2.2.2.2.2.1 (RX6, 181, "there is no such rule or value") ST3) (atw atW86 atN86 hts hE) atG86 hE.2.2.2.2.2.2.2.1 hE.2.2.2.2.2.2.2.2.1 hS (hml.trans hl.1.symm).symm dX6_tell_23 dX6_tell_26 dX6_tell_27 dX6_tell_29 dX6_tell_32 (fun x9 h9 => (htab x9 h9).elim) (Nat.le_of_ble_eq_true rfl) (Nat.le_of_ble_eq_true rfl) (Nat.le_of_ble_eq_true rfl) (Nat.le_of_ble_eq_true rfl) B9.notSynchronized (thrX hP9 hD9 hS) hS.2.2 (Nat.le_of_ble_eq_true rfl) (Nat.le_of_ble_eq_true rfl)
  · skip
    refine lv_iload_n hx hb dX6_tell_8 rfl (lv_at hl 1 rfl) ?_
    refine lv_iconst (v := nI 4) hx hb dX6_tell_9 (by decide) ?_
    refine lv_icmp_gt (tgt := 23) hx hb dX6_tell_10 (by decide) (fun c_4 => ?_) (fun c_4 => ?_)
    · skip
      have hP9 := hP.sub (ws' := [(ho, .inr (11, [.ref al, .ref sv, .ref ts, .ref pb, .null, .int lr])), (al, .inr (4, [.int md, .ref (gE G), .int (nI 0)]))]) [0, 1] rfl
      have hD9 := hD.sub (ws' := [(ho, .inr (11, [.ref al, .ref sv, .ref ts, .ref pb, .null, .int lr])), (al, .inr (4, [.int md, .ref (gE G), .int (nI 0)]))]) [0, 1] (by decide) rfl
      subst hQ
      exact vx_throwS (own := RX6) (cls := "java/lang/IllegalArgumentException") (text := "there is no such rule or value") (names := NMs) (ik := 82) (is := 181) (ic := 86) (sa := gS G 181) hx hb hst hown fit86 fitNM (hts _ q590) (hts _ q68) (hE.1.2.2.2.2.2.1 (RX6, 181, "there is no such rule or value") ST3) (atw atW86 atN86 hts hE) atG86 hE.2.2.2.2.2.2.2.1 hE.2.2.2.2.2.2.2.2.1 hS (hml.trans hl.1.symm).symm dX6_tell_23 dX6_tell_26 dX6_tell_27 dX6_tell_29 dX6_tell_32 (fun x9 h9 => (htab x9 h9).elim) (Nat.le_of_ble_eq_true rfl) (Nat.le_of_ble_eq_true rfl) (Nat.le_of_ble_eq_true rfl) (Nat.le_of_ble_eq_true rfl) B9.notSynchronized (thrX hP9 hD9 hS) hS.2.2 (Nat.le_of_ble_eq_true rfl) (Nat.le_of_ble_eq_true rfl)
    · skip
      exact False.elim (hbad.elim c_3 c_4)
set_option maxHeartbeats 4000000 in
set_option maxRecDepth 100000 in
theorem c_tell_2b (l : Launch) (G : GG) (ho : Nat) (al : Nat) (ts : Nat) (pb : Nat) (lr : Int32) (sv : Nat) (md : Int32) (rl : Nat) (k : Nat) (x : Int32) (hst : l.stackTraces = false) (hrl : rl < 5) (hk : k < 16) (hbad : x < nI 1 ∨ nI 4 < x) : Mx l G yX6_tell cX6_tell 4 (some .int) ({ frames := 6, cells := 1, slots := 6, locals := 82 } : Room) [.ref ho, .int (nI rl), .int (nI k), .int x] [(ho, .inr (11, [.ref al, .ref sv, .ref ts, .ref pb, .null, .int lr])), (al, .inr (4, [.int md, .ref (gE G), .int (nI 0)]))] "java/lang/IllegalArgumentException" [(ho, .inr (11, [.ref al, .ref sv, .ref ts, .ref pb, .null, .int lr])), (al, .inr (4, [.int md, .ref (gE G), .int (nI 0)]))] := by
  intro sz
  refine vx_ofW (cc := cX6_tell) (maxL := 4) (ret := (some .int)) (by decide) rfl ?_
  intro p e s m args below meth c s₁ B9 hml htab hv
  obtain ⟨rfl, hsz, hP, hK, hD0, hE⟩ := hv
  have hx := B9.exec
  have hb := B9.bytes
  have hr := B9.returns
  have hts : ∀ w ∈ WW, w.before ([.ref ho, .int (nI rl), .int (nI k), .int x] : List Value).toArray s = true := fun w h => atoms_spec (ws := .code yX6_tell cX6_tell 4 (some .int) :: WW) B9.pre w (List.mem_cons_of_mem _ h)
  have hown : s.vm.findClass RX6 = some m.cls := findClass_of_methodNamed B9.named
  subst hsz
  have hD := hD0.self (sz := s.heap.size)
  generalize hAe : va_A [(ho, .inr (11, [.ref al, .ref sv, .ref ts, .ref pb, .null, .int lr])), (al, .inr (4, [.int md, .ref (gE G), .int (nI 0)]))] s.heap.size = A at hD hE ⊢
  have hA : ∀ q : Nat, s.heap.size ≤ q → A q := fun q h => by rw [← hAe]; exact Or.inr h
  have hl := lv_entry ([.ref ho, .int (nI rl), .int (nI k), .int x]) (n := 4) (Nat.le_of_ble_eq_true rfl)
  rw [lg_entry_eq]
  generalize (lg_sl ([.ref ho, .int (nI rl), .int (nI k), .int x]) ++ List.replicate (4 - (lg_sl ([.ref ho, .int (nI rl), .int (nI k), .int x])).length) Slot.unset).toArray = ls at hl ⊢
  have hl : lv_has ls 4 [(0, .ref ho), (1, .int (nI rl)), (2, .int (nI k)), (3, .int x)] := hl
  refine qgen (fun Q hQ => ?_)
  refine hgen (fun H locs hP hD hS => ?_) hP hD
  refine lv_iload_n hx hb dX6_tell_0 rfl (lv_at hl 2 rfl) ?_
  refine fin_v hP hD hS hA [] [0, 1] (wr := [(ho, .inr (11, [.ref al, .ref sv, .ref ts, .ref pb, .null, .int lr])), (al, .inr (4, [.int md, .ref (gE G), .int (nI 0)]))]) rfl rfl (by decide) (by decide) (va_runS (As := [.int (nI k)]) (rest := []) ⟨hx, hb, hml, hown, hts⟩ (c_checkCell_ok l G k (by omega) H.size) (va_cwS 1 hts (gSt q583 q584 q45 q585) rfl rfl rfl (by decide +kernel) ⟨Nat.le_of_ble_eq_true rfl, Nat.le_of_ble_eq_true rfl⟩) (preS hK hE hP hD hS hA [] rfl (by decide)) rfl rfl hl.1 rfl (lv_room (Nat.le_of_ble_eq_true rfl)) dX6_tell_1 ⟨Nat.le_of_ble_eq_true rfl, Nat.le_of_ble_eq_true rfl⟩) (fun u9 hw_1 H locs hP hD hS => ?_)
  have hP : va_P (gD G) vwCl [(ho, .inr (11, [.ref al, .ref sv, .ref ts, .ref pb, .null, .int lr])), (al, .inr (4, [.int md, .ref (gE G), .int (nI 0)]))] H := hP
  have hD : va_D A [(ho, .inr (11, [.ref al, .ref sv, .ref ts, .ref pb, .null, .int lr])), (al, .inr (4, [.int md, .ref (gE G), .int (nI 0)]))] := hD
  refine lv_iload_n hx hb dX6_tell_4 rfl (lv_at hl 1 rfl) ?_
  refine lv_if_lt (tgt := 23) hx hb dX6_tell_5 (by decide) (fun c_3 => ?_) (fun c_3 => ?_)
  · skip
    have c_3 : rl < 0 := (nI_ltI (a := rl) (b := 0) (by omega) (by omega)).mp c_3
    exfalso; omega
  · skip
    have c_3 : ¬ rl < 0 := fun z => c_3 ((nI_ltI (a := rl) (b := 0) (by omega) (by omega)).mpr z)
    refine lv_iload_n hx hb dX6_tell_8 rfl (lv_at hl 1 rfl) ?_
    refine lv_iconst (v := nI 4) hx hb dX6_tell_9 (by decide) ?_
    refine lv_icmp_gt (tgt := 23) hx hb dX6_tell_10 (by decide) (fun c_4 => ?_) (fun c_4 => ?_)
    · skip
      have c_4 : 4 < rl := (nI_ltI (a := 4) (b := rl) (by omega) (by omega)).mp c_4
      exfalso; omega
    · skip
      have c_4 : ¬ 4 < rl := fun z => c_4 ((nI_ltI (a := 4) (b := rl) (by omega) (by omega)).mpr z)
      refine lv_iload_n hx hb dX6_tell_13 rfl (lv_at hl 3 rfl) ?_
      refine lv_iconst (v := nI 1) hx hb dX6_tell_14 (by decide) ?_
      refine lv_icmp_lt (tgt := 23) hx hb dX6_tell_15 (by decide) (fun c_5 => ?_) (fun c_5 => ?_)
      · skip
        have hP9 := hP.sub (ws' := [(ho, .inr (11, [.ref al, .ref sv, .ref ts, .ref pb, .null, .int lr])), (al, .inr (4, [.int md, .ref (gE G), .int (nI 0)]))]) [0, 1] rfl
        have hD9 := hD.sub (ws' := [(ho, .inr (11, [.ref al, .ref sv, .ref ts, .ref pb, .null, .int lr])), (al, .inr (4, [.int md, .ref (gE G), .int (nI 0)]))]) [0, 1] (by decide) rfl
        subst hQ
        exact vx_throwS (own := RX6) (cls := "java/lang/IllegalArgumentException") (text := "there is no such rule or value") (names := NMs) (ik := 82) (is := 181) (ic := 86) (sa := gS G 181) hx hb hst hown fit86 fitNM (hts _ q590) (hts _ q68) (hE.1.2.2.2.2.2.1 (RX6, 181, "there is no such rule or value") ST3) (atw atW86 atN86 hts hE) atG86 hE.2.2.2.2.2.2.2.1 hE.2.2.2.2.2.2.2.2.1 hS (hml.trans hl.1.symm).symm dX6_tell_23 dX6_tell_26 dX6_tell_27 dX6_tell_29 dX6_tell_32 (fun x9 h9 => (htab x9 h9).elim) (Nat.le_of_ble_eq_true rfl) (Nat.le_of_ble_eq_true rfl) (Nat.le_of_ble_eq_true rfl) (Nat.le_of_ble_eq_true rfl) B9.notSynchronized (thrX hP9 hD9 hS) hS.2.2 (Nat.le_of_ble_eq_true rfl) (Nat.le_of_ble_eq_true rfl)
      · skip
        refine lv_iload_n hx hb dX6_tell_18 rfl (lv_at hl 3 rfl) ?_
        refine lv_iconst (v := nI 4) hx hb dX6_tell_19 (by decide) ?_
        refine lv_icmp_le (tgt := 33) hx hb dX6_tell_20 (by decide) (fun c_6 => ?_) (fun c_6 => ?_)
        · skip
          exact (le_bad (by decide) hbad c_5 c_6).elim
        · skip
          have hP9 := hP.sub (ws' := [(ho, .inr (11, [.ref al, .ref sv, .ref ts, .ref pb, .null, .int lr])), (al, .inr (4, [.int md, .ref (gE G), .int (nI 0)]))]) [0, 1] rfl
          have hD9 := hD.sub (ws' := [(ho, .inr (11, [.ref al, .ref sv, .ref ts, .ref pb, .null, .int lr])), (al, .inr (4, [.int md, .ref (gE G), .int (nI 0)]))]) [0, 1] (by decide) rfl
          subst hQ
          exact vx_throwS (own := RX6) (cls := "java/lang/IllegalArgumentException") (text := "there is no such rule or value") (names := NMs) (ik := 82) (is := 181) (ic := 86) (sa := gS G 181) hx hb hst hown fit86 fitNM (hts _ q590) (hts _ q68) (hE.1.2.2.2.2.2.1 (RX6, 181, "there is no such rule or value") ST3) (atw atW86 atN86 hts hE) atG86 hE.2.2.2.2.2.2.2.1 hE.2.2.2.2.2.2.2.2.1 hS (hml.trans hl.1.symm).symm dX6_tell_23 dX6_tell_26 dX6_tell_27 dX6_tell_29 dX6_tell_32 (fun x9 h9 => (htab x9 h9).elim) (Nat.le_of_ble_eq_true rfl) (Nat.le_of_ble_eq_true rfl) (Nat.le_of_ble_eq_true rfl) (Nat.le_of_ble_eq_true rfl) B9.notSynchronized (thrX hP9 hD9 hS) hS.2.2 (Nat.le_of_ble_eq_true rfl) (Nat.le_of_ble_eq_true rfl)
set_option maxHeartbeats 4000000 in
set_option maxRecDepth 100000 in
theorem c_tell_3 (l : Launch) (G : GG) (ho : Nat) (al : Nat) (ts : Nat) (pb : Nat) (lr : Int32) (sv : Nat) (md : Int32) (rl : Nat) (k : Nat) (x : Nat) (hst : l.stackTraces = false) (hrl : rl < 5) (hk : k < 16) (hx1 : 1 ≤ x) (hx4 : x ≤ 4) : Mx l G yX6_tell cX6_tell 4 (some .int) ({ frames := 6, cells := 1, slots := 6, locals := 82 } : Room) [.ref ho, .int (nI rl), .int (nI k), .int (nI x)] [(ho, .inr (11, [.ref al, .ref sv, .ref ts, .ref pb, .null, .int lr])), (al, .inr (4, [.int md, .ref (gE G), .int (nI 0)]))] "java/lang/IllegalStateException" [(ho, .inr (11, [.ref al, .ref sv, .ref ts, .ref pb, .null, .int lr])), (al, .inr (4, [.int md, .ref (gE G), .int (nI 0)]))] := by
  intro sz
  refine vx_ofW (cc := cX6_tell) (maxL := 4) (ret := (some .int)) (by decide) rfl ?_
  intro p e s m args below meth c s₁ B9 hml htab hv
  obtain ⟨rfl, hsz, hP, hK, hD0, hE⟩ := hv
  have hx := B9.exec
  have hb := B9.bytes
  have hr := B9.returns
  have hts : ∀ w ∈ WW, w.before ([.ref ho, .int (nI rl), .int (nI k), .int (nI x)] : List Value).toArray s = true := fun w h => atoms_spec (ws := .code yX6_tell cX6_tell 4 (some .int) :: WW) B9.pre w (List.mem_cons_of_mem _ h)
  have hown : s.vm.findClass RX6 = some m.cls := findClass_of_methodNamed B9.named
  subst hsz
  have hD := hD0.self (sz := s.heap.size)
  generalize hAe : va_A [(ho, .inr (11, [.ref al, .ref sv, .ref ts, .ref pb, .null, .int lr])), (al, .inr (4, [.int md, .ref (gE G), .int (nI 0)]))] s.heap.size = A at hD hE ⊢
  have hA : ∀ q : Nat, s.heap.size ≤ q → A q := fun q h => by rw [← hAe]; exact Or.inr h
  have hl := lv_entry ([.ref ho, .int (nI rl), .int (nI k), .int (nI x)]) (n := 4) (Nat.le_of_ble_eq_true rfl)
  rw [lg_entry_eq]
  generalize (lg_sl ([.ref ho, .int (nI rl), .int (nI k), .int (nI x)]) ++ List.replicate (4 - (lg_sl ([.ref ho, .int (nI rl), .int (nI k), .int (nI x)])).length) Slot.unset).toArray = ls at hl ⊢
  have hl : lv_has ls 4 [(0, .ref ho), (1, .int (nI rl)), (2, .int (nI k)), (3, .int (nI x))] := hl
  refine qgen (fun Q hQ => ?_)
  refine hgen (fun H locs hP hD hS => ?_) hP hD
  refine lv_iload_n hx hb dX6_tell_0 rfl (lv_at hl 2 rfl) ?_
  refine fin_v hP hD hS hA [] [0, 1] (wr := [(ho, .inr (11, [.ref al, .ref sv, .ref ts, .ref pb, .null, .int lr])), (al, .inr (4, [.int md, .ref (gE G), .int (nI 0)]))]) rfl rfl (by decide) (by decide) (va_runS (As := [.int (nI k)]) (rest := []) ⟨hx, hb, hml, hown, hts⟩ (c_checkCell_ok l G k (by omega) H.size) (va_cwS 1 hts (gSt q583 q584 q45 q585) rfl rfl rfl (by decide +kernel) ⟨Nat.le_of_ble_eq_true rfl, Nat.le_of_ble_eq_true rfl⟩) (preS hK hE hP hD hS hA [] rfl (by decide)) rfl rfl hl.1 rfl (lv_room (Nat.le_of_ble_eq_true rfl)) dX6_tell_1 ⟨Nat.le_of_ble_eq_true rfl, Nat.le_of_ble_eq_true rfl⟩) (fun u9 hw_1 H locs hP hD hS => ?_)
  have hP : va_P (gD G) vwCl [(ho, .inr (11, [.ref al, .ref sv, .ref ts, .ref pb, .null, .int lr])), (al, .inr (4, [.int md, .ref (gE G), .int (nI 0)]))] H := hP
  have hD : va_D A [(ho, .inr (11, [.ref al, .ref sv, .ref ts, .ref pb, .null, .int lr])), (al, .inr (4, [.int md, .ref (gE G), .int (nI 0)]))] := hD
  refine lv_iload_n hx hb dX6_tell_4 rfl (lv_at hl 1 rfl) ?_
  refine lv_if_lt (tgt := 23) hx hb dX6_tell_5 (by decide) (fun c_3 => ?_) (fun c_3 => ?_)
  · skip
    have c_3 : rl < 0 := (nI_ltI (a := rl) (b := 0) (by omega) (by omega)).mp c_3
    exfalso; omega
  · skip
    have c_3 : ¬ rl < 0 := fun z => c_3 ((nI_ltI (a := rl) (b := 0) (by omega) (by omega)).mpr z)
    refine lv_iload_n hx hb dX6_tell_8 rfl (lv_at hl 1 rfl) ?_
    refine lv_iconst (v := nI 4) hx hb dX6_tell_9 (by decide) ?_
    refine lv_icmp_gt (tgt := 23) hx hb dX6_tell_10 (by decide) (fun c_4 => ?_) (fun c_4 => ?_)
    · skip
      have c_4 : 4 < rl := (nI_ltI (a := 4) (b := rl) (by omega) (by omega)).mp c_4
      exfalso; omega
    · skip
      have c_4 : ¬ 4 < rl := fun z => c_4 ((nI_ltI (a := 4) (b := rl) (by omega) (by omega)).mpr z)
      refine lv_iload_n hx hb dX6_tell_13 rfl (lv_at hl 3 rfl) ?_
      refine lv_iconst (v := nI 1) hx hb dX6_tell_14 (by decide) ?_
      refine lv_icmp_lt (tgt := 23) hx hb dX6_tell_15 (by decide) (fun c_5 => ?_) (fun c_5 => ?_)
      · skip
        have c_5 : x < 1 := (nI_ltI (a := x) (b := 1) (by omega) (by omega)).mp c_5
        exfalso; omega
      · skip
        have c_5 : ¬ x < 1 := fun z => c_5 ((nI_ltI (a := x) (b := 1) (by omega) (by omega)).mpr z)
        refine lv_iload_n hx hb dX6_tell_18 rfl (lv_at hl 3 rfl) ?_
        refine lv_iconst (v := nI 4) hx hb dX6_tell_19 (by decide) ?_
        refine lv_icmp_le (tgt := 33) hx hb dX6_tell_20 (by decide) (fun c_6 => ?_) (fun c_6 => ?_)
        · skip
          have c_6 : x ≤ 4 := (nI_leI (a := x) (b := 4) (by omega) (by omega)).mp c_6
          refine lv_aload_n hx hb dX6_tell_33 rfl (lv_at hl 0 rfl) ?_
          refine va_get (D := gD G) (ci := 11) (v := .null) (C := RX6) (T := TX6) (N := 6) hx hb hts fwX6 hown hK hP 0 rfl rfl 4 (by decide) (hts _ q185) (fun _ h9 => h9) rfl dX6_tell_34 ?_
          refine lv_ifnonnullN hx hb dX6_tell_37 ?_
          have hP9 := hP.sub (ws' := [(ho, .inr (11, [.ref al, .ref sv, .ref ts, .ref pb, .null, .int lr])), (al, .inr (4, [.int md, .ref (gE G), .int (nI 0)]))]) [0, 1] rfl
          have hD9 := hD.sub (ws' := [(ho, .inr (11, [.ref al, .ref sv, .ref ts, .ref pb, .null, .int lr])), (al, .inr (4, [.int md, .ref (gE G), .int (nI 0)]))]) [0, 1] (by decide) rfl
          subst hQ
          exact vx_throwS (own := RX6) (cls := "java/lang/IllegalStateException") (text := "no proof was begun") (names := NMs) (ik := 49) (is := 183) (ic := 53) (sa := gS G 183) hx hb hst hown fit53 fitNM (hts _ q357) (hts _ q56) (hE.1.2.2.2.2.2.1 (RX6, 183, "no proof was begun") ST2) (atw atW53 atN53 hts hE) atG53 hE.2.2.2.2.2.2.2.1 hE.2.2.2.2.2.2.2.2.1 hS (hml.trans hl.1.symm).symm dX6_tell_40 dX6_tell_43 dX6_tell_44 dX6_tell_46 dX6_tell_49 (fun x9 h9 => (htab x9 h9).elim) (Nat.le_of_ble_eq_true rfl) (Nat.le_of_ble_eq_true rfl) (Nat.le_of_ble_eq_true rfl) (Nat.le_of_ble_eq_true rfl) B9.notSynchronized (thrX hP9 hD9 hS) hS.2.2 (Nat.le_of_ble_eq_true rfl) (Nat.le_of_ble_eq_true rfl)
        · skip
          have c_6 : ¬ x ≤ 4 := fun z => c_6 ((nI_leI (a := x) (b := 4) (by omega) (by omega)).mpr z)
          exfalso; omega
set_option maxHeartbeats 4000000 in
set_option maxRecDepth 100000 in
theorem c_cand_1 (l : Launch) (G : GG) (ho : Nat) (al : Nat) (ts : Nat) (pb : Nat) (lr : Int32) (sv : Nat) (md : Int32) (v : Int32) (hst : l.stackTraces = false) (hbad : v < nI 0 ∨ nI 15 < v) : Mx l G yX6_candidates cX6_candidates 2 (some .int) ({ frames := 7, cells := 1, slots := 6, locals := 102 } : Room) [.ref ho, .int v] [(ho, .inr (11, [.ref al, .ref sv, .ref ts, .ref pb, .null, .int lr])), (al, .inr (4, [.int md, .ref (gE G), .int (nI 0)]))] "java/lang/IndexOutOfBoundsException" [(ho, .inr (11, [.ref al, .ref sv, .ref ts, .ref pb, .null, .int lr])), (al, .inr (4, [.int md, .ref (gE G), .int (nI 0)]))] := by
  intro sz
  refine vx_ofW (cc := cX6_candidates) (maxL := 2) (ret := (some .int)) (by decide) rfl ?_
  intro p e s m args below meth c s₁ B9 hml htab hv
  obtain ⟨rfl, hsz, hP, hK, hD0, hE⟩ := hv
  have hx := B9.exec
  have hb := B9.bytes
  have hr := B9.returns
  have hts : ∀ w ∈ WW, w.before ([.ref ho, .int v] : List Value).toArray s = true := fun w h => atoms_spec (ws := .code yX6_candidates cX6_candidates 2 (some .int) :: WW) B9.pre w (List.mem_cons_of_mem _ h)
  have hown : s.vm.findClass RX6 = some m.cls := findClass_of_methodNamed B9.named
  subst hsz
  have hD := hD0.self (sz := s.heap.size)
  generalize hAe : va_A [(ho, .inr (11, [.ref al, .ref sv, .ref ts, .ref pb, .null, .int lr])), (al, .inr (4, [.int md, .ref (gE G), .int (nI 0)]))] s.heap.size = A at hD hE ⊢
  have hA : ∀ q : Nat, s.heap.size ≤ q → A q := fun q h => by rw [← hAe]; exact Or.inr h
  have hl := lv_entry ([.ref ho, .int v]) (n := 2) (Nat.le_of_ble_eq_true rfl)
  rw [lg_entry_eq]
  generalize (lg_sl ([.ref ho, .int v]) ++ List.replicate (2 - (lg_sl ([.ref ho, .int v])).length) Slot.unset).toArray = ls at hl ⊢
  have hl : lv_has ls 2 [(0, .ref ho), (1, .int v)] := hl
  refine qgen (fun Q hQ => ?_)
  refine hgen (fun H locs hP hD hS => ?_) hP hD
  refine lv_iload_n hx hb dX6_candidates_0 rfl (lv_at hl 1 rfl) ?_
  refine finx hP hD hS hA [] [0, 1] (wr := [(ho, .inr (11, [.ref al, .ref sv, .ref ts, .ref pb, .null, .int lr])), (al, .inr (4, [.int md, .ref (gE G), .int (nI 0)]))]) rfl rfl (by decide) (by decide) (vx_runS (As := [.int v]) (rest := []) ⟨hx, hb, hml, hown, hts⟩ (c_X6_checkCell l G v hst (by omega) H.size) (va_cwS 1 hts (gSt q583 q584 q45 q585) rfl rfl rfl (by decide +kernel) ⟨Nat.le_of_ble_eq_true rfl, Nat.le_of_ble_eq_true rfl⟩) (preS hK hE hP hD hS hA [] rfl (by decide)) rfl rfl hl.1 rfl (lv_room (Nat.le_of_ble_eq_true rfl)) dX6_candidates_1 ⟨Nat.le_of_ble_eq_true rfl, Nat.le_of_ble_eq_true rfl⟩) (fun ce9 q9 H locs hP hD hS hc9 hv9 hf9 => ?_)
  have hP9 := hP.sub (ws' := [(ho, .inr (11, [.ref al, .ref sv, .ref ts, .ref pb, .null, .int lr])), (al, .inr (4, [.int md, .ref (gE G), .int (nI 0)]))]) [0, 1] rfl
  have hD9 := hD.sub (ws' := [(ho, .inr (11, [.ref al, .ref sv, .ref ts, .ref pb, .null, .int lr])), (al, .inr (4, [.int md, .ref (gE G), .int (nI 0)]))]) [0, 1] (by decide) rfl
  subst hQ
  exact vx_out (E := "java/lang/IndexOutOfBoundsException") (fun x9 h9 => (htab x9 h9).elim) B9.notSynchronized hc9 hv9 hf9 (outX hP9 hD9 hS) hS.2.2 (Nat.le_of_ble_eq_true rfl) (Nat.le_of_ble_eq_true rfl)
set_option maxHeartbeats 4000000 in
set_option maxRecDepth 100000 in
theorem c_cand_2 (l : Launch) (G : GG) (ho : Nat) (al : Nat) (ts : Nat) (pb : Nat) (lr : Int32) (sv : Nat) (md : Int32) (k : Nat) (hst : l.stackTraces = false) (hk : k < 16) : Mx l G yX6_candidates cX6_candidates 2 (some .int) ({ frames := 7, cells := 1, slots := 6, locals := 102 } : Room) [.ref ho, .int (nI k)] [(ho, .inr (11, [.ref al, .ref sv, .ref ts, .ref pb, .null, .int lr])), (al, .inr (4, [.int md, .ref (gE G), .int (nI 0)]))] "java/lang/IllegalStateException" [(ho, .inr (11, [.ref al, .ref sv, .ref ts, .ref pb, .null, .int lr])), (al, .inr (4, [.int md, .ref (gE G), .int (nI 0)]))] := by
  intro sz
  refine vx_ofW (cc := cX6_candidates) (maxL := 2) (ret := (some .int)) (by decide) rfl ?_
  intro p e s m args below meth c s₁ B9 hml htab hv
  obtain ⟨rfl, hsz, hP, hK, hD0, hE⟩ := hv
  have hx := B9.exec
  have hb := B9.bytes
  have hr := B9.returns
  have hts : ∀ w ∈ WW, w.before ([.ref ho, .int (nI k)] : List Value).toArray s = true := fun w h => atoms_spec (ws := .code yX6_candidates cX6_candidates 2 (some .int) :: WW) B9.pre w (List.mem_cons_of_mem _ h)
  have hown : s.vm.findClass RX6 = some m.cls := findClass_of_methodNamed B9.named
  subst hsz
  have hD := hD0.self (sz := s.heap.size)
  generalize hAe : va_A [(ho, .inr (11, [.ref al, .ref sv, .ref ts, .ref pb, .null, .int lr])), (al, .inr (4, [.int md, .ref (gE G), .int (nI 0)]))] s.heap.size = A at hD hE ⊢
  have hA : ∀ q : Nat, s.heap.size ≤ q → A q := fun q h => by rw [← hAe]; exact Or.inr h
  have hl := lv_entry ([.ref ho, .int (nI k)]) (n := 2) (Nat.le_of_ble_eq_true rfl)
  rw [lg_entry_eq]
  generalize (lg_sl ([.ref ho, .int (nI k)]) ++ List.replicate (2 - (lg_sl ([.ref ho, .int (nI k)])).length) Slot.unset).toArray = ls at hl ⊢
  have hl : lv_has ls 2 [(0, .ref ho), (1, .int (nI k))] := hl
  refine qgen (fun Q hQ => ?_)
  refine hgen (fun H locs hP hD hS => ?_) hP hD
  refine lv_iload_n hx hb dX6_candidates_0 rfl (lv_at hl 1 rfl) ?_
  refine fin_v hP hD hS hA [] [0, 1] (wr := [(ho, .inr (11, [.ref al, .ref sv, .ref ts, .ref pb, .null, .int lr])), (al, .inr (4, [.int md, .ref (gE G), .int (nI 0)]))]) rfl rfl (by decide) (by decide) (va_runS (As := [.int (nI k)]) (rest := []) ⟨hx, hb, hml, hown, hts⟩ (c_checkCell_ok l G k (by omega) H.size) (va_cwS 1 hts (gSt q583 q584 q45 q585) rfl rfl rfl (by decide +kernel) ⟨Nat.le_of_ble_eq_true rfl, Nat.le_of_ble_eq_true rfl⟩) (preS hK hE hP hD hS hA [] rfl (by decide)) rfl rfl hl.1 rfl (lv_room (Nat.le_of_ble_eq_true rfl)) dX6_candidates_1 ⟨Nat.le_of_ble_eq_true rfl, Nat.le_of_ble_eq_true rfl⟩) (fun u9 hw_1 H locs hP hD hS => ?_)
  have hP : va_P (gD G) vwCl [(ho, .inr (11, [.ref al, .ref sv, .ref ts, .ref pb, .null, .int lr])), (al, .inr (4, [.int md, .ref (gE G), .int (nI 0)]))] H := hP
  have hD : va_D A [(ho, .inr (11, [.ref al, .ref sv, .ref ts, .ref pb, .null, .int lr])), (al, .inr (4, [.int md, .ref (gE G), .int (nI 0)]))] := hD
  refine lv_aload_n hx hb dX6_candidates_4 rfl (lv_at hl 0 rfl) ?_
  refine finx hP hD hS hA [0, 1] [] (wr := []) rfl rfl (by decide) (by decide) (vx_runV (As := []) (rest := []) ⟨hx, hb, hml, hown, hts⟩ (c_X6_checkProof l G ho al ts pb lr sv md hst H.size) (cwV 0 hts (gV q834 q836 q32 q45 q837) rfl rfl rfl (by decide +kernel) ⟨Nat.le_of_ble_eq_true rfl, Nat.le_of_ble_eq_true rfl⟩) (preV (q0 := 0) (ci := 11) hK hE hP hD hS hA [0, 1] rfl (by decide) rfl rfl) rfl rfl hl.1 rfl (lv_room (Nat.le_of_ble_eq_true rfl)) dX6_candidates_5 ⟨Nat.le_of_ble_eq_true rfl, Nat.le_of_ble_eq_true rfl⟩) (fun ce9 q9 H locs hP hD hS hc9 hv9 hf9 => ?_)
  have hP9 := hP.sub (ws' := [(ho, .inr (11, [.ref al, .ref sv, .ref ts, .ref pb, .null, .int lr])), (al, .inr (4, [.int md, .ref (gE G), .int (nI 0)]))]) [0, 1] rfl
  have hD9 := hD.sub (ws' := [(ho, .inr (11, [.ref al, .ref sv, .ref ts, .ref pb, .null, .int lr])), (al, .inr (4, [.int md, .ref (gE G), .int (nI 0)]))]) [0, 1] (by decide) rfl
  subst hQ
  exact vx_out (E := "java/lang/IllegalStateException") (fun x9 h9 => (htab x9 h9).elim) B9.notSynchronized hc9 hv9 hf9 (outX hP9 hD9 hS) hS.2.2 (Nat.le_of_ble_eq_true rfl) (Nat.le_of_ble_eq_true rfl)
set_option maxHeartbeats 4000000 in
set_option maxRecDepth 100000 in
theorem c_whole (l : Launch) (G : GG) (ho : Nat) (al : Nat) (ts : Nat) (pb : Nat) (lr : Int32) (sv : Nat) (md : Int32) (hst : l.stackTraces = false) : Mx l G yX6_isWhole cX6_isWhole 1 (some .boolean) ({ frames := 7, cells := 1, slots := 6, locals := 102 } : Room) [.ref ho] [(ho, .inr (11, [.ref al, .ref sv, .ref ts, .ref pb, .null, .int lr])), (al, .inr (4, [.int md, .ref (gE G), .int (nI 0)]))] "java/lang/IllegalStateException" [(ho, .inr (11, [.ref al, .ref sv, .ref ts, .ref pb, .null, .int lr])), (al, .inr (4, [.int md, .ref (gE G), .int (nI 0)]))] := by
  intro sz
  refine vx_ofW (cc := cX6_isWhole) (maxL := 1) (ret := (some .boolean)) (by decide) rfl ?_
  intro p e s m args below meth c s₁ B9 hml htab hv
  obtain ⟨rfl, hsz, hP, hK, hD0, hE⟩ := hv
  have hx := B9.exec
  have hb := B9.bytes
  have hr := B9.returns
  have hts : ∀ w ∈ WW, w.before ([.ref ho] : List Value).toArray s = true := fun w h => atoms_spec (ws := .code yX6_isWhole cX6_isWhole 1 (some .boolean) :: WW) B9.pre w (List.mem_cons_of_mem _ h)
  have hown : s.vm.findClass RX6 = some m.cls := findClass_of_methodNamed B9.named
  subst hsz
  have hD := hD0.self (sz := s.heap.size)
  generalize hAe : va_A [(ho, .inr (11, [.ref al, .ref sv, .ref ts, .ref pb, .null, .int lr])), (al, .inr (4, [.int md, .ref (gE G), .int (nI 0)]))] s.heap.size = A at hD hE ⊢
  have hA : ∀ q : Nat, s.heap.size ≤ q → A q := fun q h => by rw [← hAe]; exact Or.inr h
  have hl := lv_entry ([.ref ho]) (n := 1) (Nat.le_of_ble_eq_true rfl)
  rw [lg_entry_eq]
  generalize (lg_sl ([.ref ho]) ++ List.replicate (1 - (lg_sl ([.ref ho])).length) Slot.unset).toArray = ls at hl ⊢
  have hl : lv_has ls 1 [(0, .ref ho)] := hl
  refine qgen (fun Q hQ => ?_)
  refine hgen (fun H locs hP hD hS => ?_) hP hD
  refine lv_aload_n hx hb dX6_isWhole_0 rfl (lv_at hl 0 rfl) ?_
  refine finx hP hD hS hA [0, 1] [] (wr := []) rfl rfl (by decide) (by decide) (vx_runV (As := []) (rest := []) ⟨hx, hb, hml, hown, hts⟩ (c_X6_checkProof l G ho al ts pb lr sv md hst H.size) (cwV 0 hts (gV q834 q836 q32 q45 q837) rfl rfl rfl (by decide +kernel) ⟨Nat.le_of_ble_eq_true rfl, Nat.le_of_ble_eq_true rfl⟩) (preV (q0 := 0) (ci := 11) hK hE hP hD hS hA [0, 1] rfl (by decide) rfl rfl) rfl rfl hl.1 rfl (lv_room (Nat.le_of_ble_eq_true rfl)) dX6_isWhole_1 ⟨Nat.le_of_ble_eq_true rfl, Nat.le_of_ble_eq_true rfl⟩) (fun ce9 q9 H locs hP hD hS hc9 hv9 hf9 => ?_)
  have hP9 := hP.sub (ws' := [(ho, .inr (11, [.ref al, .ref sv, .ref ts, .ref pb, .null, .int lr])), (al, .inr (4, [.int md, .ref (gE G), .int (nI 0)]))]) [0, 1] rfl
  have hD9 := hD.sub (ws' := [(ho, .inr (11, [.ref al, .ref sv, .ref ts, .ref pb, .null, .int lr])), (al, .inr (4, [.int md, .ref (gE G), .int (nI 0)]))]) [0, 1] (by decide) rfl
  subst hQ
  exact vx_out (E := "java/lang/IllegalStateException") (fun x9 h9 => (htab x9 h9).elim) B9.notSynchronized hc9 hv9 hf9 (outX hP9 hD9 hS) hS.2.2 (Nat.le_of_ble_eq_true rfl) (Nat.le_of_ble_eq_true rfl)
set_option maxHeartbeats 4000000 in
set_option maxRecDepth 100000 in
theorem c_share (l : Launch) (G : GG) (ho : Nat) (al : Nat) (ts : Nat) (pb : Nat) (lr : Int32) (sv : Nat) (md : Int32) (hst : l.stackTraces = false) : Mx l G yX6_solvedShare cX6_solvedShare 4 (some .float) ({ frames := 6, cells := 1, slots := 6, locals := 82 } : Room) [.ref ho] [(ho, .inr (11, [.ref al, .ref sv, .ref ts, .ref pb, .null, .int lr])), (al, .inr (4, [.int md, .ref (gE G), .int (nI 0)]))] "java/lang/ArithmeticException" [(ho, .inr (11, [.ref al, .ref sv, .ref ts, .ref pb, .null, .int lr])), (al, .inr (4, [.int md, .ref (gE G), .int (nI 0)]))] := by
  intro sz
  refine vx_ofW (cc := cX6_solvedShare) (maxL := 4) (ret := (some .float)) (by decide) rfl ?_
  intro p e s m args below meth c s₁ B9 hml htab hv
  obtain ⟨rfl, hsz, hP, hK, hD0, hE⟩ := hv
  have hx := B9.exec
  have hb := B9.bytes
  have hr := B9.returns
  have hts : ∀ w ∈ WW, w.before ([.ref ho] : List Value).toArray s = true := fun w h => atoms_spec (ws := .code yX6_solvedShare cX6_solvedShare 4 (some .float) :: WW) B9.pre w (List.mem_cons_of_mem _ h)
  have hown : s.vm.findClass RX6 = some m.cls := findClass_of_methodNamed B9.named
  subst hsz
  have hD := hD0.self (sz := s.heap.size)
  generalize hAe : va_A [(ho, .inr (11, [.ref al, .ref sv, .ref ts, .ref pb, .null, .int lr])), (al, .inr (4, [.int md, .ref (gE G), .int (nI 0)]))] s.heap.size = A at hD hE ⊢
  have hA : ∀ q : Nat, s.heap.size ≤ q → A q := fun q h => by rw [← hAe]; exact Or.inr h
  have hl := lv_entry ([.ref ho]) (n := 4) (Nat.le_of_ble_eq_true rfl)
  rw [lg_entry_eq]
  generalize (lg_sl ([.ref ho]) ++ List.replicate (4 - (lg_sl ([.ref ho])).length) Slot.unset).toArray = ls at hl ⊢
  have hl : lv_has ls 4 [(0, .ref ho)] := hl
  refine qgen (fun Q hQ => ?_)
  refine hgen (fun H locs hP hD hS => ?_) hP hD
  refine lv_aload_n hx hb dX6_solvedShare_0 rfl (lv_at hl 0 rfl) ?_
  refine va_get (D := gD G) (ci := 11) (v := .ref al) (C := RX6) (T := TX6) (N := 6) hx hb hts fwX6 hown hK hP 0 rfl rfl 0 (by decide) (hts _ q181) (fun _ h9 => h9) rfl dX6_solvedShare_1 ?_
  refine fin_i hP hD hS hA [1] [0] (wr := [(ho, .inr (11, [.ref al, .ref sv, .ref ts, .ref pb, .null, .int lr]))]) rfl rfl (by decide) (by decide) (va_runV (As := []) (rest := []) ⟨hx, hb, hml, hown, hts⟩ (c_Jx4a65c_size_8abf5 l G al md (gE G) 0 H.size) (cwV 0 hts (gV q208 q209 q210 q48 q211) rfl rfl rfl (by decide +kernel) ⟨Nat.le_of_ble_eq_true rfl, Nat.le_of_ble_eq_true rfl⟩) (preV (q0 := 1) (ci := 4) hK hE hP hD hS hA [1] rfl (by decide) rfl rfl) rfl rfl hl.1 rfl (lv_room (Nat.le_of_ble_eq_true rfl)) dX6_solvedShare_4 ⟨Nat.le_of_ble_eq_true rfl, Nat.le_of_ble_eq_true rfl⟩) (fun r_2 u9 hw_1 H locs hP hD hS => ?_)
  subst hw_1
  have hP : va_P (gD G) vwCl [(ho, .inr (11, [.ref al, .ref sv, .ref ts, .ref pb, .null, .int lr])), (al, .inr (4, [.int md, .ref (gE G), .int (nI 0)]))] H := hP
  have hD : va_D A [(ho, .inr (11, [.ref al, .ref sv, .ref ts, .ref pb, .null, .int lr])), (al, .inr (4, [.int md, .ref (gE G), .int (nI 0)]))] := hD
  refine lv_istore_n (lv' := [(1, .int (nI 0)), (0, .ref ho)]) hx hb dX6_solvedShare_7 rfl hl (by decide) rfl (fun ls hl => ?_)
  refine lv_iload_n hx hb dX6_solvedShare_8 rfl (lv_at hl 0 rfl) ?_
  refine lv_if_ne (tgt := 22) hx hb dX6_solvedShare_9 (by decide) (fun c_3 => ?_) (fun c_3 => ?_)
  · skip
    have c_3 : ¬ 0 = 0 := fun z => c_3 ((nI_eq (a := 0) (b := 0) (by omega) (by omega)).mpr z)
    exact absurd c_3 (by decide)
  · skip
    have c_3 : 0 = 0 := (nI_eq (a := 0) (b := 0) (by omega) (by omega)).mp c_3
    have hP9 := hP.sub (ws' := [(ho, .inr (11, [.ref al, .ref sv, .ref ts, .ref pb, .null, .int lr])), (al, .inr (4, [.int md, .ref (gE G), .int (nI 0)]))]) [0, 1] rfl
    have hD9 := hD.sub (ws' := [(ho, .inr (11, [.ref al, .ref sv, .ref ts, .ref pb, .null, .int lr])), (al, .inr (4, [.int md, .ref (gE G), .int (nI 0)]))]) [0, 1] (by decide) rfl
    subst hQ
    exact vx_throwS (own := RX6) (cls := "java/lang/ArithmeticException") (text := "there are no puzzles") (names := NMs) (ik := 241) (is := 243) (ic := 245) (sa := gS G 243) hx hb hst hown fit245 fitNM (hts _ q909) (hts _ q79) (hE.1.2.2.2.2.2.1 (RX6, 243, "there are no puzzles") ST5) (atw atW245 atN245 hts hE) atG245 hE.2.2.2.2.2.2.2.1 hE.2.2.2.2.2.2.2.2.1 hS (hml.trans hl.1.symm).symm dX6_solvedShare_12 dX6_solvedShare_15 dX6_solvedShare_16 dX6_solvedShare_18 dX6_solvedShare_21 (fun x9 h9 => (htab x9 h9).elim) (Nat.le_of_ble_eq_true rfl) (Nat.le_of_ble_eq_true rfl) (Nat.le_of_ble_eq_true rfl) (Nat.le_of_ble_eq_true rfl) B9.notSynchronized (thrX hP9 hD9 hS) hS.2.2 (Nat.le_of_ble_eq_true rfl) (Nat.le_of_ble_eq_true rfl)
set_option maxHeartbeats 4000000 in
set_option maxRecDepth 100000 in
theorem c_mean (l : Launch) (G : GG) (ho : Nat) (al : Nat) (ts : Nat) (pb : Nat) (lr : Int32) (sv : Nat) (md : Int32) (hst : l.stackTraces = false) : Mx l G yX6_meanGivens cX6_meanGivens 4 (some .double) ({ frames := 6, cells := 1, slots := 6, locals := 82 } : Room) [.ref ho] [(ho, .inr (11, [.ref al, .ref sv, .ref ts, .ref pb, .null, .int lr])), (al, .inr (4, [.int md, .ref (gE G), .int (nI 0)]))] "java/lang/ArithmeticException" [(ho, .inr (11, [.ref al, .ref sv, .ref ts, .ref pb, .null, .int lr])), (al, .inr (4, [.int md, .ref (gE G), .int (nI 0)]))] := by
  intro sz
  refine vx_ofW (cc := cX6_meanGivens) (maxL := 4) (ret := (some .double)) (by decide) rfl ?_
  intro p e s m args below meth c s₁ B9 hml htab hv
  obtain ⟨rfl, hsz, hP, hK, hD0, hE⟩ := hv
  have hx := B9.exec
  have hb := B9.bytes
  have hr := B9.returns
  have hts : ∀ w ∈ WW, w.before ([.ref ho] : List Value).toArray s = true := fun w h => atoms_spec (ws := .code yX6_meanGivens cX6_meanGivens 4 (some .double) :: WW) B9.pre w (List.mem_cons_of_mem _ h)
  have hown : s.vm.findClass RX6 = some m.cls := findClass_of_methodNamed B9.named
  subst hsz
  have hD := hD0.self (sz := s.heap.size)
  generalize hAe : va_A [(ho, .inr (11, [.ref al, .ref sv, .ref ts, .ref pb, .null, .int lr])), (al, .inr (4, [.int md, .ref (gE G), .int (nI 0)]))] s.heap.size = A at hD hE ⊢
  have hA : ∀ q : Nat, s.heap.size ≤ q → A q := fun q h => by rw [← hAe]; exact Or.inr h
  have hl := lv_entry ([.ref ho]) (n := 4) (Nat.le_of_ble_eq_true rfl)
  rw [lg_entry_eq]
  generalize (lg_sl ([.ref ho]) ++ List.replicate (4 - (lg_sl ([.ref ho])).length) Slot.unset).toArray = ls at hl ⊢
  have hl : lv_has ls 4 [(0, .ref ho)] := hl
  refine qgen (fun Q hQ => ?_)
  refine hgen (fun H locs hP hD hS => ?_) hP hD
  refine lv_aload_n hx hb dX6_meanGivens_0 rfl (lv_at hl 0 rfl) ?_
  refine va_get (D := gD G) (ci := 11) (v := .ref al) (C := RX6) (T := TX6) (N := 6) hx hb hts fwX6 hown hK hP 0 rfl rfl 0 (by decide) (hts _ q181) (fun _ h9 => h9) rfl dX6_meanGivens_1 ?_
  refine fin_i hP hD hS hA [1] [0] (wr := [(ho, .inr (11, [.ref al, .ref sv, .ref ts, .ref pb, .null, .int lr]))]) rfl rfl (by decide) (by decide) (va_runV (As := []) (rest := []) ⟨hx, hb, hml, hown, hts⟩ (c_Jx4a65c_size_8abf5 l G al md (gE G) 0 H.size) (cwV 0 hts (gV q208 q209 q210 q48 q211) rfl rfl rfl (by decide +kernel) ⟨Nat.le_of_ble_eq_true rfl, Nat.le_of_ble_eq_true rfl⟩) (preV (q0 := 1) (ci := 4) hK hE hP hD hS hA [1] rfl (by decide) rfl rfl) rfl rfl hl.1 rfl (lv_room (Nat.le_of_ble_eq_true rfl)) dX6_meanGivens_4 ⟨Nat.le_of_ble_eq_true rfl, Nat.le_of_ble_eq_true rfl⟩) (fun r_2 u9 hw_1 H locs hP hD hS => ?_)
  subst hw_1
  have hP : va_P (gD G) vwCl [(ho, .inr (11, [.ref al, .ref sv, .ref ts, .ref pb, .null, .int lr])), (al, .inr (4, [.int md, .ref (gE G), .int (nI 0)]))] H := hP
  have hD : va_D A [(ho, .inr (11, [.ref al, .ref sv, .ref ts, .ref pb, .null, .int lr])), (al, .inr (4, [.int md, .ref (gE G), .int (nI 0)]))] := hD
  refine lv_istore_n (lv' := [(1, .int (nI 0)), (0, .ref ho)]) hx hb dX6_meanGivens_7 rfl hl (by decide) rfl (fun ls hl => ?_)
  refine lv_iload_n hx hb dX6_meanGivens_8 rfl (lv_at hl 0 rfl) ?_
  refine lv_if_ne (tgt := 22) hx hb dX6_meanGivens_9 (by decide) (fun c_3 => ?_) (fun c_3 => ?_)
  · skip
    have c_3 : ¬ 0 = 0 := fun z => c_3 ((nI_eq (a := 0) (b := 0) (by omega) (by omega)).mpr z)
    exact absurd c_3 (by decide)
  · skip
    have c_3 : 0 = 0 := (nI_eq (a := 0) (b := 0) (by omega) (by omega)).mp c_3
    have hP9 := hP.sub (ws' := [(ho, .inr (11, [.ref al, .ref sv, .ref ts, .ref pb, .null, .int lr])), (al, .inr (4, [.int md, .ref (gE G), .int (nI 0)]))]) [0, 1] rfl
    have hD9 := hD.sub (ws' := [(ho, .inr (11, [.ref al, .ref sv, .ref ts, .ref pb, .null, .int lr])), (al, .inr (4, [.int md, .ref (gE G), .int (nI 0)]))]) [0, 1] (by decide) rfl
    subst hQ
    exact vx_throwS (own := RX6) (cls := "java/lang/ArithmeticException") (text := "there are no puzzles") (names := NMs) (ik := 241) (is := 243) (ic := 245) (sa := gS G 243) hx hb hst hown fit245 fitNM (hts _ q909) (hts _ q79) (hE.1.2.2.2.2.2.1 (RX6, 243, "there are no puzzles") ST5) (atw atW245 atN245 hts hE) atG245 hE.2.2.2.2.2.2.2.1 hE.2.2.2.2.2.2.2.2.1 hS (hml.trans hl.1.symm).symm dX6_meanGivens_12 dX6_meanGivens_15 dX6_meanGivens_16 dX6_meanGivens_18 dX6_meanGivens_21 (fun x9 h9 => (htab x9 h9).elim) (Nat.le_of_ble_eq_true rfl) (Nat.le_of_ble_eq_true rfl) (Nat.le_of_ble_eq_true rfl) (Nat.le_of_ble_eq_true rfl) B9.notSynchronized (thrX hP9 hD9 hS) hS.2.2 (Nat.le_of_ble_eq_true rfl) (Nat.le_of_ble_eq_true rfl)
set_option maxHeartbeats 4000000 in
set_option maxRecDepth 100000 in
theorem c_make_1a (l : Launch) (G : GG) (ho : Nat) (al : Nat) (ts : Nat) (pb : Nat) (lr : Int32) (sv : Nat) (md : Int32) (v : Int32) (v2 : Int32) (hst : l.stackTraces = false) (hbad : v < nI 0 ∨ nI 9999 < v) : Mx l G yX6_make cX6_make 5 (some .int) ({ frames := 6, cells := 1, slots := 6, locals := 82 } : Room) [.ref ho, .int v, .int v2] [(ho, .inr (11, [.ref al, .ref sv, .ref ts, .ref pb, .null, .int lr])), (al, .inr (4, [.int md, .ref (gE G), .int (nI 0)]))] "java/lang/IllegalArgumentException" [(ho, .inr (11, [.ref al, .ref sv, .ref ts, .ref pb, .null, .int lr])), (al, .inr (4, [.int md, .ref (gE G), .int (nI 0)]))] := by
  intro sz
  refine vx_ofW (cc := cX6_make) (maxL := 5) (ret := (some .int)) (by decide) rfl ?_
  intro p e s m args below meth c s₁ B9 hml htab hv
  obtain ⟨rfl, hsz, hP, hK, hD0, hE⟩ := hv
  have hx := B9.exec
  have hb := B9.bytes
  have hr := B9.returns
  have hts : ∀ w ∈ WW, w.before ([.ref ho, .int v, .int v2] : List Value).toArray s = true := fun w h => atoms_spec (ws := .code yX6_make cX6_make 5 (some .int) :: WW) B9.pre w (List.mem_cons_of_mem _ h)
  have hown : s.vm.findClass RX6 = some m.cls := findClass_of_methodNamed B9.named
  subst hsz
  have hD := hD0.self (sz := s.heap.size)
  generalize hAe : va_A [(ho, .inr (11, [.ref al, .ref sv, .ref ts, .ref pb, .null, .int lr])), (al, .inr (4, [.int md, .ref (gE G), .int (nI 0)]))] s.heap.size = A at hD hE ⊢
  have hA : ∀ q : Nat, s.heap.size ≤ q → A q := fun q h => by rw [← hAe]; exact Or.inr h
  have hl := lv_entry ([.ref ho, .int v, .int v2]) (n := 5) (Nat.le_of_ble_eq_true rfl)
  rw [lg_entry_eq]
  generalize (lg_sl ([.ref ho, .int v, .int v2]) ++ List.replicate (5 - (lg_sl ([.ref ho, .int v, .int v2])).length) Slot.unset).toArray = ls at hl ⊢
  have hl : lv_has ls 5 [(0, .ref ho), (1, .int v), (2, .int v2)] := hl
  refine qgen (fun Q hQ => ?_)
  refine hgen (fun H locs hP hD hS => ?_) hP hD
  refine lv_iload_n hx hb dX6_make_0 rfl (lv_at hl 1 rfl) ?_
  refine lv_if_lt (tgt := 21) hx hb dX6_make_1 (by decide) (fun c_1 => ?_) (fun c_1 => ?_)
  · skip
    have hP9 := hP.sub (ws' := [(ho, .inr (11, [.ref al, .ref sv, .ref ts, .ref pb, .null, .int lr])), (al, .inr (4, [.int md, .ref (gE G), .int (nI 0)]))]) [0, 1] rfl
    have hD9 := hD.sub (ws' := [(ho, .inr (11, [.ref al, .ref sv, .ref ts, .ref pb, .null, .int lr])), (al, .inr (4, [.int md, .ref (gE G), .int (nI 0)]))]) [0, 1] (by decide) rfl
    subst hQ
    exact vx_throwS (own := RX6) (cls := "java/lang/IllegalArgumentException") (text := "the seed or the highest rule is out of range") (names := NMs) (ik := 82) (is := 112) (ic := 86) (sa := gS G 112) hx hb hst hown fit86 fitNM (hts _ q590) (hts _ q68) (hE.1.2.2.2.2.2.1 (RX6, 112, "the seed or the highest rule is out of range") ST4) (atw atW86 atN86 hts hE) atG86 hE.2.2.2.2.2.2.2.1 hE.2.2.2.2.2.2.2.2.1 hS (hml.trans hl.1.symm).symm dX6_make_21 dX6_make_24 dX6_make_25 dX6_make_27 dX6_make_30 (fun x9 h9 => (htab x9 h9).elim) (Nat.le_of_ble_eq_true rfl) (Nat.le_of_ble_eq_true rfl) (Nat.le_of_ble_eq_true rfl) (Nat.le_of_ble_eq_true rfl) B9.notSynchronized (thrX hP9 hD9 hS) hS.2.2 (Nat.le_of_ble_eq_true rfl) (Nat.le_of_ble_eq_true rfl)
  · skip
    refine lv_iload_n hx hb dX6_make_4 rfl (lv_at hl 1 rfl) ?_
    refine lv_sipush (v := nI 9999) hx hb dX6_make_5 (by decide) ?_
    refine lv_icmp_gt (tgt := 21) hx hb dX6_make_8 (by decide) (fun c_2 => ?_) (fun c_2 => ?_)
    · skip
      have hP9 := hP.sub (ws' := [(ho, .inr (11, [.ref al, .ref sv, .ref ts, .ref pb, .null, .int lr])), (al, .inr (4, [.int md, .ref (gE G), .int (nI 0)]))]) [0, 1] rfl
      have hD9 := hD.sub (ws' := [(ho, .inr (11, [.ref al, .ref sv, .ref ts, .ref pb, .null, .int lr])), (al, .inr (4, [.int md, .ref (gE G), .int (nI 0)]))]) [0, 1] (by decide) rfl
      subst hQ
      exact vx_throwS (own := RX6) (cls := "java/lang/IllegalArgumentException") (text := "the seed or the highest rule is out of range") (names := NMs) (ik := 82) (is := 112) (ic := 86) (sa := gS G 112) hx hb hst hown fit86 fitNM (hts _ q590) (hts _ q68) (hE.1.2.2.2.2.2.1 (RX6, 112, "the seed or the highest rule is out of range") ST4) (atw atW86 atN86 hts hE) atG86 hE.2.2.2.2.2.2.2.1 hE.2.2.2.2.2.2.2.2.1 hS (hml.trans hl.1.symm).symm dX6_make_21 dX6_make_24 dX6_make_25 dX6_make_27 dX6_make_30 (fun x9 h9 => (htab x9 h9).elim) (Nat.le_of_ble_eq_true rfl) (Nat.le_of_ble_eq_true rfl) (Nat.le_of_ble_eq_true rfl) (Nat.le_of_ble_eq_true rfl) B9.notSynchronized (thrX hP9 hD9 hS) hS.2.2 (Nat.le_of_ble_eq_true rfl) (Nat.le_of_ble_eq_true rfl)
    · skip
      exact False.elim (hbad.elim c_1 c_2)
set_option maxHeartbeats 4000000 in
set_option maxRecDepth 100000 in
theorem c_make_1b (l : Launch) (G : GG) (ho : Nat) (al : Nat) (ts : Nat) (pb : Nat) (lr : Int32) (sv : Nat) (md : Int32) (sd : Nat) (v2 : Int32) (hst : l.stackTraces = false) (hsd : sd ≤ 9999) (hbad : v2 < nI 1 ∨ nI 3 < v2) : Mx l G yX6_make cX6_make 5 (some .int) ({ frames := 6, cells := 1, slots := 6, locals := 82 } : Room) [.ref ho, .int (nI sd), .int v2] [(ho, .inr (11, [.ref al, .ref sv, .ref ts, .ref pb, .null, .int lr])), (al, .inr (4, [.int md, .ref (gE G), .int (nI 0)]))] "java/lang/IllegalArgumentException" [(ho, .inr (11, [.ref al, .ref sv, .ref ts, .ref pb, .null, .int lr])), (al, .inr (4, [.int md, .ref (gE G), .int (nI 0)]))] := by
  intro sz
  refine vx_ofW (cc := cX6_make) (maxL := 5) (ret := (some .int)) (by decide) rfl ?_
  intro p e s m args below meth c s₁ B9 hml htab hv
  obtain ⟨rfl, hsz, hP, hK, hD0, hE⟩ := hv
  have hx := B9.exec
  have hb := B9.bytes
  have hr := B9.returns
  have hts : ∀ w ∈ WW, w.before ([.ref ho, .int (nI sd), .int v2] : List Value).toArray s = true := fun w h => atoms_spec (ws := .code yX6_make cX6_make 5 (some .int) :: WW) B9.pre w (List.mem_cons_of_mem _ h)
  have hown : s.vm.findClass RX6 = some m.cls := findClass_of_methodNamed B9.named
  subst hsz
  have hD := hD0.self (sz := s.heap.size)
  generalize hAe : va_A [(ho, .inr (11, [.ref al, .ref sv, .ref ts, .ref pb, .null, .int lr])), (al, .inr (4, [.int md, .ref (gE G), .int (nI 0)]))] s.heap.size = A at hD hE ⊢
  have hA : ∀ q : Nat, s.heap.size ≤ q → A q := fun q h => by rw [← hAe]; exact Or.inr h
  have hl := lv_entry ([.ref ho, .int (nI sd), .int v2]) (n := 5) (Nat.le_of_ble_eq_true rfl)
  rw [lg_entry_eq]
  generalize (lg_sl ([.ref ho, .int (nI sd), .int v2]) ++ List.replicate (5 - (lg_sl ([.ref ho, .int (nI sd), .int v2])).length) Slot.unset).toArray = ls at hl ⊢
  have hl : lv_has ls 5 [(0, .ref ho), (1, .int (nI sd)), (2, .int v2)] := hl
  refine qgen (fun Q hQ => ?_)
  refine hgen (fun H locs hP hD hS => ?_) hP hD
  refine lv_iload_n hx hb dX6_make_0 rfl (lv_at hl 1 rfl) ?_
  refine lv_if_lt (tgt := 21) hx hb dX6_make_1 (by decide) (fun c_1 => ?_) (fun c_1 => ?_)
  · skip
    have c_1 : sd < 0 := (nI_ltI (a := sd) (b := 0) (by omega) (by omega)).mp c_1
    exfalso; omega
  · skip
    have c_1 : ¬ sd < 0 := fun z => c_1 ((nI_ltI (a := sd) (b := 0) (by omega) (by omega)).mpr z)
    refine lv_iload_n hx hb dX6_make_4 rfl (lv_at hl 1 rfl) ?_
    refine lv_sipush (v := nI 9999) hx hb dX6_make_5 (by decide) ?_
    refine lv_icmp_gt (tgt := 21) hx hb dX6_make_8 (by decide) (fun c_2 => ?_) (fun c_2 => ?_)
    · skip
      have c_2 : 9999 < sd := (nI_ltI (a := 9999) (b := sd) (by omega) (by omega)).mp c_2
      exfalso; omega
    · skip
      have c_2 : ¬ 9999 < sd := fun z => c_2 ((nI_ltI (a := 9999) (b := sd) (by omega) (by omega)).mpr z)
      refine lv_iload_n hx hb dX6_make_11 rfl (lv_at hl 2 rfl) ?_
      refine lv_iconst (v := nI 1) hx hb dX6_make_12 (by decide) ?_
      refine lv_icmp_lt (tgt := 21) hx hb dX6_make_13 (by decide) (fun c_3 => ?_) (fun c_3 => ?_)
      · skip
        have hP9 := hP.sub (ws' := [(ho, .inr (11, [.ref al, .ref sv, .ref ts, .ref pb, .null, .int lr])), (al, .inr (4, [.int md, .ref (gE G), .int (nI 0)]))]) [0, 1] rfl
        have hD9 := hD.sub (ws' := [(ho, .inr (11, [.ref al, .ref sv, .ref ts, .ref pb, .null, .int lr])), (al, .inr (4, [.int md, .ref (gE G), .int (nI 0)]))]) [0, 1] (by decide) rfl
        subst hQ
        exact vx_throwS (own := RX6) (cls := "java/lang/IllegalArgumentException") (text := "the seed or the highest rule is out of range") (names := NMs) (ik := 82) (is := 112) (ic := 86) (sa := gS G 112) hx hb hst hown fit86 fitNM (hts _ q590) (hts _ q68) (hE.1.2.2.2.2.2.1 (RX6, 112, "the seed or the highest rule is out of range") ST4) (atw atW86 atN86 hts hE) atG86 hE.2.2.2.2.2.2.2.1 hE.2.2.2.2.2.2.2.2.1 hS (hml.trans hl.1.symm).symm dX6_make_21 dX6_make_24 dX6_make_25 dX6_make_27 dX6_make_30 (fun x9 h9 => (htab x9 h9).elim) (Nat.le_of_ble_eq_true rfl) (Nat.le_of_ble_eq_true rfl) (Nat.le_of_ble_eq_true rfl) (Nat.le_of_ble_eq_true rfl) B9.notSynchronized (thrX hP9 hD9 hS) hS.2.2 (Nat.le_of_ble_eq_true rfl) (Nat.le_of_ble_eq_true rfl)
      · skip
        refine lv_iload_n hx hb dX6_make_16 rfl (lv_at hl 2 rfl) ?_
        refine lv_iconst (v := nI 3) hx hb dX6_make_17 (by decide) ?_
        refine lv_icmp_le (tgt := 31) hx hb dX6_make_18 (by decide) (fun c_4 => ?_) (fun c_4 => ?_)
        · skip
          exact (le_bad (by decide) hbad c_3 c_4).elim
        · skip
          have hP9 := hP.sub (ws' := [(ho, .inr (11, [.ref al, .ref sv, .ref ts, .ref pb, .null, .int lr])), (al, .inr (4, [.int md, .ref (gE G), .int (nI 0)]))]) [0, 1] rfl
          have hD9 := hD.sub (ws' := [(ho, .inr (11, [.ref al, .ref sv, .ref ts, .ref pb, .null, .int lr])), (al, .inr (4, [.int md, .ref (gE G), .int (nI 0)]))]) [0, 1] (by decide) rfl
          subst hQ
          exact vx_throwS (own := RX6) (cls := "java/lang/IllegalArgumentException") (text := "the seed or the highest rule is out of range") (names := NMs) (ik := 82) (is := 112) (ic := 86) (sa := gS G 112) hx hb hst hown fit86 fitNM (hts _ q590) (hts _ q68) (hE.1.2.2.2.2.2.1 (RX6, 112, "the seed or the highest rule is out of range") ST4) (atw atW86 atN86 hts hE) atG86 hE.2.2.2.2.2.2.2.1 hE.2.2.2.2.2.2.2.2.1 hS (hml.trans hl.1.symm).symm dX6_make_21 dX6_make_24 dX6_make_25 dX6_make_27 dX6_make_30 (fun x9 h9 => (htab x9 h9).elim) (Nat.le_of_ble_eq_true rfl) (Nat.le_of_ble_eq_true rfl) (Nat.le_of_ble_eq_true rfl) (Nat.le_of_ble_eq_true rfl) B9.notSynchronized (thrX hP9 hD9 hS) hS.2.2 (Nat.le_of_ble_eq_true rfl) (Nat.le_of_ble_eq_true rfl)
set_option maxHeartbeats 4000000 in
set_option maxRecDepth 100000 in
theorem c_X6_reason (l : Launch) (G : GG) (ho : Nat) (al : Nat) (ts : Nat) (pb : Nat) (lr : Int32) (sv : Nat) (md : Int32) : Mi l G yX6_reason cX6_reason 1 (some .int) ({ frames := 0, cells := 0, slots := 0, locals := 0 } : Room) [.ref ho] [(ho, .inr (11, [.ref al, .ref sv, .ref ts, .ref pb, .null, .int lr])), (al, .inr (4, [.int md, .ref (gE G), .int (nI 0)]))] (fun (r : Int32) (u : Unit) => r = lr) (fun (u : Unit) => [(ho, .inr (11, [.ref al, .ref sv, .ref ts, .ref pb, .null, .int lr])), (al, .inr (4, [.int md, .ref (gE G), .int (nI 0)]))]) := by
  intro sz
  refine Met.ofW (cc := cX6_reason) (maxL := 1) (ret := (some .int)) (by decide) rfl ?_
  intro p e s m args below meth c s₁ B9 hml hv
  obtain ⟨rfl, hsz, hP, hK, hD0, hE⟩ := hv
  have hx := B9.exec
  have hb := B9.bytes
  have hr := B9.returns
  have hts : ∀ w ∈ WW, w.before ([.ref ho] : List Value).toArray s = true := fun w h => atoms_spec (ws := .code yX6_reason cX6_reason 1 (some .int) :: WW) B9.pre w (List.mem_cons_of_mem _ h)
  have hown : s.vm.findClass RX6 = some m.cls := findClass_of_methodNamed B9.named
  subst hsz
  have hD := hD0.self (sz := s.heap.size)
  generalize hAe : va_A [(ho, .inr (11, [.ref al, .ref sv, .ref ts, .ref pb, .null, .int lr])), (al, .inr (4, [.int md, .ref (gE G), .int (nI 0)]))] s.heap.size = A at hD hE ⊢
  have hA : ∀ q : Nat, s.heap.size ≤ q → A q := fun q h => by rw [← hAe]; exact Or.inr h
  have hl := lv_entry ([.ref ho]) (n := 1) (Nat.le_of_ble_eq_true rfl)
  rw [lg_entry_eq]
  generalize (lg_sl ([.ref ho]) ++ List.replicate (1 - (lg_sl ([.ref ho])).length) Slot.unset).toArray = ls at hl ⊢
  have hl : lv_has ls 1 [(0, .ref ho)] := hl
  refine qgen (fun Q hQ => ?_)
  refine hgen (fun H locs hP hD hS => ?_) hP hD
  refine lv_aload_n hx hb dX6_reason_0 rfl (lv_at hl 0 rfl) ?_
  refine va_get (D := gD G) (ci := 11) (v := .int lr) (C := RX6) (T := TX6) (N := 6) hx hb hts fwX6 hown hK hP 0 rfl rfl 5 (by decide) (hts _ q186) (fun _ h9 => h9) rfl dX6_reason_1 ?_
  have hP9 := hP.sub (ws' := [(ho, .inr (11, [.ref al, .ref sv, .ref ts, .ref pb, .null, .int lr])), (al, .inr (4, [.int md, .ref (gE G), .int (nI 0)]))]) [0, 1] rfl
  have hD9 := hD.sub (ws' := [(ho, .inr (11, [.ref al, .ref sv, .ref ts, .ref pb, .null, .int lr])), (al, .inr (4, [.int md, .ref (gE G), .int (nI 0)]))]) [0, 1] (by decide) rfl
  subst hQ
  exact W.iret (v := lr) hx hb hr (fun t ht hW => ⟨⟨lr, (), rfl, rfl, by rw [ht]; exact hP9, hD9⟩, hS.F ht⟩) hS.2.2 dX6_reason_4
set_option maxHeartbeats 4000000 in
set_option maxRecDepth 100000 in
theorem c_X6_checksum (l : Launch) (G : GG) (ho : Nat) (al : Nat) (ts : Nat) (pb : Nat) (lr : Int32) (sv : Nat) (md : Int32) : Ml l G yX6_checksum cX6_checksum 6 ({ frames := 1, cells := 0, slots := 0, locals := 20 } : Room) [.ref ho] [(ho, .inr (11, [.ref al, .ref sv, .ref ts, .ref pb, .null, .int lr])), (al, .inr (4, [.int md, .ref (gE G), .int (nI 0)]))] (fun (r : Int64) (u : Unit) => r = lN 0) (fun (u : Unit) => [(ho, .inr (11, [.ref al, .ref sv, .ref ts, .ref pb, .null, .int lr])), (al, .inr (4, [.int md, .ref (gE G), .int (nI 0)]))]) := by
  intro sz
  refine Met.ofW (cc := cX6_checksum) (maxL := 6) (ret := (some .long)) (by decide) rfl ?_
  intro p e s m args below meth c s₁ B9 hml hv
  obtain ⟨rfl, hsz, hP, hK, hD0, hE⟩ := hv
  have hx := B9.exec
  have hb := B9.bytes
  have hr := B9.returns
  have hts : ∀ w ∈ WW, w.before ([.ref ho] : List Value).toArray s = true := fun w h => atoms_spec (ws := .code yX6_checksum cX6_checksum 6 (some .long) :: WW) B9.pre w (List.mem_cons_of_mem _ h)
  have hown : s.vm.findClass RX6 = some m.cls := findClass_of_methodNamed B9.named
  subst hsz
  have hD := hD0.self (sz := s.heap.size)
  generalize hAe : va_A [(ho, .inr (11, [.ref al, .ref sv, .ref ts, .ref pb, .null, .int lr])), (al, .inr (4, [.int md, .ref (gE G), .int (nI 0)]))] s.heap.size = A at hD hE ⊢
  have hA : ∀ q : Nat, s.heap.size ≤ q → A q := fun q h => by rw [← hAe]; exact Or.inr h
  have hl := lv_entry ([.ref ho]) (n := 6) (Nat.le_of_ble_eq_true rfl)
  rw [lg_entry_eq]
  generalize (lg_sl ([.ref ho]) ++ List.replicate (6 - (lg_sl ([.ref ho])).length) Slot.unset).toArray = ls at hl ⊢
  have hl : lv_has ls 6 [(0, .ref ho)] := hl
  refine qgen (fun Q hQ => ?_)
  refine hgen (fun H locs hP hD hS => ?_) hP hD
  refine lv_lconst (v := lN 0) hx hb dX6_checksum_0 (by decide) ?_
  refine lv_lstore_n (lv' := [(1, .long (lN 0)), (0, .ref ho)]) hx hb dX6_checksum_1 rfl hl (by decide) rfl (fun ls hl => ?_)
  refine lv_iconst (v := nI 0) hx hb dX6_checksum_2 (by decide) ?_
  refine lv_istore_n (lv' := [(3, .int (nI 0)), (1, .long (lN 0)), (0, .ref ho)]) hx hb dX6_checksum_3 rfl hl (by decide) rfl (fun ls hl => ?_)
  refine lv_iload_n hx hb dX6_checksum_4 rfl (lv_at hl 0 rfl) ?_
  refine lv_aload_n hx hb dX6_checksum_5 rfl (lv_at hl 2 rfl) ?_
  refine va_get (D := gD G) (ci := 11) (v := .ref al) (C := RX6) (T := TX6) (N := 6) hx hb hts fwX6 hown hK hP 0 rfl rfl 0 (by decide) (hts _ q181) (fun _ h9 => h9) rfl dX6_checksum_6 ?_
  refine fin_i hP hD hS hA [1] [0] (wr := [(ho, .inr (11, [.ref al, .ref sv, .ref ts, .ref pb, .null, .int lr]))]) rfl rfl (by decide) (by decide) (va_runV (As := []) (rest := [.int (nI 0)]) ⟨hx, hb, hml, hown, hts⟩ (c_Jx4a65c_size_8abf5 l G al md (gE G) 0 H.size) (cwV 0 hts (gV q208 q209 q210 q48 q211) rfl rfl rfl (by decide +kernel) ⟨Nat.le_of_ble_eq_true rfl, Nat.le_of_ble_eq_true rfl⟩) (preV (q0 := 1) (ci := 4) hK hE hP hD hS hA [1] rfl (by decide) rfl rfl) rfl rfl hl.1 rfl (lv_room (Nat.le_of_ble_eq_true rfl)) dX6_checksum_9 ⟨Nat.le_of_ble_eq_true rfl, Nat.le_of_ble_eq_true rfl⟩) (fun r_2 u9 hw_1 H locs hP hD hS => ?_)
  subst hw_1
  have hP : va_P (gD G) vwCl [(ho, .inr (11, [.ref al, .ref sv, .ref ts, .ref pb, .null, .int lr])), (al, .inr (4, [.int md, .ref (gE G), .int (nI 0)]))] H := hP
  have hD : va_D A [(ho, .inr (11, [.ref al, .ref sv, .ref ts, .ref pb, .null, .int lr])), (al, .inr (4, [.int md, .ref (gE G), .int (nI 0)]))] := hD
  refine lv_icmp_ge (tgt := 78) hx hb dX6_checksum_12 (by decide) (fun c_3 => ?_) (fun c_3 => ?_)
  · skip
    have c_3 : 0 ≤ 0 := (nI_leI (a := 0) (b := 0) (by omega) (by omega)).mp c_3
    refine lv_lload_n hx hb dX6_checksum_78 rfl (lv_at hl 1 rfl) ?_
    have hP9 := hP.sub (ws' := [(ho, .inr (11, [.ref al, .ref sv, .ref ts, .ref pb, .null, .int lr])), (al, .inr (4, [.int md, .ref (gE G), .int (nI 0)]))]) [0, 1] rfl
    have hD9 := hD.sub (ws' := [(ho, .inr (11, [.ref al, .ref sv, .ref ts, .ref pb, .null, .int lr])), (al, .inr (4, [.int md, .ref (gE G), .int (nI 0)]))]) [0, 1] (by decide) rfl
    subst hQ
    exact W.lret (v := lN 0) hx hb hr (fun t ht hW => ⟨⟨lN 0, (), rfl, rfl, by rw [ht]; exact hP9, hD9⟩, hS.F ht⟩) hS.2.2 dX6_checksum_79
  · skip
    have c_3 : ¬ 0 ≤ 0 := fun z => c_3 ((nI_leI (a := 0) (b := 0) (by omega) (by omega)).mpr z)
    exact absurd c_3 (by decide)
set_option maxHeartbeats 4000000 in
set_option maxRecDepth 100000 in
theorem c_X6_isSound (l : Launch) (G : GG) (ho : Nat) (al : Nat) (ts : Nat) (pb : Nat) (lr : Int32) (sv : Nat) (md : Int32) : Mi l G yX6_isSound cX6_isSound 5 (some .boolean) ({ frames := 1, cells := 0, slots := 0, locals := 20 } : Room) [.ref ho] [(ho, .inr (11, [.ref al, .ref sv, .ref ts, .ref pb, .null, .int lr])), (al, .inr (4, [.int md, .ref (gE G), .int (nI 0)]))] (fun (r : Int32) (u : Unit) => r = nI 1) (fun (u : Unit) => [(ho, .inr (11, [.ref al, .ref sv, .ref ts, .ref pb, .null, .int lr])), (al, .inr (4, [.int md, .ref (gE G), .int (nI 0)]))]) := by
  intro sz
  refine Met.ofW (cc := cX6_isSound) (maxL := 5) (ret := (some .boolean)) (by decide) rfl ?_
  intro p e s m args below meth c s₁ B9 hml hv
  obtain ⟨rfl, hsz, hP, hK, hD0, hE⟩ := hv
  have hx := B9.exec
  have hb := B9.bytes
  have hr := B9.returns
  have hts : ∀ w ∈ WW, w.before ([.ref ho] : List Value).toArray s = true := fun w h => atoms_spec (ws := .code yX6_isSound cX6_isSound 5 (some .boolean) :: WW) B9.pre w (List.mem_cons_of_mem _ h)
  have hown : s.vm.findClass RX6 = some m.cls := findClass_of_methodNamed B9.named
  subst hsz
  have hD := hD0.self (sz := s.heap.size)
  generalize hAe : va_A [(ho, .inr (11, [.ref al, .ref sv, .ref ts, .ref pb, .null, .int lr])), (al, .inr (4, [.int md, .ref (gE G), .int (nI 0)]))] s.heap.size = A at hD hE ⊢
  have hA : ∀ q : Nat, s.heap.size ≤ q → A q := fun q h => by rw [← hAe]; exact Or.inr h
  have hl := lv_entry ([.ref ho]) (n := 5) (Nat.le_of_ble_eq_true rfl)
  rw [lg_entry_eq]
  generalize (lg_sl ([.ref ho]) ++ List.replicate (5 - (lg_sl ([.ref ho])).length) Slot.unset).toArray = ls at hl ⊢
  have hl : lv_has ls 5 [(0, .ref ho)] := hl
  refine qgen (fun Q hQ => ?_)
  refine hgen (fun H locs hP hD hS => ?_) hP hD
  refine lv_iconst (v := nI 0) hx hb dX6_isSound_0 (by decide) ?_
  refine lv_istore_n (lv' := [(1, .int (nI 0)), (0, .ref ho)]) hx hb dX6_isSound_1 rfl hl (by decide) rfl (fun ls hl => ?_)
  refine lv_iload_n hx hb dX6_isSound_2 rfl (lv_at hl 0 rfl) ?_
  refine lv_aload_n hx hb dX6_isSound_3 rfl (lv_at hl 1 rfl) ?_
  refine va_get (D := gD G) (ci := 11) (v := .ref al) (C := RX6) (T := TX6) (N := 6) hx hb hts fwX6 hown hK hP 0 rfl rfl 0 (by decide) (hts _ q181) (fun _ h9 => h9) rfl dX6_isSound_4 ?_
  refine fin_i hP hD hS hA [1] [0] (wr := [(ho, .inr (11, [.ref al, .ref sv, .ref ts, .ref pb, .null, .int lr]))]) rfl rfl (by decide) (by decide) (va_runV (As := []) (rest := [.int (nI 0)]) ⟨hx, hb, hml, hown, hts⟩ (c_Jx4a65c_size_8abf5 l G al md (gE G) 0 H.size) (cwV 0 hts (gV q208 q209 q210 q48 q211) rfl rfl rfl (by decide +kernel) ⟨Nat.le_of_ble_eq_true rfl, Nat.le_of_ble_eq_true rfl⟩) (preV (q0 := 1) (ci := 4) hK hE hP hD hS hA [1] rfl (by decide) rfl rfl) rfl rfl hl.1 rfl (lv_room (Nat.le_of_ble_eq_true rfl)) dX6_isSound_7 ⟨Nat.le_of_ble_eq_true rfl, Nat.le_of_ble_eq_true rfl⟩) (fun r_2 u9 hw_1 H locs hP hD hS => ?_)
  subst hw_1
  have hP : va_P (gD G) vwCl [(ho, .inr (11, [.ref al, .ref sv, .ref ts, .ref pb, .null, .int lr])), (al, .inr (4, [.int md, .ref (gE G), .int (nI 0)]))] H := hP
  have hD : va_D A [(ho, .inr (11, [.ref al, .ref sv, .ref ts, .ref pb, .null, .int lr])), (al, .inr (4, [.int md, .ref (gE G), .int (nI 0)]))] := hD
  refine lv_icmp_ge (tgt := 84) hx hb dX6_isSound_10 (by decide) (fun c_3 => ?_) (fun c_3 => ?_)
  · skip
    have c_3 : 0 ≤ 0 := (nI_leI (a := 0) (b := 0) (by omega) (by omega)).mp c_3
    refine lv_iconst (v := nI 1) hx hb dX6_isSound_84 (by decide) ?_
    have hP9 := hP.sub (ws' := [(ho, .inr (11, [.ref al, .ref sv, .ref ts, .ref pb, .null, .int lr])), (al, .inr (4, [.int md, .ref (gE G), .int (nI 0)]))]) [0, 1] rfl
    have hD9 := hD.sub (ws' := [(ho, .inr (11, [.ref al, .ref sv, .ref ts, .ref pb, .null, .int lr])), (al, .inr (4, [.int md, .ref (gE G), .int (nI 0)]))]) [0, 1] (by decide) rfl
    subst hQ
    exact W.zret (v := nI 1) hx hb hr (by decide) (fun t ht hW => ⟨⟨nI 1, (), rfl, rfl, by rw [ht]; exact hP9, hD9⟩, hS.F ht⟩) hS.2.2 dX6_isSound_85
  · skip
    have c_3 : ¬ 0 ≤ 0 := fun z => c_3 ((nI_leI (a := 0) (b := 0) (by omega) (by omega)).mpr z)
    exact absurd c_3 (by decide)
