theorem q58 : (Jvm.Cond.initialized "jdk/internal/util/ArraysSupport") ∈ WW := inW 58 (by decide +kernel) rfl
theorem q60 : (Jvm.Cond.initialized "java/util/Arrays") ∈ WW := inW 60 (by decide +kernel) rfl
theorem q61 : (Jvm.Cond.initialized "java/lang/System") ∈ WW := inW 61 (by decide +kernel) rfl
theorem q342 : (Jvm.Cond.static ({ cls := "java/lang/System", name := "arraycopy", desc := "(Ljava/lang/Object;ILjava/lang/Object;II)V" } : Jvm.MethodName)) ∈ WW := inW 342 (by decide +kernel) rfl
theorem q343 : (Jvm.Cond.native ({ cls := "java/lang/System", name := "arraycopy", desc := "(Ljava/lang/Object;ILjava/lang/Object;II)V" } : Jvm.MethodName)) ∈ WW := inW 343 (by decide +kernel) rfl
theorem q484 : (Jvm.Cond.methodLink "java/util/ArrayList" (73 : Nat) ({ cls := "jdk/internal/util/ArraysSupport", name := "newLength", desc := "(III)I" } : Jvm.MethodName)) ∈ WW := inW 484 (by decide +kernel) rfl
theorem q485 : (Jvm.Cond.static ({ cls := "jdk/internal/util/ArraysSupport", name := "newLength", desc := "(III)I" } : Jvm.MethodName)) ∈ WW := inW 485 (by decide +kernel) rfl
theorem q486 : (Jvm.Cond.code ({ cls := "jdk/internal/util/ArraysSupport", name := "newLength", desc := "(III)I" } : Jvm.MethodName) prog_46_method_27_code (4 : Nat) (Option.some Jvm.ClassFile.FieldType.int)) ∈ WW := inW 486 (by decide +kernel) rfl
theorem q487 : (Jvm.Cond.methodLink "jdk/internal/util/ArraysSupport" (194 : Nat) ({ cls := "java/lang/Math", name := "max", desc := "(II)I" } : Jvm.MethodName)) ∈ WW := inW 487 (by decide +kernel) rfl
theorem q490 : (Jvm.Cond.constant "jdk/internal/util/ArraysSupport" (200 : Nat) (2147483639 : Int32)) ∈ WW := inW 490 (by decide +kernel) rfl
theorem q494 : (Jvm.Cond.methodLink "java/util/ArrayList" (66 : Nat) ({ cls := "java/util/Arrays", name := "copyOf", desc := "([Ljava/lang/Object;I)[Ljava/lang/Object;" } : Jvm.MethodName)) ∈ WW := inW 494 (by decide +kernel) rfl
theorem q495 : (Jvm.Cond.static ({ cls := "java/util/Arrays", name := "copyOf", desc := "([Ljava/lang/Object;I)[Ljava/lang/Object;" } : Jvm.MethodName)) ∈ WW := inW 495 (by decide +kernel) rfl
theorem q496 : (Jvm.Cond.code ({ cls := "java/util/Arrays", name := "copyOf", desc := "([Ljava/lang/Object;I)[Ljava/lang/Object;" } : Jvm.MethodName) prog_38_method_119_code (2 : Nat) (Option.some (Jvm.ClassFile.FieldType.array (Jvm.ClassFile.FieldType.object "java/lang/Object")))) ∈ WW := inW 496 (by decide +kernel) rfl
theorem q497 : (Jvm.Cond.methodLink "java/util/Arrays" (86 : Nat) ({ cls := "java/lang/Object", name := "getClass", desc := "()Ljava/lang/Class;" } : Jvm.MethodName)) ∈ WW := inW 497 (by decide +kernel) rfl
theorem q498 : (Jvm.Cond.instanceMethod ({ cls := "java/lang/Object", name := "getClass", desc := "()Ljava/lang/Class;" } : Jvm.MethodName)) ∈ WW := inW 498 (by decide +kernel) rfl
theorem q521 : (Jvm.Cond.native ({ cls := "java/lang/Object", name := "getClass", desc := "()Ljava/lang/Class;" } : Jvm.MethodName)) ∈ WW := inW 521 (by decide +kernel) rfl
theorem q522 : (Jvm.Cond.methodLink "java/util/Arrays" (300 : Nat) ({ cls := "java/util/Arrays", name := "copyOf", desc := "([Ljava/lang/Object;ILjava/lang/Class;)[Ljava/lang/Object;" } : Jvm.MethodName)) ∈ WW := inW 522 (by decide +kernel) rfl
theorem q523 : (Jvm.Cond.static ({ cls := "java/util/Arrays", name := "copyOf", desc := "([Ljava/lang/Object;ILjava/lang/Class;)[Ljava/lang/Object;" } : Jvm.MethodName)) ∈ WW := inW 523 (by decide +kernel) rfl
theorem q524 : (Jvm.Cond.code ({ cls := "java/util/Arrays", name := "copyOf", desc := "([Ljava/lang/Object;ILjava/lang/Class;)[Ljava/lang/Object;" } : Jvm.MethodName) prog_38_method_120_code (4 : Nat) (Option.some (Jvm.ClassFile.FieldType.array (Jvm.ClassFile.FieldType.object "java/lang/Object")))) ∈ WW := inW 524 (by decide +kernel) rfl
theorem q525 : (Jvm.Cond.classLink "java/util/Arrays" (110 : Nat) "[Ljava/lang/Object;") ∈ WW := inW 525 (by decide +kernel) rfl
theorem q527 : (Jvm.Cond.classLink "java/util/Arrays" (2 : Nat) "java/lang/Object") ∈ WW := inW 527 (by decide +kernel) rfl
theorem q528 : (Jvm.Cond.methodLink "java/util/Arrays" (304 : Nat) ({ cls := "java/lang/Math", name := "min", desc := "(II)I" } : Jvm.MethodName)) ∈ WW := inW 528 (by decide +kernel) rfl
theorem q529 : (Jvm.Cond.static ({ cls := "java/lang/Math", name := "min", desc := "(II)I" } : Jvm.MethodName)) ∈ WW := inW 529 (by decide +kernel) rfl
theorem q530 : (Jvm.Cond.code ({ cls := "java/lang/Math", name := "min", desc := "(II)I" } : Jvm.MethodName) prog_25_method_69_code (2 : Nat) (Option.some Jvm.ClassFile.FieldType.int)) ∈ WW := inW 530 (by decide +kernel) rfl
theorem q531 : (Jvm.Cond.methodLink "java/util/Arrays" (150 : Nat) ({ cls := "java/lang/System", name := "arraycopy", desc := "(Ljava/lang/Object;ILjava/lang/Object;II)V" } : Jvm.MethodName)) ∈ WW := inW 531 (by decide +kernel) rfl
theorem q1402 : (Jvm.Cond.selects "[Ljava/lang/Object;" ({ cls := "java/lang/Object", name := "getClass", desc := "()Ljava/lang/Class;" } : Jvm.MethodName) ({ cls := "java/lang/Object", name := "getClass", desc := "()Ljava/lang/Class;" } : Jvm.MethodName)) ∈ WW := inW 1402 (by decide +kernel) rfl
theorem dJ8_newLength_cabcc_0 : decode cJ8_newLength_cabcc 0 = .ok (.iload_n 0, 1) := by decide +kernel
theorem dJ8_newLength_cabcc_1 : decode cJ8_newLength_cabcc 1 = .ok (.iload_n 1, 1) := by decide +kernel
theorem dJ8_newLength_cabcc_2 : decode cJ8_newLength_cabcc 2 = .ok (.iload_n 2, 1) := by decide +kernel
theorem dJ8_newLength_cabcc_3 : decode cJ8_newLength_cabcc 3 = .ok (.invokestatic 194, 3) := by decide +kernel
theorem dJ8_newLength_cabcc_6 : decode cJ8_newLength_cabcc 6 = .ok (.iadd, 1) := by decide +kernel
theorem dJ8_newLength_cabcc_7 : decode cJ8_newLength_cabcc 7 = .ok (.istore_n 3, 1) := by decide +kernel
theorem dJ8_newLength_cabcc_8 : decode cJ8_newLength_cabcc 8 = .ok (.iconst 0, 1) := by decide +kernel
theorem dJ8_newLength_cabcc_9 : decode cJ8_newLength_cabcc 9 = .ok (.iload_n 3, 1) := by decide +kernel
theorem dJ8_newLength_cabcc_10 : decode cJ8_newLength_cabcc 10 = .ok (.if_icmp .ge 11, 3) := by decide +kernel
theorem dJ8_newLength_cabcc_13 : decode cJ8_newLength_cabcc 13 = .ok (.iload_n 3, 1) := by decide +kernel
theorem dJ8_newLength_cabcc_14 : decode cJ8_newLength_cabcc 14 = .ok (.ldc 200, 2) := by decide +kernel
theorem dJ8_newLength_cabcc_16 : decode cJ8_newLength_cabcc 16 = .ok (.if_icmp .gt 5, 3) := by decide +kernel
theorem dJ8_newLength_cabcc_19 : decode cJ8_newLength_cabcc 19 = .ok (.iload_n 3, 1) := by decide +kernel
theorem dJ8_newLength_cabcc_20 : decode cJ8_newLength_cabcc 20 = .ok (.ireturn, 1) := by decide +kernel
theorem dJ7_copyOf_6403c_0 : decode cJ7_copyOf_6403c 0 = .ok (.aload_n 2, 1) := by decide +kernel
theorem dJ7_copyOf_6403c_1 : decode cJ7_copyOf_6403c 1 = .ok (.ldc 110, 2) := by decide +kernel
theorem dJ7_copyOf_6403c_3 : decode cJ7_copyOf_6403c 3 = .ok (.if_acmp .ne 10, 3) := by decide +kernel
theorem dJ7_copyOf_6403c_6 : decode cJ7_copyOf_6403c 6 = .ok (.iload_n 1, 1) := by decide +kernel
theorem dJ7_copyOf_6403c_7 : decode cJ7_copyOf_6403c 7 = .ok (.anewarray 2, 3) := by decide +kernel
theorem dJ7_copyOf_6403c_10 : decode cJ7_copyOf_6403c 10 = .ok (.goto 14, 3) := by decide +kernel
theorem dJ7_copyOf_6403c_24 : decode cJ7_copyOf_6403c 24 = .ok (.astore_n 3, 1) := by decide +kernel
theorem dJ7_copyOf_6403c_25 : decode cJ7_copyOf_6403c 25 = .ok (.aload_n 0, 1) := by decide +kernel
theorem dJ7_copyOf_6403c_26 : decode cJ7_copyOf_6403c 26 = .ok (.iconst 0, 1) := by decide +kernel
theorem dJ7_copyOf_6403c_27 : decode cJ7_copyOf_6403c 27 = .ok (.aload_n 3, 1) := by decide +kernel
theorem dJ7_copyOf_6403c_28 : decode cJ7_copyOf_6403c 28 = .ok (.iconst 0, 1) := by decide +kernel
theorem dJ7_copyOf_6403c_29 : decode cJ7_copyOf_6403c 29 = .ok (.aload_n 0, 1) := by decide +kernel
theorem dJ7_copyOf_6403c_30 : decode cJ7_copyOf_6403c 30 = .ok (.arraylength, 1) := by decide +kernel
theorem dJ7_copyOf_6403c_31 : decode cJ7_copyOf_6403c 31 = .ok (.iload_n 1, 1) := by decide +kernel
theorem dJ7_copyOf_6403c_32 : decode cJ7_copyOf_6403c 32 = .ok (.invokestatic 304, 3) := by decide +kernel
theorem dJ7_copyOf_6403c_35 : decode cJ7_copyOf_6403c 35 = .ok (.invokestatic 150, 3) := by decide +kernel
theorem dJ7_copyOf_6403c_38 : decode cJ7_copyOf_6403c 38 = .ok (.aload_n 3, 1) := by decide +kernel
theorem dJ7_copyOf_6403c_39 : decode cJ7_copyOf_6403c 39 = .ok (.areturn, 1) := by decide +kernel
theorem dJ7_copyOf_1904c_0 : decode cJ7_copyOf_1904c 0 = .ok (.aload_n 0, 1) := by decide +kernel
theorem dJ7_copyOf_1904c_1 : decode cJ7_copyOf_1904c 1 = .ok (.iload_n 1, 1) := by decide +kernel
theorem dJ7_copyOf_1904c_2 : decode cJ7_copyOf_1904c 2 = .ok (.aload_n 0, 1) := by decide +kernel
theorem dJ7_copyOf_1904c_3 : decode cJ7_copyOf_1904c 3 = .ok (.invokevirtual 86, 3) := by decide +kernel
theorem dJ7_copyOf_1904c_6 : decode cJ7_copyOf_1904c 6 = .ok (.invokestatic 300, 3) := by decide +kernel
theorem dJ7_copyOf_1904c_9 : decode cJ7_copyOf_1904c 9 = .ok (.areturn, 1) := by decide +kernel
theorem dJx4a65c_grow_92f84_20 : decode cJx4a65c_grow_92f84 20 = .ok (.iload_n 2, 1) := by decide +kernel
theorem dJx4a65c_grow_92f84_21 : decode cJx4a65c_grow_92f84 21 = .ok (.iload_n 1, 1) := by decide +kernel
theorem dJx4a65c_grow_92f84_22 : decode cJx4a65c_grow_92f84 22 = .ok (.iload_n 2, 1) := by decide +kernel
theorem dJx4a65c_grow_92f84_23 : decode cJx4a65c_grow_92f84 23 = .ok (.isub, 1) := by decide +kernel
theorem dJx4a65c_grow_92f84_24 : decode cJx4a65c_grow_92f84 24 = .ok (.iload_n 2, 1) := by decide +kernel
theorem dJx4a65c_grow_92f84_25 : decode cJx4a65c_grow_92f84 25 = .ok (.iconst 1, 1) := by decide +kernel
theorem dJx4a65c_grow_92f84_26 : decode cJx4a65c_grow_92f84 26 = .ok (.ishr, 1) := by decide +kernel
theorem dJx4a65c_grow_92f84_27 : decode cJx4a65c_grow_92f84 27 = .ok (.invokestatic 73, 3) := by decide +kernel
theorem dJx4a65c_grow_92f84_30 : decode cJx4a65c_grow_92f84 30 = .ok (.istore_n 3, 1) := by decide +kernel
theorem dJx4a65c_grow_92f84_31 : decode cJx4a65c_grow_92f84 31 = .ok (.aload_n 0, 1) := by decide +kernel
theorem dJx4a65c_grow_92f84_32 : decode cJx4a65c_grow_92f84 32 = .ok (.aload_n 0, 1) := by decide +kernel
theorem dJx4a65c_grow_92f84_33 : decode cJx4a65c_grow_92f84 33 = .ok (.getfield 9, 3) := by decide +kernel
theorem dJx4a65c_grow_92f84_36 : decode cJx4a65c_grow_92f84 36 = .ok (.iload_n 3, 1) := by decide +kernel
theorem dJx4a65c_grow_92f84_37 : decode cJx4a65c_grow_92f84 37 = .ok (.invokestatic 66, 3) := by decide +kernel
theorem dJx4a65c_grow_92f84_40 : decode cJx4a65c_grow_92f84 40 = .ok (.dup_x1, 1) := by decide +kernel
theorem dJx4a65c_grow_92f84_41 : decode cJx4a65c_grow_92f84 41 = .ok (.putfield 9, 3) := by decide +kernel
theorem dJx4a65c_grow_92f84_44 : decode cJx4a65c_grow_92f84 44 = .ok (.areturn, 1) := by decide +kernel
set_option maxHeartbeats 4000000 in
set_option maxRecDepth 100000 in
theorem c_growB1_first (l : Launch) (G : GG) (al : Nat) (md : Int32) : Mr l G yJx4a65c_grow_92f84 cJx4a65c_grow_92f84 4 (some (.array (.object "java/lang/Object"))) ({ frames := 1, cells := 1, slots := 10, locals := 40 } : Room) [.ref al, .int (nI 1)] [(al, .inr (4, [.int md, .ref (gE G), .int (nI 0)]))] (fun (u : (Nat → Option Nat)) (r : Nat) => obR (gOB G) u) (fun (u : (Nat → Option Nat)) (r : Nat) => [(al, .inr (4, [.int md, .ref r, .int (nI 0)])), (r, .inl (gyO G, 10, .inr (.inr (.inr (.inr u)))))]) := by
  intro sz
  refine Met.ofW (cc := cJx4a65c_grow_92f84) (maxL := 4) (ret := (some (.array (.object "java/lang/Object")))) (by decide) rfl ?_
  intro p e s m args below meth c s₁ B9 hml hv
  obtain ⟨rfl, hsz, hP, hK, hD0, hE⟩ := hv
  have hx := B9.exec
  have hb := B9.bytes
  have hr := B9.returns
  have hts : ∀ w ∈ WW, w.before ([.ref al, .int (nI 1)] : List Value).toArray s = true := fun w h => atoms_spec (ws := .code yJx4a65c_grow_92f84 cJx4a65c_grow_92f84 4 (some (.array (.object "java/lang/Object"))) :: WW) B9.pre w (List.mem_cons_of_mem _ h)
  have hown : s.vm.findClass RJx4a65c = some m.cls := findClass_of_methodNamed B9.named
  subst hsz
  have hD := hD0.self (sz := s.heap.size)
  generalize hAe : va_A [(al, .inr (4, [.int md, .ref (gE G), .int (nI 0)]))] s.heap.size = A at hD hE ⊢
  have hA : ∀ q : Nat, s.heap.size ≤ q → A q := fun q h => by rw [← hAe]; exact Or.inr h
  have hl := lv_entry ([.ref al, .int (nI 1)]) (n := 4) (Nat.le_of_ble_eq_true rfl)
  rw [lg_entry_eq]
  generalize (lg_sl ([.ref al, .int (nI 1)]) ++ List.replicate (4 - (lg_sl ([.ref al, .int (nI 1)])).length) Slot.unset).toArray = ls at hl ⊢
  have hl : lv_has ls 4 [(0, .ref al), (1, .int (nI 1))] := hl
  refine qgen (fun Q hQ => ?_)
  refine hgen (fun H locs hP hD hS => ?_) hP hD
  refine lv_aload_n hx hb dJx4a65c_grow_92f84_0 rfl (lv_at hl 0 rfl) ?_
  refine va_get (D := gD G) (ci := 4) (v := .ref (gE G)) (C := RJx4a65c) (T := TJx4a65c) (N := 3) hx hb hts fwJx4a65c hown hK hP 0 rfl rfl 1 (by decide) (hts _ q102) (fun _ h9 => h9) rfl dJx4a65c_grow_92f84_1 ?_
  refine va_tlen (v := nI 0) hx hb hE.2.2.1 hS rfl dJx4a65c_grow_92f84_4 ?_
  refine lv_istore_n (lv' := [(2, .int (nI 0)), (0, .ref al), (1, .int (nI 1))]) hx hb dJx4a65c_grow_92f84_5 rfl hl (by decide) rfl (fun ls hl => ?_)
  refine lv_iload_n hx hb dJx4a65c_grow_92f84_6 rfl (lv_at hl 0 rfl) ?_
  refine lv_if_gt (tgt := 20) hx hb dJx4a65c_grow_92f84_7 (by decide) (fun c_1 => ?_) (fun c_1 => ?_)
  · skip
    have c_1 : 0 < 0 := (nI_ltI (a := 0) (b := 0) (by omega) (by omega)).mp c_1
    exact absurd c_1 (by decide)
  · skip
    have c_1 : ¬ 0 < 0 := fun z => c_1 ((nI_ltI (a := 0) (b := 0) (by omega) (by omega)).mpr z)
    refine lv_aload_n hx hb dJx4a65c_grow_92f84_10 rfl (lv_at hl 1 rfl) ?_
    refine va_get (D := gD G) (ci := 4) (v := .ref (gE G)) (C := RJx4a65c) (T := TJx4a65c) (N := 3) hx hb hts fwJx4a65c hown hK hP 0 rfl rfl 1 (by decide) (hts _ q102) (fun _ h9 => h9) rfl dJx4a65c_grow_92f84_11 ?_
    refine va_gets (v := .ref (gE G)) hx hb hE.2.1 hS hown (hts _ q100) (fun _ h9 => h9) dJx4a65c_grow_92f84_14 ?_
    refine lv_acmp_eq (rx := some (gE G)) (ry := some (gE G)) (tgt := 45) hx hb dJx4a65c_grow_92f84_17 (by decide) (fun c_2 => ?_) (fun c_2 => ?_)
    · skip
      refine lv_aload_n hx hb dJx4a65c_grow_92f84_45 rfl (lv_at hl 1 rfl) ?_
      refine lv_bipush (v := nI 10) hx hb dJx4a65c_grow_92f84_46 (by decide) ?_
      refine lv_iload_n hx hb dJx4a65c_grow_92f84_48 rfl (lv_at hl 2 rfl) ?_
      refine va_mmax hx hb (hml.trans hl.1.symm) hown (hts _ q532) (hts _ q488) (hts _ q59) (hts _ q489) (Nat.le_of_ble_eq_true rfl) (Nat.le_of_ble_eq_true rfl) (by show _ ≤ (1 : Nat); omega) (by show _ ≤ (10 : Nat); omega) dJx4a65c_grow_92f84_49 ?_
      refine lv_toe (show _ = nI 10 by decide) ?_
      refine va_newq (D := gD G) hx hb hown (hts _ q533) hE.1.2.2.1 hK hP hD hS hA (nI_pos (by omega)) (nI_clamp (by omega)) (by omega) (Nat.le_of_ble_eq_true rfl) (Nat.le_of_ble_eq_true rfl) dJx4a65c_grow_92f84_52 (fun q_3 cA_4 H hKn hP hD hS => ?_)
      obtain rfl := ty_one_O hK hKn
      have hb_5 : obR (gOB G) (fun _ => none) := obR.none
      have hP : va_P (gD G) vwCl [(al, .inr (4, [.int md, .ref (gE G), .int (nI 0)])), (q_3, .inl (gyO G, 10, .inr (.inr (.inr (.inr (fun _ => none))))))] H := hP
      have hD : va_D A [(al, .inr (4, [.int md, .ref (gE G), .int (nI 0)])), (q_3, .inl (gyO G, 10, .inr (.inr (.inr (.inr (fun _ => none))))))] := hD
      refine lv_dup_x1 hx hb dJx4a65c_grow_92f84_55 rfl rfl ?_
      refine va_put (D := gD G) (ci := 4) (v := .ref q_3) (ty := .array (.object "java/lang/Object")) (C := RJx4a65c) (T := TJx4a65c) (N := 3) hx hb hts fwJx4a65c tyJx4a65c tyJx4a65c_ok nmJx4a65c hown hK hP hD hS 0 rfl rfl 1 (by decide) (hts _ q102) (fun _ h9 => h9) rfl (by decide +kernel) rfl rfl (Nat.le_of_ble_eq_true rfl) dJx4a65c_grow_92f84_56 (fun H locs hP hD hS => ?_)
      have hP : va_P (gD G) vwCl [(al, .inr (4, [.int md, .ref q_3, .int (nI 0)])), (q_3, .inl (gyO G, 10, .inr (.inr (.inr (.inr (fun _ => none))))))] H := hP
      have hD : va_D A [(al, .inr (4, [.int md, .ref q_3, .int (nI 0)])), (q_3, .inl (gyO G, 10, .inr (.inr (.inr (.inr (fun _ => none))))))] := hD
      have hP9 := hP.sub (ws' := [(al, .inr (4, [.int md, .ref q_3, .int (nI 0)])), (q_3, .inl (gyO G, 10, .inr (.inr (.inr (.inr (fun _ => none))))))]) [0, 1] rfl
      have hD9 := hD.sub (ws' := [(al, .inr (4, [.int md, .ref q_3, .int (nI 0)])), (q_3, .inl (gyO G, 10, .inr (.inr (.inr (.inr (fun _ => none))))))]) [0, 1] (by decide) rfl
      subst hQ
      exact W.aret (v := .ref q_3) hx hb hr (Or.inr ⟨_, rfl⟩) (Or.inr ⟨_, rfl⟩) (fun t ht hW => ⟨⟨(fun _ => none), q_3, rfl, trivial, hb_5, by rw [ht]; exact hP9, hD9⟩, hS.F ht⟩) hS.2.2 dJx4a65c_grow_92f84_59
    · skip
      exact absurd rfl c_2
set_option maxHeartbeats 4000000 in
set_option maxRecDepth 100000 in
theorem c_growB_first (l : Launch) (G : GG) (al : Nat) (md : Int32) : Mr l G yJx4a65c_grow_d5877 cJx4a65c_grow_d5877 1 (some (.array (.object "java/lang/Object"))) ({ frames := 2, cells := 1, slots := 10, locals := 63 } : Room) [.ref al] [(al, .inr (4, [.int md, .ref (gE G), .int (nI 0)]))] (fun (u : (Nat → Option Nat)) (r : Nat) => obR (gOB G) u) (fun (u : (Nat → Option Nat)) (r : Nat) => [(al, .inr (4, [.int md, .ref r, .int (nI 0)])), (r, .inl (gyO G, 10, .inr (.inr (.inr (.inr u)))))]) := by
  intro sz
  refine Met.ofW (cc := cJx4a65c_grow_d5877) (maxL := 1) (ret := (some (.array (.object "java/lang/Object")))) (by decide) rfl ?_
  intro p e s m args below meth c s₁ B9 hml hv
  obtain ⟨rfl, hsz, hP, hK, hD0, hE⟩ := hv
  have hx := B9.exec
  have hb := B9.bytes
  have hr := B9.returns
  have hts : ∀ w ∈ WW, w.before ([.ref al] : List Value).toArray s = true := fun w h => atoms_spec (ws := .code yJx4a65c_grow_d5877 cJx4a65c_grow_d5877 1 (some (.array (.object "java/lang/Object"))) :: WW) B9.pre w (List.mem_cons_of_mem _ h)
  have hown : s.vm.findClass RJx4a65c = some m.cls := findClass_of_methodNamed B9.named
  subst hsz
  have hD := hD0.self (sz := s.heap.size)
  generalize hAe : va_A [(al, .inr (4, [.int md, .ref (gE G), .int (nI 0)]))] s.heap.size = A at hD hE ⊢
  have hA : ∀ q : Nat, s.heap.size ≤ q → A q := fun q h => by rw [← hAe]; exact Or.inr h
  have hl := lv_entry ([.ref al]) (n := 1) (Nat.le_of_ble_eq_true rfl)
  rw [lg_entry_eq]
  generalize (lg_sl ([.ref al]) ++ List.replicate (1 - (lg_sl ([.ref al])).length) Slot.unset).toArray = ls at hl ⊢
  have hl : lv_has ls 1 [(0, .ref al)] := hl
  refine qgen (fun Q hQ => ?_)
  refine hgen (fun H locs hP hD hS => ?_) hP hD
  refine lv_aload_n hx hb dJx4a65c_grow_d5877_0 rfl (lv_at hl 0 rfl) ?_
  refine lv_aload_n hx hb dJx4a65c_grow_d5877_1 rfl (lv_at hl 0 rfl) ?_
  refine va_get (D := gD G) (ci := 4) (v := .int (nI 0)) (C := RJx4a65c) (T := TJx4a65c) (N := 3) hx hb hts fwJx4a65c hown hK hP 0 rfl rfl 2 (by decide) (hts _ q105) (fun _ h9 => h9) rfl dJx4a65c_grow_d5877_2 ?_
  refine lv_iconst (v := nI 1) hx hb dJx4a65c_grow_d5877_5 (by decide) ?_
  refine lv_iadd hx hb dJx4a65c_grow_d5877_6 ?_
  refine lv_toe (show _ = nI 1 by decide) ?_
  refine fin_r hP hD hS hA [0] [] (wr := []) rfl rfl (by decide) (by decide) (va_runV (As := [.int (nI 1)]) (rest := []) ⟨hx, hb, hml, hown, hts⟩ (c_growB1_first l G al md H.size) (cwV 1 hts (gV q480 q482 q22 q48 q483) rfl rfl rfl (by decide +kernel) ⟨Nat.le_of_ble_eq_true rfl, Nat.le_of_ble_eq_true rfl⟩) (preV (q0 := 0) (ci := 4) hK hE hP hD hS hA [0] rfl (by decide) rfl rfl) rfl rfl hl.1 rfl (lv_room (Nat.le_of_ble_eq_true rfl)) dJx4a65c_grow_d5877_7 ⟨Nat.le_of_ble_eq_true rfl, Nat.le_of_ble_eq_true rfl⟩) (fun u9 r_3 hw_2 H locs hP hD hS => ?_)
  obtain ⟨f2_1, rfl⟩ : ∃ z, z = u9 := ⟨_, rfl⟩
  have hf2_4 := hw_2
  have hf2_4 : obR (gOB G) f2_1 := hf2_4
  have hP : va_P (gD G) vwCl [(al, .inr (4, [.int md, .ref r_3, .int (nI 0)])), (r_3, .inl (gyO G, 10, .inr (.inr (.inr (.inr f2_1)))))] H := hP
  have hD : va_D A [(al, .inr (4, [.int md, .ref r_3, .int (nI 0)])), (r_3, .inl (gyO G, 10, .inr (.inr (.inr (.inr f2_1)))))] := hD
  have hP9 := hP.sub (ws' := [(al, .inr (4, [.int md, .ref r_3, .int (nI 0)])), (r_3, .inl (gyO G, 10, .inr (.inr (.inr (.inr f2_1)))))]) [0, 1] rfl
  have hD9 := hD.sub (ws' := [(al, .inr (4, [.int md, .ref r_3, .int (nI 0)])), (r_3, .inl (gyO G, 10, .inr (.inr (.inr (.inr f2_1)))))]) [0, 1] (by decide) rfl
  subst hQ
  exact W.aret (v := .ref r_3) hx hb hr (Or.inr ⟨_, rfl⟩) (Or.inr ⟨_, rfl⟩) (fun t ht hW => ⟨⟨f2_1, r_3, rfl, trivial, hf2_4, by rw [ht]; exact hP9, hD9⟩, hS.F ht⟩) hS.2.2 dJx4a65c_grow_d5877_10
set_option maxHeartbeats 4000000 in
set_option maxRecDepth 100000 in
theorem c_addB3_first (l : Launch) (G : GG) (al : Nat) (md : Int32) (v : Nat) (hob : gOB G v) : Mv l G yJx4a65c_add_72be8 cJx4a65c_add_72be8 4 ({ frames := 3, cells := 1, slots := 10, locals := 83 } : Room) [.ref al, .ref v, .ref (gE G), .int (nI 0)] [(al, .inr (4, [.int md, .ref (gE G), .int (nI 0)]))] (fun (u : Nat × (Nat → Option Nat)) => obR (gOB G) u.2) (fun (u : Nat × (Nat → Option Nat)) => [(al, .inr (4, [.int md, .ref u.1, .int (nI 1)])), (u.1, .inl (gyO G, 10, .inr (.inr (.inr (.inr u.2)))))]) := by
  intro sz
  refine Met.ofW (cc := cJx4a65c_add_72be8) (maxL := 4) (ret := none) (by decide) rfl ?_
  intro p e s m args below meth c s₁ B9 hml hv
  obtain ⟨rfl, hsz, hP, hK, hD0, hE⟩ := hv
  have hx := B9.exec
  have hb := B9.bytes
  have hr := B9.returns
  have hts : ∀ w ∈ WW, w.before ([.ref al, .ref v, .ref (gE G), .int (nI 0)] : List Value).toArray s = true := fun w h => atoms_spec (ws := .code yJx4a65c_add_72be8 cJx4a65c_add_72be8 4 none :: WW) B9.pre w (List.mem_cons_of_mem _ h)
  have hown : s.vm.findClass RJx4a65c = some m.cls := findClass_of_methodNamed B9.named
  subst hsz
  have hD := hD0.self (sz := s.heap.size)
  generalize hAe : va_A [(al, .inr (4, [.int md, .ref (gE G), .int (nI 0)]))] s.heap.size = A at hD hE ⊢
  have hA : ∀ q : Nat, s.heap.size ≤ q → A q := fun q h => by rw [← hAe]; exact Or.inr h
  have hl := lv_entry ([.ref al, .ref v, .ref (gE G), .int (nI 0)]) (n := 4) (Nat.le_of_ble_eq_true rfl)
  rw [lg_entry_eq]
  generalize (lg_sl ([.ref al, .ref v, .ref (gE G), .int (nI 0)]) ++ List.replicate (4 - (lg_sl ([.ref al, .ref v, .ref (gE G), .int (nI 0)])).length) Slot.unset).toArray = ls at hl ⊢
  have hl : lv_has ls 4 [(0, .ref al), (1, .ref v), (2, .ref (gE G)), (3, .int (nI 0))] := hl
  refine qgen (fun Q hQ => ?_)
  refine hgen (fun H locs hP hD hS => ?_) hP hD
  refine lv_iload_n hx hb dJx4a65c_add_72be8_0 rfl (lv_at hl 3 rfl) ?_
  refine lv_aload_n hx hb dJx4a65c_add_72be8_1 rfl (lv_at hl 2 rfl) ?_
  refine va_tlen (v := nI 0) hx hb hE.2.2.1 hS rfl dJx4a65c_add_72be8_2 ?_
  refine lv_icmp_ne (tgt := 11) hx hb dJx4a65c_add_72be8_3 (by decide) (fun c_1 => ?_) (fun c_1 => ?_)
  · skip
    have c_1 : ¬ 0 = 0 := fun z => c_1 ((nI_eq (a := 0) (b := 0) (by omega) (by omega)).mpr z)
    exact absurd c_1 (by decide)
  · skip
    have c_1 : 0 = 0 := (nI_eq (a := 0) (b := 0) (by omega) (by omega)).mp c_1
    refine lv_aload_n hx hb dJx4a65c_add_72be8_6 rfl (lv_at hl 0 rfl) ?_
    refine fin_r hP hD hS hA [0] [] (wr := []) rfl rfl (by decide) (by decide) (va_runV (As := []) (rest := []) ⟨hx, hb, hml, hown, hts⟩ (c_growB_first l G al md H.size) (cwV 0 hts (gV q476 q478 q21 q48 q479) rfl rfl rfl (by decide +kernel) ⟨Nat.le_of_ble_eq_true rfl, Nat.le_of_ble_eq_true rfl⟩) (preV (q0 := 0) (ci := 4) hK hE hP hD hS hA [0] rfl (by decide) rfl rfl) rfl rfl hl.1 rfl (lv_room (Nat.le_of_ble_eq_true rfl)) dJx4a65c_add_72be8_7 ⟨Nat.le_of_ble_eq_true rfl, Nat.le_of_ble_eq_true rfl⟩) (fun u9 r_4 hw_3 H locs hP hD hS => ?_)
    obtain ⟨f2_2, rfl⟩ : ∃ z, z = u9 := ⟨_, rfl⟩
    have hf2_5 := hw_3
    have hf2_5 : obR (gOB G) f2_2 := hf2_5
    have hP : va_P (gD G) vwCl [(al, .inr (4, [.int md, .ref r_4, .int (nI 0)])), (r_4, .inl (gyO G, 10, .inr (.inr (.inr (.inr f2_2)))))] H := hP
    have hD : va_D A [(al, .inr (4, [.int md, .ref r_4, .int (nI 0)])), (r_4, .inl (gyO G, 10, .inr (.inr (.inr (.inr f2_2)))))] := hD
    refine lv_astore_n (lv' := [(2, .ref r_4), (0, .ref al), (1, .ref v), (3, .int (nI 0))]) hx hb dJx4a65c_add_72be8_10 rfl hl (by decide) rfl (fun ls hl => ?_)
    refine lv_aload_n hx hb dJx4a65c_add_72be8_11 rfl (lv_at hl 0 rfl) ?_
    refine lv_iload_n hx hb dJx4a65c_add_72be8_12 rfl (lv_at hl 3 rfl) ?_
    refine lv_aload_n hx hb dJx4a65c_add_72be8_13 rfl (lv_at hl 2 rfl) ?_
    refine va_astqM (D := gD G) (cA := gyO G) (n := 10) (f := f2_2) hx hb hK hP hD hS 1 1 rfl rfl (ob_any hE hS hob) (vp_in_nI (n := 0) (N := 10) (by omega) (by omega)) dJx4a65c_add_72be8_14 (fun H locs hP hD hS => ?_)
    rw [nI_clamp (by omega)] at hP hD
    have hb_7 : obR (gOB G) (va_up f2_2 0 (some v)) := hf2_5.up hob
    generalize va_up f2_2 0 (some v) = f_6 at hP hD hb_7
    have hP : va_P (gD G) vwCl [(al, .inr (4, [.int md, .ref r_4, .int (nI 0)])), (r_4, .inl (gyO G, 10, .inr (.inr (.inr (.inr f_6)))))] H := hP
    have hD : va_D A [(al, .inr (4, [.int md, .ref r_4, .int (nI 0)])), (r_4, .inl (gyO G, 10, .inr (.inr (.inr (.inr f_6)))))] := hD
    refine lv_aload_n hx hb dJx4a65c_add_72be8_15 rfl (lv_at hl 1 rfl) ?_
    refine lv_iload_n hx hb dJx4a65c_add_72be8_16 rfl (lv_at hl 3 rfl) ?_
    refine lv_iconst (v := nI 1) hx hb dJx4a65c_add_72be8_17 (by decide) ?_
    refine lv_iadd hx hb dJx4a65c_add_72be8_18 ?_
    refine lv_toe (show _ = nI 1 by decide) ?_
    refine va_put (D := gD G) (ci := 4) (v := .int (nI 1)) (ty := .int) (C := RJx4a65c) (T := TJx4a65c) (N := 3) hx hb hts fwJx4a65c tyJx4a65c tyJx4a65c_ok nmJx4a65c hown hK hP hD hS 0 rfl rfl 2 (by decide) (hts _ q105) (fun _ h9 => h9) rfl (by decide +kernel) rfl rfl (Nat.le_of_ble_eq_true rfl) dJx4a65c_add_72be8_19 (fun H locs hP hD hS => ?_)
    have hP : va_P (gD G) vwCl [(al, .inr (4, [.int md, .ref r_4, .int (nI 1)])), (r_4, .inl (gyO G, 10, .inr (.inr (.inr (.inr f_6)))))] H := hP
    have hD : va_D A [(al, .inr (4, [.int md, .ref r_4, .int (nI 1)])), (r_4, .inl (gyO G, 10, .inr (.inr (.inr (.inr f_6)))))] := hD
    have hP9 := hP.sub (ws' := [(al, .inr (4, [.int md, .ref r_4, .int (nI 1)])), (r_4, .inl (gyO G, 10, .inr (.inr (.inr (.inr f_6)))))]) [0, 1] rfl
    have hD9 := hD.sub (ws' := [(al, .inr (4, [.int md, .ref r_4, .int (nI 1)])), (r_4, .inl (gyO G, 10, .inr (.inr (.inr (.inr f_6)))))]) [0, 1] (by decide) rfl
    subst hQ
    exact W.vret hx hb hr (fun t ht hW => ⟨⟨(r_4, f_6), rfl, hb_7, by rw [ht]; exact hP9, hD9⟩, hS.F ht⟩) hS.2.2 dJx4a65c_add_72be8_22
set_option maxHeartbeats 4000000 in
set_option maxRecDepth 100000 in
theorem c_addB_first (l : Launch) (G : GG) (al : Nat) (md : Int32) (v : Nat) (hob : gOB G v) : Mi l G yJx4a65c_add_9ea2d cJx4a65c_add_9ea2d 2 (some .boolean) ({ frames := 4, cells := 1, slots := 10, locals := 106 } : Room) [.ref al, .ref v] [(al, .inr (4, [.int md, .ref (gE G), .int (nI 0)]))] (fun (r : Int32) (u : Int32 × Nat × (Nat → Option Nat)) => obR (gOB G) u.2.2) (fun (u : Int32 × Nat × (Nat → Option Nat)) => [(al, .inr (4, [.int u.1, .ref u.2.1, .int (nI 1)])), (u.2.1, .inl (gyO G, 10, .inr (.inr (.inr (.inr u.2.2)))))]) := by
  intro sz
  refine Met.ofW (cc := cJx4a65c_add_9ea2d) (maxL := 2) (ret := (some .boolean)) (by decide) rfl ?_
  intro p e s m args below meth c s₁ B9 hml hv
  obtain ⟨rfl, hsz, hP, hK, hD0, hE⟩ := hv
  have hx := B9.exec
  have hb := B9.bytes
  have hr := B9.returns
  have hts : ∀ w ∈ WW, w.before ([.ref al, .ref v] : List Value).toArray s = true := fun w h => atoms_spec (ws := .code yJx4a65c_add_9ea2d cJx4a65c_add_9ea2d 2 (some .boolean) :: WW) B9.pre w (List.mem_cons_of_mem _ h)
  have hown : s.vm.findClass RJx4a65c = some m.cls := findClass_of_methodNamed B9.named
  subst hsz
  have hD := hD0.self (sz := s.heap.size)
  generalize hAe : va_A [(al, .inr (4, [.int md, .ref (gE G), .int (nI 0)]))] s.heap.size = A at hD hE ⊢
  have hA : ∀ q : Nat, s.heap.size ≤ q → A q := fun q h => by rw [← hAe]; exact Or.inr h
  have hl := lv_entry ([.ref al, .ref v]) (n := 2) (Nat.le_of_ble_eq_true rfl)
  rw [lg_entry_eq]
  generalize (lg_sl ([.ref al, .ref v]) ++ List.replicate (2 - (lg_sl ([.ref al, .ref v])).length) Slot.unset).toArray = ls at hl ⊢
  have hl : lv_has ls 2 [(0, .ref al), (1, .ref v)] := hl
  refine qgen (fun Q hQ => ?_)
  refine hgen (fun H locs hP hD hS => ?_) hP hD
  refine lv_aload_n hx hb dJx4a65c_add_9ea2d_0 rfl (lv_at hl 0 rfl) ?_
  refine lv_dup hx hb dJx4a65c_add_9ea2d_1 rfl ?_
  refine va_get (D := gD G) (ci := 4) (v := .int md) (C := RJx4a65c) (T := TJx4a65c) (N := 3) hx hb hts fwJx4a65c hown hK hP 0 rfl rfl 0 (by decide) (hts _ q109) (fun x9 h9 => u_same (hts _ q108) x9 h9) rfl dJx4a65c_add_9ea2d_2 ?_
  refine lv_iconst (v := nI 1) hx hb dJx4a65c_add_9ea2d_5 (by decide) ?_
  refine lv_iadd hx hb dJx4a65c_add_9ea2d_6 ?_
  refine lv_topi (fun w_1 ew_1 => ?_)
  refine va_put (D := gD G) (ci := 4) (v := .int w_1) (ty := .int) (C := RJx4a65c) (T := TJx4a65c) (N := 3) hx hb hts fwJx4a65c tyJx4a65c tyJx4a65c_ok nmJx4a65c hown hK hP hD hS 0 rfl rfl 0 (by decide) (hts _ q109) (fun x9 h9 => u_same (hts _ q108) x9 h9) rfl (by decide +kernel) rfl rfl (Nat.le_of_ble_eq_true rfl) dJx4a65c_add_9ea2d_7 (fun H locs hP hD hS => ?_)
  have hP : va_P (gD G) vwCl [(al, .inr (4, [.int w_1, .ref (gE G), .int (nI 0)]))] H := hP
  have hD : va_D A [(al, .inr (4, [.int w_1, .ref (gE G), .int (nI 0)]))] := hD
  refine lv_aload_n hx hb dJx4a65c_add_9ea2d_10 rfl (lv_at hl 0 rfl) ?_
  refine lv_aload_n hx hb dJx4a65c_add_9ea2d_11 rfl (lv_at hl 1 rfl) ?_
  refine lv_aload_n hx hb dJx4a65c_add_9ea2d_12 rfl (lv_at hl 0 rfl) ?_
  refine va_get (D := gD G) (ci := 4) (v := .ref (gE G)) (C := RJx4a65c) (T := TJx4a65c) (N := 3) hx hb hts fwJx4a65c hown hK hP 0 rfl rfl 1 (by decide) (hts _ q102) (fun _ h9 => h9) rfl dJx4a65c_add_9ea2d_13 ?_
  refine lv_aload_n hx hb dJx4a65c_add_9ea2d_16 rfl (lv_at hl 0 rfl) ?_
  refine va_get (D := gD G) (ci := 4) (v := .int (nI 0)) (C := RJx4a65c) (T := TJx4a65c) (N := 3) hx hb hts fwJx4a65c hown hK hP 0 rfl rfl 2 (by decide) (hts _ q105) (fun _ h9 => h9) rfl dJx4a65c_add_9ea2d_17 ?_
  refine fin_v hP hD hS hA [0] [] (wr := []) rfl rfl (by decide) (by decide) (va_runV (As := [.ref v, .ref (gE G), .int (nI 0)]) (rest := []) ⟨hx, hb, hml, hown, hts⟩ (c_addB3_first l G al w_1 v (by omega) H.size) (cwV 3 hts (gV q472 q474 q20 q48 q475) rfl rfl rfl (by decide +kernel) ⟨Nat.le_of_ble_eq_true rfl, Nat.le_of_ble_eq_true rfl⟩) (preV (q0 := 0) (ci := 4) hK hE hP hD hS hA [0] rfl (by decide) rfl rfl) rfl rfl hl.1 rfl (lv_room (Nat.le_of_ble_eq_true rfl)) dJx4a65c_add_9ea2d_20 ⟨Nat.le_of_ble_eq_true rfl, Nat.le_of_ble_eq_true rfl⟩) (fun u9 hw_4 H locs hP hD hS => ?_)
  obtain ⟨ed2_2, f2_3⟩ := u9
  have hf2_6 := hw_4
  have hf2_6 : obR (gOB G) f2_3 := hf2_6
  have hP : va_P (gD G) vwCl [(al, .inr (4, [.int w_1, .ref ed2_2, .int (nI 1)])), (ed2_2, .inl (gyO G, 10, .inr (.inr (.inr (.inr f2_3)))))] H := hP
  have hD : va_D A [(al, .inr (4, [.int w_1, .ref ed2_2, .int (nI 1)])), (ed2_2, .inl (gyO G, 10, .inr (.inr (.inr (.inr f2_3)))))] := hD
  refine lv_iconst (v := nI 1) hx hb dJx4a65c_add_9ea2d_23 (by decide) ?_
  have hP9 := hP.sub (ws' := [(al, .inr (4, [.int w_1, .ref ed2_2, .int (nI 1)])), (ed2_2, .inl (gyO G, 10, .inr (.inr (.inr (.inr f2_3)))))]) [0, 1] rfl
  have hD9 := hD.sub (ws' := [(al, .inr (4, [.int w_1, .ref ed2_2, .int (nI 1)])), (ed2_2, .inl (gyO G, 10, .inr (.inr (.inr (.inr f2_3)))))]) [0, 1] (by decide) rfl
  subst hQ
  exact W.zret (v := nI 1) hx hb hr (by decide) (fun t ht hW => ⟨⟨nI 1, (w_1, ed2_2, f2_3), rfl, hf2_6, by rw [ht]; exact hP9, hD9⟩, hS.F ht⟩) hS.2.2 dJx4a65c_add_9ea2d_24
set_option maxHeartbeats 4000000 in
set_option maxRecDepth 100000 in
theorem c_J8_newLength_cabcc (l : Launch) (G : GG) (ol : Nat) (mg : Nat) (pg : Nat) (h1 : 10 ≤ ol) (h2 : ol ≤ 490) (h3 : mg ≤ 490) (h4 : pg ≤ 490) : Mi l G yJ8_newLength_cabcc cJ8_newLength_cabcc 4 (some .int) ({ frames := 1, cells := 0, slots := 0, locals := 40 } : Room) [.int (nI ol), .int (nI mg), .int (nI pg)] [] (fun (r : Int32) (u : Unit) => r = nI (ol + max mg pg)) (fun (u : Unit) => []) := by
  intro sz
  refine Met.ofW (cc := cJ8_newLength_cabcc) (maxL := 4) (ret := (some .int)) (by decide) rfl ?_
  intro p e s m args below meth c s₁ B9 hml hv
  obtain ⟨rfl, hsz, hP, hK, hD0, hE⟩ := hv
  have hx := B9.exec
  have hb := B9.bytes
  have hr := B9.returns
  have hts : ∀ w ∈ WW, w.before ([.int (nI ol), .int (nI mg), .int (nI pg)] : List Value).toArray s = true := fun w h => atoms_spec (ws := .code yJ8_newLength_cabcc cJ8_newLength_cabcc 4 (some .int) :: WW) B9.pre w (List.mem_cons_of_mem _ h)
  have hown : s.vm.findClass RJ8 = some m.cls := findClass_of_methodNamed B9.named
  subst hsz
  have hD := hD0.self (sz := s.heap.size)
  generalize hAe : va_A [] s.heap.size = A at hD hE ⊢
  have hA : ∀ q : Nat, s.heap.size ≤ q → A q := fun q h => by rw [← hAe]; exact Or.inr h
  have hl := lv_entry ([.int (nI ol), .int (nI mg), .int (nI pg)]) (n := 4) (Nat.le_of_ble_eq_true rfl)
  rw [lg_entry_eq]
  generalize (lg_sl ([.int (nI ol), .int (nI mg), .int (nI pg)]) ++ List.replicate (4 - (lg_sl ([.int (nI ol), .int (nI mg), .int (nI pg)])).length) Slot.unset).toArray = ls at hl ⊢
  have hl : lv_has ls 4 [(0, .int (nI ol)), (1, .int (nI mg)), (2, .int (nI pg))] := hl
  refine qgen (fun Q hQ => ?_)
  refine hgen (fun H locs hP hD hS => ?_) hP hD
  refine lv_iload_n hx hb dJ8_newLength_cabcc_0 rfl (lv_at hl 0 rfl) ?_
  refine lv_iload_n hx hb dJ8_newLength_cabcc_1 rfl (lv_at hl 1 rfl) ?_
  refine lv_iload_n hx hb dJ8_newLength_cabcc_2 rfl (lv_at hl 2 rfl) ?_
  refine va_mmax hx hb (hml.trans hl.1.symm) hown (hts _ q487) (hts _ q488) (hts _ q59) (hts _ q489) (Nat.le_of_ble_eq_true rfl) (Nat.le_of_ble_eq_true rfl) (by show _ ≤ (0 : Nat); omega) (by show _ ≤ (0 : Nat); omega) dJ8_newLength_cabcc_3 ?_
  refine lv_toe (nI_max (by omega) (by omega)) ?_
  refine lv_iadd hx hb dJ8_newLength_cabcc_6 ?_
  refine lv_toe (nI_add ol (max mg pg)) ?_
  refine lv_istore_n (lv' := [(3, .int (nI (ol + (max mg pg)))), (0, .int (nI ol)), (1, .int (nI mg)), (2, .int (nI pg))]) hx hb dJ8_newLength_cabcc_7 rfl hl (by decide) rfl (fun ls hl => ?_)
  refine lv_iconst (v := nI 0) hx hb dJ8_newLength_cabcc_8 (by decide) ?_
  refine lv_iload_n hx hb dJ8_newLength_cabcc_9 rfl (lv_at hl 0 rfl) ?_
  refine lv_icmp_ge (tgt := 21) hx hb dJ8_newLength_cabcc_10 (by decide) (fun c_1 => ?_) (fun c_1 => ?_)
  · skip
    have c_1 : (ol + (max mg pg)) ≤ 0 := (nI_leI (a := ol + (max mg pg)) (b := 0) (by omega) (by omega)).mp c_1
    exfalso; omega
  · skip
    have c_1 : ¬ (ol + (max mg pg)) ≤ 0 := fun z => c_1 ((nI_leI (a := ol + (max mg pg)) (b := 0) (by omega) (by omega)).mpr z)
    refine lv_iload_n hx hb dJ8_newLength_cabcc_13 rfl (lv_at hl 0 rfl) ?_
    refine lv_ldc (v := nI 2147483639) hx hb hown (hts _ q490) dJ8_newLength_cabcc_14 ?_
    refine lv_icmp_gt (tgt := 21) hx hb dJ8_newLength_cabcc_16 (by decide) (fun c_2 => ?_) (fun c_2 => ?_)
    · skip
      have c_2 : 2147483639 < (ol + (max mg pg)) := (nI_ltI (a := 2147483639) (b := ol + (max mg pg)) (by omega) (by omega)).mp c_2
      exfalso; omega
    · skip
      have c_2 : ¬ 2147483639 < (ol + (max mg pg)) := fun z => c_2 ((nI_ltI (a := 2147483639) (b := ol + (max mg pg)) (by omega) (by omega)).mpr z)
      refine lv_iload_n hx hb dJ8_newLength_cabcc_19 rfl (lv_at hl 0 rfl) ?_
      have hP9 := hP.sub (ws' := []) [] rfl
      have hD9 := hD.sub (ws' := []) [] (by decide) rfl
      subst hQ
      exact W.iret (v := nI (ol + (max mg pg))) hx hb hr (fun t ht hW => ⟨⟨nI (ol + (max mg pg)), (), rfl, rfl, by rw [ht]; exact hP9, hD9⟩, hS.F ht⟩) hS.2.2 dJ8_newLength_cabcc_20
set_option maxHeartbeats 4000000 in
set_option maxRecDepth 100000 in
theorem c_J7_copyOf_6403c (l : Launch) (G : GG) (ed : Nat) (cap : Nat) (f : Nat → Option Nat) (nl : Nat) (h1 : cap ≤ nl) (h2 : nl ≤ 500) (hf : obR (gOB G) f) : Mr l G yJ7_copyOf_6403c cJ7_copyOf_6403c 4 (some (.array (.object "java/lang/Object"))) ({ frames := 1, cells := 1, slots := 500, locals := 60 } : Room) [.ref ed, .int (nI nl), .ref (gM G)] [(ed, .inl (gyO G, cap, .inr (.inr (.inr (.inr f)))))] (fun (u : (Nat → Option Nat)) (r : Nat) => obR (gOB G) u) (fun (u : (Nat → Option Nat)) (r : Nat) => [(ed, .inl (gyO G, cap, .inr (.inr (.inr (.inr f))))), (r, .inl (gyO G, nl, .inr (.inr (.inr (.inr u)))))]) := by
  intro sz
  refine Met.ofW (cc := cJ7_copyOf_6403c) (maxL := 4) (ret := (some (.array (.object "java/lang/Object")))) (by decide) rfl ?_
  intro p e s m args below meth c s₁ B9 hml hv
  obtain ⟨rfl, hsz, hP, hK, hD0, hE⟩ := hv
  have hx := B9.exec
  have hb := B9.bytes
  have hr := B9.returns
  have hts : ∀ w ∈ WW, w.before ([.ref ed, .int (nI nl), .ref (gM G)] : List Value).toArray s = true := fun w h => atoms_spec (ws := .code yJ7_copyOf_6403c cJ7_copyOf_6403c 4 (some (.array (.object "java/lang/Object"))) :: WW) B9.pre w (List.mem_cons_of_mem _ h)
  have hown : s.vm.findClass RJ7 = some m.cls := findClass_of_methodNamed B9.named
  subst hsz
  have hD := hD0.self (sz := s.heap.size)
  generalize hAe : va_A [(ed, .inl (gyO G, cap, .inr (.inr (.inr (.inr f)))))] s.heap.size = A at hD hE ⊢
  have hA : ∀ q : Nat, s.heap.size ≤ q → A q := fun q h => by rw [← hAe]; exact Or.inr h
  have hl := lv_entry ([.ref ed, .int (nI nl), .ref (gM G)]) (n := 4) (Nat.le_of_ble_eq_true rfl)
  rw [lg_entry_eq]
  generalize (lg_sl ([.ref ed, .int (nI nl), .ref (gM G)]) ++ List.replicate (4 - (lg_sl ([.ref ed, .int (nI nl), .ref (gM G)])).length) Slot.unset).toArray = ls at hl ⊢
  have hl : lv_has ls 4 [(0, .ref ed), (1, .int (nI nl)), (2, .ref (gM G))] := hl
  refine qgen (fun Q hQ => ?_)
  refine hgen (fun H locs hP hD hS => ?_) hP hD
  refine lv_aload_n hx hb dJ7_copyOf_6403c_0 rfl (lv_at hl 2 rfl) ?_
  refine va_ldcM hx hb hown (hts _ q525) hE.1.2.2.2.1 dJ7_copyOf_6403c_1 ?_
  refine lv_acmp_ne (rx := some (gM G)) (ry := some (gM G)) (tgt := 13) hx hb dJ7_copyOf_6403c_3 (by decide) (fun c_1 => ?_) (fun c_1 => ?_)
  · skip
    exact absurd rfl c_1
  · skip
    refine lv_iload_n hx hb dJ7_copyOf_6403c_6 rfl (lv_at hl 1 rfl) ?_
    refine va_newq (D := gD G) hx hb hown (hts _ q527) hE.1.2.2.1 hK hP hD hS hA (nI_pos (by omega)) (nI_clamp (by omega)) (by omega) (Nat.le_of_ble_eq_true rfl) (by show _ ≤ (500 : Nat); omega) dJ7_copyOf_6403c_7 (fun q_2 cA_3 H hKn hP hD hS => ?_)
    obtain rfl := ty_one_O hK hKn
    have hb_4 : obR (gOB G) (fun _ => none) := obR.none
    have hP : va_P (gD G) vwCl [(ed, .inl (gyO G, cap, .inr (.inr (.inr (.inr f))))), (q_2, .inl (gyO G, nl, .inr (.inr (.inr (.inr (fun _ => none))))))] H := hP
    have hD : va_D A [(ed, .inl (gyO G, cap, .inr (.inr (.inr (.inr f))))), (q_2, .inl (gyO G, nl, .inr (.inr (.inr (.inr (fun _ => none))))))] := hD
    refine lv_goto (tgt := 24) hx hb dJ7_copyOf_6403c_10 (by decide) ?_
    refine lv_astore_n (lv' := [(3, .ref q_2), (0, .ref ed), (1, .int (nI nl)), (2, .ref (gM G))]) hx hb dJ7_copyOf_6403c_24 rfl hl (by decide) rfl (fun ls hl => ?_)
    refine lv_aload_n hx hb dJ7_copyOf_6403c_25 rfl (lv_at hl 1 rfl) ?_
    refine lv_iconst (v := nI 0) hx hb dJ7_copyOf_6403c_26 (by decide) ?_
    refine lv_aload_n hx hb dJ7_copyOf_6403c_27 rfl (lv_at hl 0 rfl) ?_
    refine lv_iconst (v := nI 0) hx hb dJ7_copyOf_6403c_28 (by decide) ?_
    refine lv_aload_n hx hb dJ7_copyOf_6403c_29 rfl (lv_at hl 1 rfl) ?_
    refine va_alen (D := gD G) (v := nI cap) hx hb hK hP 0 1 rfl rfl rfl dJ7_copyOf_6403c_30 ?_
    refine lv_iload_n hx hb dJ7_copyOf_6403c_31 rfl (lv_at hl 2 rfl) ?_
    refine va_mmin hx hb (hml.trans hl.1.symm) hown (hts _ q528) (hts _ q529) (hts _ q59) (hts _ q530) (Nat.le_of_ble_eq_true rfl) (Nat.le_of_ble_eq_true rfl) (by show _ ≤ (1 : Nat); omega) (by show _ ≤ (500 : Nat); omega) dJ7_copyOf_6403c_32 ?_
    refine lv_toe (nI_min (by omega) (by omega)) ?_
    refine va_copyM (D := gD G) hx hb (hml.trans hl.1.symm) hown (hts _ q531) (hts _ q343) (hts _ q342) (hts _ q61) hK hP hD hS 0 1 1 1 rfl rfl rfl rfl (nI_pos (by omega)) (nI_pos (by omega)) (nI_pos (by omega)) (by rw [nI_clamp (by omega), nI_clamp (by omega)]; omega) (by rw [nI_clamp (by omega), nI_clamp (by omega)]; omega) (fun i9 _ y9 h9 => ob_any hE hS (hf _ y9 h9)) (Nat.le_of_ble_eq_true rfl) (Nat.le_of_ble_eq_true rfl) dJ7_copyOf_6403c_35 (fun H locs hP hD hS => ?_)
    have hb_6 : obR (gOB G) (va_cpy f (fun _ => none) (nI 0).toNatClampNeg (nI 0).toNatClampNeg (nI (min cap nl)).toNatClampNeg) := hf.cpy hb_4
    generalize va_cpy f (fun _ => none) (nI 0).toNatClampNeg (nI 0).toNatClampNeg (nI (min cap nl)).toNatClampNeg = f_5 at hP hD hb_6
    have hP : va_P (gD G) vwCl [(ed, .inl (gyO G, cap, .inr (.inr (.inr (.inr f))))), (q_2, .inl (gyO G, nl, .inr (.inr (.inr (.inr f_5)))))] H := hP
    have hD : va_D A [(ed, .inl (gyO G, cap, .inr (.inr (.inr (.inr f))))), (q_2, .inl (gyO G, nl, .inr (.inr (.inr (.inr f_5)))))] := hD
    refine lv_aload_n hx hb dJ7_copyOf_6403c_38 rfl (lv_at hl 0 rfl) ?_
    have hP9 := hP.sub (ws' := [(ed, .inl (gyO G, cap, .inr (.inr (.inr (.inr f))))), (q_2, .inl (gyO G, nl, .inr (.inr (.inr (.inr f_5)))))]) [0, 1] rfl
    have hD9 := hD.sub (ws' := [(ed, .inl (gyO G, cap, .inr (.inr (.inr (.inr f))))), (q_2, .inl (gyO G, nl, .inr (.inr (.inr (.inr f_5)))))]) [0, 1] (by decide) rfl
    refine W.widen (k := 1) (n := 500) (Nat.le_of_ble_eq_true rfl) (by omega) ?_
    subst hQ
    exact W.aret (v := .ref q_2) hx hb hr (Or.inr ⟨_, rfl⟩) (Or.inr ⟨_, rfl⟩) (fun t ht hW => ⟨⟨f_5, q_2, rfl, trivial, hb_6, by rw [ht]; exact hP9, hD9⟩, hS.F ht⟩) hS.2.2 dJ7_copyOf_6403c_39
set_option maxHeartbeats 4000000 in
set_option maxRecDepth 100000 in
theorem c_J7_copyOf_1904c (l : Launch) (G : GG) (ed : Nat) (cap : Nat) (f : Nat → Option Nat) (nl : Nat) (h1 : cap ≤ nl) (h2 : nl ≤ 500) (hf : obR (gOB G) f) : Mr l G yJ7_copyOf_1904c cJ7_copyOf_1904c 2 (some (.array (.object "java/lang/Object"))) ({ frames := 2, cells := 1, slots := 500, locals := 83 } : Room) [.ref ed, .int (nI nl)] [(ed, .inl (gyO G, cap, .inr (.inr (.inr (.inr f)))))] (fun (u : (Nat → Option Nat)) (r : Nat) => obR (gOB G) u) (fun (u : (Nat → Option Nat)) (r : Nat) => [(ed, .inl (gyO G, cap, .inr (.inr (.inr (.inr f))))), (r, .inl (gyO G, nl, .inr (.inr (.inr (.inr u)))))]) := by
  intro sz
  refine Met.ofW (cc := cJ7_copyOf_1904c) (maxL := 2) (ret := (some (.array (.object "java/lang/Object")))) (by decide) rfl ?_
  intro p e s m args below meth c s₁ B9 hml hv
  obtain ⟨rfl, hsz, hP, hK, hD0, hE⟩ := hv
  have hx := B9.exec
  have hb := B9.bytes
  have hr := B9.returns
  have hts : ∀ w ∈ WW, w.before ([.ref ed, .int (nI nl)] : List Value).toArray s = true := fun w h => atoms_spec (ws := .code yJ7_copyOf_1904c cJ7_copyOf_1904c 2 (some (.array (.object "java/lang/Object"))) :: WW) B9.pre w (List.mem_cons_of_mem _ h)
  have hown : s.vm.findClass RJ7 = some m.cls := findClass_of_methodNamed B9.named
  subst hsz
  have hD := hD0.self (sz := s.heap.size)
  generalize hAe : va_A [(ed, .inl (gyO G, cap, .inr (.inr (.inr (.inr f)))))] s.heap.size = A at hD hE ⊢
  have hA : ∀ q : Nat, s.heap.size ≤ q → A q := fun q h => by rw [← hAe]; exact Or.inr h
  have hl := lv_entry ([.ref ed, .int (nI nl)]) (n := 2) (Nat.le_of_ble_eq_true rfl)
  rw [lg_entry_eq]
  generalize (lg_sl ([.ref ed, .int (nI nl)]) ++ List.replicate (2 - (lg_sl ([.ref ed, .int (nI nl)])).length) Slot.unset).toArray = ls at hl ⊢
  have hl : lv_has ls 2 [(0, .ref ed), (1, .int (nI nl))] := hl
  refine qgen (fun Q hQ => ?_)
  refine hgen (fun H locs hP hD hS => ?_) hP hD
  refine lv_aload_n hx hb dJ7_copyOf_1904c_0 rfl (lv_at hl 0 rfl) ?_
  refine lv_iload_n hx hb dJ7_copyOf_1904c_1 rfl (lv_at hl 1 rfl) ?_
  refine lv_aload_n hx hb dJ7_copyOf_1904c_2 rfl (lv_at hl 0 rfl) ?_
  refine va_getC hx hb (hml.trans hl.1.symm) hown (hts _ q497) (va_Dc.use hE.1.2.2.2.2.1) (hts _ q1402) (hts _ q498) (hts _ q521) hE.1.2.2.2.1 (arr_recv hK hP 0 rfl) (Nat.le_of_ble_eq_true rfl) (Nat.le_of_ble_eq_true rfl) dJ7_copyOf_1904c_3 ?_
  refine fin_r hP hD hS hA [0] [] (wr := []) rfl rfl (by decide) (by decide) (va_runS (As := [.ref ed, .int (nI nl), .ref (gM G)]) (rest := []) ⟨hx, hb, hml, hown, hts⟩ (c_J7_copyOf_6403c l G ed cap f nl (by omega) (by omega) (by omega) H.size) (va_cwS 3 hts (gSt q522 q523 q60 q524) rfl rfl rfl (by decide +kernel) ⟨Nat.le_of_ble_eq_true rfl, Nat.le_of_ble_eq_true rfl⟩) (preS hK hE hP hD hS hA [0] rfl (by decide)) rfl rfl hl.1 rfl (lv_room (Nat.le_of_ble_eq_true rfl)) dJ7_copyOf_1904c_6 ⟨Nat.le_of_ble_eq_true rfl, Nat.le_of_ble_eq_true rfl⟩) (fun u9 r_3 hw_2 H locs hP hD hS => ?_)
  obtain ⟨f2_1, rfl⟩ : ∃ z, z = u9 := ⟨_, rfl⟩
  have hf2_4 := hw_2
  have hf2_4 : obR (gOB G) f2_1 := hf2_4
  have hP : va_P (gD G) vwCl [(ed, .inl (gyO G, cap, .inr (.inr (.inr (.inr f))))), (r_3, .inl (gyO G, nl, .inr (.inr (.inr (.inr f2_1)))))] H := hP
  have hD : va_D A [(ed, .inl (gyO G, cap, .inr (.inr (.inr (.inr f))))), (r_3, .inl (gyO G, nl, .inr (.inr (.inr (.inr f2_1)))))] := hD
  have hP9 := hP.sub (ws' := [(ed, .inl (gyO G, cap, .inr (.inr (.inr (.inr f))))), (r_3, .inl (gyO G, nl, .inr (.inr (.inr (.inr f2_1)))))]) [0, 1] rfl
  have hD9 := hD.sub (ws' := [(ed, .inl (gyO G, cap, .inr (.inr (.inr (.inr f))))), (r_3, .inl (gyO G, nl, .inr (.inr (.inr (.inr f2_1)))))]) [0, 1] (by decide) rfl
  subst hQ
  exact W.aret (v := .ref r_3) hx hb hr (Or.inr ⟨_, rfl⟩) (Or.inr ⟨_, rfl⟩) (fun t ht hW => ⟨⟨f2_1, r_3, rfl, trivial, hf2_4, by rw [ht]; exact hP9, hD9⟩, hS.F ht⟩) hS.2.2 dJ7_copyOf_1904c_9
set_option maxHeartbeats 4000000 in
set_option maxRecDepth 100000 in
theorem c_growB1_more (l : Launch) (G : GG) (al : Nat) (md : Int32) (ed : Nat) (n : Nat) (cap : Nat) (f : Nat → Option Nat) (mn : Nat) (h1 : 10 ≤ cap) (h2 : cap ≤ 300) (hf : obR (gOB G) f) (hmn : mn = cap + 1) (hn : n = cap) : Mr l G yJx4a65c_grow_92f84 cJx4a65c_grow_92f84 4 (some (.array (.object "java/lang/Object"))) ({ frames := 3, cells := 1, slots := 500, locals := 104 } : Room) [.ref al, .int (nI mn)] [(al, .inr (4, [.int md, .ref ed, .int (nI n)])), (ed, .inl (gyO G, cap, .inr (.inr (.inr (.inr f)))))] (fun (u : Nat × (Nat → Option Nat)) (r : Nat) => n + 1 ≤ u.1 ∧ u.1 ≤ 2 * n + 10 ∧ obR (gOB G) u.2) (fun (u : Nat × (Nat → Option Nat)) (r : Nat) => [(al, .inr (4, [.int md, .ref r, .int (nI n)])), (r, .inl (gyO G, u.1, .inr (.inr (.inr (.inr u.2)))))]) := by
  intro sz
  refine Met.ofW (cc := cJx4a65c_grow_92f84) (maxL := 4) (ret := (some (.array (.object "java/lang/Object")))) (by decide) rfl ?_
  intro p e s m args below meth c s₁ B9 hml hv
  obtain ⟨rfl, hsz, hP, hK, hD0, hE⟩ := hv
  have hx := B9.exec
  have hb := B9.bytes
  have hr := B9.returns
  have hts : ∀ w ∈ WW, w.before ([.ref al, .int (nI mn)] : List Value).toArray s = true := fun w h => atoms_spec (ws := .code yJx4a65c_grow_92f84 cJx4a65c_grow_92f84 4 (some (.array (.object "java/lang/Object"))) :: WW) B9.pre w (List.mem_cons_of_mem _ h)
  have hown : s.vm.findClass RJx4a65c = some m.cls := findClass_of_methodNamed B9.named
  subst hsz
  have hD := hD0.self (sz := s.heap.size)
  generalize hAe : va_A [(al, .inr (4, [.int md, .ref ed, .int (nI n)])), (ed, .inl (gyO G, cap, .inr (.inr (.inr (.inr f)))))] s.heap.size = A at hD hE ⊢
  have hA : ∀ q : Nat, s.heap.size ≤ q → A q := fun q h => by rw [← hAe]; exact Or.inr h
  have hl := lv_entry ([.ref al, .int (nI mn)]) (n := 4) (Nat.le_of_ble_eq_true rfl)
  rw [lg_entry_eq]
  generalize (lg_sl ([.ref al, .int (nI mn)]) ++ List.replicate (4 - (lg_sl ([.ref al, .int (nI mn)])).length) Slot.unset).toArray = ls at hl ⊢
  have hl : lv_has ls 4 [(0, .ref al), (1, .int (nI mn))] := hl
  refine qgen (fun Q hQ => ?_)
  refine hgen (fun H locs hP hD hS => ?_) hP hD
  refine lv_aload_n hx hb dJx4a65c_grow_92f84_0 rfl (lv_at hl 0 rfl) ?_
  refine va_get (D := gD G) (ci := 4) (v := .ref ed) (C := RJx4a65c) (T := TJx4a65c) (N := 3) hx hb hts fwJx4a65c hown hK hP 0 rfl rfl 1 (by decide) (hts _ q102) (fun _ h9 => h9) rfl dJx4a65c_grow_92f84_1 ?_
  refine va_alen (D := gD G) (v := nI cap) hx hb hK hP 1 1 rfl rfl rfl dJx4a65c_grow_92f84_4 ?_
  refine lv_istore_n (lv' := [(2, .int (nI cap)), (0, .ref al), (1, .int (nI mn))]) hx hb dJx4a65c_grow_92f84_5 rfl hl (by decide) rfl (fun ls hl => ?_)
  refine lv_iload_n hx hb dJx4a65c_grow_92f84_6 rfl (lv_at hl 0 rfl) ?_
  refine lv_if_gt (tgt := 20) hx hb dJx4a65c_grow_92f84_7 (by decide) (fun c_1 => ?_) (fun c_1 => ?_)
  · skip
    have c_1 : 0 < cap := (nI_ltI (a := 0) (b := cap) (by omega) (by omega)).mp c_1
    refine lv_iload_n hx hb dJx4a65c_grow_92f84_20 rfl (lv_at hl 0 rfl) ?_
    refine lv_iload_n hx hb dJx4a65c_grow_92f84_21 rfl (lv_at hl 2 rfl) ?_
    refine lv_iload_n hx hb dJx4a65c_grow_92f84_22 rfl (lv_at hl 0 rfl) ?_
    refine lv_isub hx hb dJx4a65c_grow_92f84_23 ?_
    refine lv_toe (pk_sub (a := mn) (b := cap) (by omega)) ?_
    refine lv_iload_n hx hb dJx4a65c_grow_92f84_24 rfl (lv_at hl 0 rfl) ?_
    refine lv_iconst (v := nI 1) hx hb dJx4a65c_grow_92f84_25 (by decide) ?_
    refine lv_ishr hx hb dJx4a65c_grow_92f84_26 ?_
    refine lv_toe (show _ = nI (cap / 2) from pk_shrN (n := cap) (by omega) (nI 1 &&& 31) 1 (by decide)) ?_
    refine fin_i hP hD hS hA [] [0, 1] (wr := [(al, .inr (4, [.int md, .ref ed, .int (nI n)])), (ed, .inl (gyO G, cap, .inr (.inr (.inr (.inr f)))))]) rfl rfl (by decide) (by decide) (va_runS (As := [.int (nI cap), .int (nI (mn - cap)), .int (nI (cap / 2))]) (rest := []) ⟨hx, hb, hml, hown, hts⟩ (c_J8_newLength_cabcc l G cap (mn - cap) (cap / 2) (by omega) (by omega) (by omega) (by omega) H.size) (va_cwS 3 hts (gSt q484 q485 q58 q486) rfl rfl rfl (by decide +kernel) ⟨Nat.le_of_ble_eq_true rfl, Nat.le_of_ble_eq_true rfl⟩) (preS hK hE hP hD hS hA [] rfl (by decide)) rfl rfl hl.1 rfl (lv_room (Nat.le_of_ble_eq_true rfl)) dJx4a65c_grow_92f84_27 ⟨Nat.le_of_ble_eq_true rfl, Nat.le_of_ble_eq_true rfl⟩) (fun r_3 u9 hw_2 H locs hP hD hS => ?_)
    subst hw_2
    have hP : va_P (gD G) vwCl [(al, .inr (4, [.int md, .ref ed, .int (nI n)])), (ed, .inl (gyO G, cap, .inr (.inr (.inr (.inr f)))))] H := hP
    have hD : va_D A [(al, .inr (4, [.int md, .ref ed, .int (nI n)])), (ed, .inl (gyO G, cap, .inr (.inr (.inr (.inr f)))))] := hD
    refine lv_istore_n (lv' := [(3, .int (nI (cap + max (mn - cap) (cap / 2)))), (2, .int (nI cap)), (0, .ref al), (1, .int (nI mn))]) hx hb dJx4a65c_grow_92f84_30 rfl hl (by decide) rfl (fun ls hl => ?_)
    refine lv_aload_n hx hb dJx4a65c_grow_92f84_31 rfl (lv_at hl 2 rfl) ?_
    refine lv_aload_n hx hb dJx4a65c_grow_92f84_32 rfl (lv_at hl 2 rfl) ?_
    refine va_get (D := gD G) (ci := 4) (v := .ref ed) (C := RJx4a65c) (T := TJx4a65c) (N := 3) hx hb hts fwJx4a65c hown hK hP 0 rfl rfl 1 (by decide) (hts _ q102) (fun _ h9 => h9) rfl dJx4a65c_grow_92f84_33 ?_
    refine lv_iload_n hx hb dJx4a65c_grow_92f84_36 rfl (lv_at hl 0 rfl) ?_
    refine fin_r hP hD hS hA [1] [0] (wr := [(al, .inr (4, [.int md, .ref ed, .int (nI n)]))]) rfl rfl (by decide) (by decide) (va_runS (As := [.ref ed, .int (nI (cap + max (mn - cap) (cap / 2)))]) (rest := [.ref al]) ⟨hx, hb, hml, hown, hts⟩ (c_J7_copyOf_1904c l G ed cap f (cap + max (mn - cap) (cap / 2)) (by omega) (by omega) (by omega) H.size) (va_cwS 2 hts (gSt q494 q495 q60 q496) rfl rfl rfl (by decide +kernel) ⟨Nat.le_of_ble_eq_true rfl, Nat.le_of_ble_eq_true rfl⟩) (preS hK hE hP hD hS hA [1] rfl (by decide)) rfl rfl hl.1 rfl (lv_room (Nat.le_of_ble_eq_true rfl)) dJx4a65c_grow_92f84_37 ⟨Nat.le_of_ble_eq_true rfl, Nat.le_of_ble_eq_true rfl⟩) (fun u9 r_6 hw_5 H locs hP hD hS => ?_)
    obtain ⟨f2_4, rfl⟩ : ∃ z, z = u9 := ⟨_, rfl⟩
    have hf2_7 := hw_5
    have hf2_7 : obR (gOB G) f2_4 := hf2_7
    have hP : va_P (gD G) vwCl [(al, .inr (4, [.int md, .ref ed, .int (nI n)])), (ed, .inl (gyO G, cap, .inr (.inr (.inr (.inr f))))), (r_6, .inl (gyO G, cap + max (mn - cap) (cap / 2), .inr (.inr (.inr (.inr f2_4)))))] H := hP
    have hD : va_D A [(al, .inr (4, [.int md, .ref ed, .int (nI n)])), (ed, .inl (gyO G, cap, .inr (.inr (.inr (.inr f))))), (r_6, .inl (gyO G, cap + max (mn - cap) (cap / 2), .inr (.inr (.inr (.inr f2_4)))))] := hD
    refine lv_dup_x1 hx hb dJx4a65c_grow_92f84_40 rfl rfl ?_
    refine va_put (D := gD G) (ci := 4) (v := .ref r_6) (ty := .array (.object "java/lang/Object")) (C := RJx4a65c) (T := TJx4a65c) (N := 3) hx hb hts fwJx4a65c tyJx4a65c tyJx4a65c_ok nmJx4a65c hown hK hP hD hS 0 rfl rfl 1 (by decide) (hts _ q102) (fun _ h9 => h9) rfl (by decide +kernel) rfl rfl (Nat.le_of_ble_eq_true rfl) dJx4a65c_grow_92f84_41 (fun H locs hP hD hS => ?_)
    have hP : va_P (gD G) vwCl [(al, .inr (4, [.int md, .ref r_6, .int (nI n)])), (ed, .inl (gyO G, cap, .inr (.inr (.inr (.inr f))))), (r_6, .inl (gyO G, cap + max (mn - cap) (cap / 2), .inr (.inr (.inr (.inr f2_4)))))] H := hP
    have hD : va_D A [(al, .inr (4, [.int md, .ref r_6, .int (nI n)])), (ed, .inl (gyO G, cap, .inr (.inr (.inr (.inr f))))), (r_6, .inl (gyO G, cap + max (mn - cap) (cap / 2), .inr (.inr (.inr (.inr f2_4)))))] := hD
    have hP9 := hP.sub (ws' := [(al, .inr (4, [.int md, .ref r_6, .int (nI n)])), (r_6, .inl (gyO G, cap + max (mn - cap) (cap / 2), .inr (.inr (.inr (.inr f2_4)))))]) [0, 2] rfl
    have hD9 := hD.sub (ws' := [(al, .inr (4, [.int md, .ref r_6, .int (nI n)])), (r_6, .inl (gyO G, cap + max (mn - cap) (cap / 2), .inr (.inr (.inr (.inr f2_4)))))]) [0, 2] (by decide) rfl
    subst hQ
    exact W.aret (v := .ref r_6) hx hb hr (Or.inr ⟨_, rfl⟩) (Or.inr ⟨_, rfl⟩) (fun t ht hW => ⟨⟨((cap + max (mn - cap) (cap / 2)), f2_4), r_6, rfl, trivial, ⟨(show n + 1 ≤ (cap + max (mn - cap) (cap / 2)) by omega), (show (cap + max (mn - cap) (cap / 2)) ≤ 2 * n + 10 by omega), hf2_7⟩, by rw [ht]; exact hP9, hD9⟩, hS.F ht⟩) hS.2.2 dJx4a65c_grow_92f84_44
  · skip
    have c_1 : ¬ 0 < cap := fun z => c_1 ((nI_ltI (a := 0) (b := cap) (by omega) (by omega)).mpr z)
    exfalso; omega
set_option maxHeartbeats 4000000 in
set_option maxRecDepth 100000 in
theorem c_growB_more (l : Launch) (G : GG) (al : Nat) (md : Int32) (ed : Nat) (n : Nat) (cap : Nat) (f : Nat → Option Nat) (h1 : 10 ≤ cap) (h2 : cap ≤ 300) (hf : obR (gOB G) f) (hn : n = cap) : Mr l G yJx4a65c_grow_d5877 cJx4a65c_grow_d5877 1 (some (.array (.object "java/lang/Object"))) ({ frames := 4, cells := 1, slots := 500, locals := 127 } : Room) [.ref al] [(al, .inr (4, [.int md, .ref ed, .int (nI n)])), (ed, .inl (gyO G, cap, .inr (.inr (.inr (.inr f)))))] (fun (u : Nat × (Nat → Option Nat)) (r : Nat) => n + 1 ≤ u.1 ∧ u.1 ≤ 2 * n + 10 ∧ obR (gOB G) u.2) (fun (u : Nat × (Nat → Option Nat)) (r : Nat) => [(al, .inr (4, [.int md, .ref r, .int (nI n)])), (r, .inl (gyO G, u.1, .inr (.inr (.inr (.inr u.2)))))]) := by
  intro sz
  refine Met.ofW (cc := cJx4a65c_grow_d5877) (maxL := 1) (ret := (some (.array (.object "java/lang/Object")))) (by decide) rfl ?_
  intro p e s m args below meth c s₁ B9 hml hv
  obtain ⟨rfl, hsz, hP, hK, hD0, hE⟩ := hv
  have hx := B9.exec
  have hb := B9.bytes
  have hr := B9.returns
  have hts : ∀ w ∈ WW, w.before ([.ref al] : List Value).toArray s = true := fun w h => atoms_spec (ws := .code yJx4a65c_grow_d5877 cJx4a65c_grow_d5877 1 (some (.array (.object "java/lang/Object"))) :: WW) B9.pre w (List.mem_cons_of_mem _ h)
  have hown : s.vm.findClass RJx4a65c = some m.cls := findClass_of_methodNamed B9.named
  subst hsz
  have hD := hD0.self (sz := s.heap.size)
  generalize hAe : va_A [(al, .inr (4, [.int md, .ref ed, .int (nI n)])), (ed, .inl (gyO G, cap, .inr (.inr (.inr (.inr f)))))] s.heap.size = A at hD hE ⊢
  have hA : ∀ q : Nat, s.heap.size ≤ q → A q := fun q h => by rw [← hAe]; exact Or.inr h
  have hl := lv_entry ([.ref al]) (n := 1) (Nat.le_of_ble_eq_true rfl)
  rw [lg_entry_eq]
  generalize (lg_sl ([.ref al]) ++ List.replicate (1 - (lg_sl ([.ref al])).length) Slot.unset).toArray = ls at hl ⊢
  have hl : lv_has ls 1 [(0, .ref al)] := hl
  refine qgen (fun Q hQ => ?_)
  refine hgen (fun H locs hP hD hS => ?_) hP hD
  refine lv_aload_n hx hb dJx4a65c_grow_d5877_0 rfl (lv_at hl 0 rfl) ?_
  refine lv_aload_n hx hb dJx4a65c_grow_d5877_1 rfl (lv_at hl 0 rfl) ?_
  refine va_get (D := gD G) (ci := 4) (v := .int (nI n)) (C := RJx4a65c) (T := TJx4a65c) (N := 3) hx hb hts fwJx4a65c hown hK hP 0 rfl rfl 2 (by decide) (hts _ q105) (fun _ h9 => h9) rfl dJx4a65c_grow_d5877_2 ?_
  refine lv_iconst (v := nI 1) hx hb dJx4a65c_grow_d5877_5 (by decide) ?_
  refine lv_iadd hx hb dJx4a65c_grow_d5877_6 ?_
  refine lv_toe (nI_add n 1) ?_
  refine fin_r hP hD hS hA [0, 1] [] (wr := []) rfl rfl (by decide) (by decide) (va_runV (As := [.int (nI (n + 1))]) (rest := []) ⟨hx, hb, hml, hown, hts⟩ (c_growB1_more l G al md ed n cap f (n + 1) (by omega) (by omega) (by omega) (by omega) (by omega) H.size) (cwV 1 hts (gV q480 q482 q22 q48 q483) rfl rfl rfl (by decide +kernel) ⟨Nat.le_of_ble_eq_true rfl, Nat.le_of_ble_eq_true rfl⟩) (preV (q0 := 0) (ci := 4) hK hE hP hD hS hA [0, 1] rfl (by decide) rfl rfl) rfl rfl hl.1 rfl (lv_room (Nat.le_of_ble_eq_true rfl)) dJx4a65c_grow_d5877_7 ⟨Nat.le_of_ble_eq_true rfl, Nat.le_of_ble_eq_true rfl⟩) (fun u9 r_4 hw_3 H locs hP hD hS => ?_)
  obtain ⟨cap2_1, f2_2⟩ := u9
  obtain ⟨hc2_5, hc3_6, hf2_7⟩ := hw_3
  have hc2_5 : n + 1 ≤ cap2_1 := hc2_5
  have hc3_6 : cap2_1 ≤ 2 * n + 10 := hc3_6
  have hf2_7 : obR (gOB G) f2_2 := hf2_7
  have hP : va_P (gD G) vwCl [(al, .inr (4, [.int md, .ref r_4, .int (nI n)])), (r_4, .inl (gyO G, cap2_1, .inr (.inr (.inr (.inr f2_2)))))] H := hP
  have hD : va_D A [(al, .inr (4, [.int md, .ref r_4, .int (nI n)])), (r_4, .inl (gyO G, cap2_1, .inr (.inr (.inr (.inr f2_2)))))] := hD
  have hP9 := hP.sub (ws' := [(al, .inr (4, [.int md, .ref r_4, .int (nI n)])), (r_4, .inl (gyO G, cap2_1, .inr (.inr (.inr (.inr f2_2)))))]) [0, 1] rfl
  have hD9 := hD.sub (ws' := [(al, .inr (4, [.int md, .ref r_4, .int (nI n)])), (r_4, .inl (gyO G, cap2_1, .inr (.inr (.inr (.inr f2_2)))))]) [0, 1] (by decide) rfl
  subst hQ
  exact W.aret (v := .ref r_4) hx hb hr (Or.inr ⟨_, rfl⟩) (Or.inr ⟨_, rfl⟩) (fun t ht hW => ⟨⟨(cap2_1, f2_2), r_4, rfl, trivial, ⟨(show n + 1 ≤ cap2_1 by omega), (show cap2_1 ≤ 2 * n + 10 by omega), hf2_7⟩, by rw [ht]; exact hP9, hD9⟩, hS.F ht⟩) hS.2.2 dJx4a65c_grow_d5877_10
set_option maxHeartbeats 4000000 in
set_option maxRecDepth 100000 in
theorem c_addB3_more (l : Launch) (G : GG) (al : Nat) (md : Int32) (ed : Nat) (n : Nat) (cap : Nat) (f : Nat → Option Nat) (v : Nat) (hob : gOB G v) (h1 : 10 ≤ cap) (h2 : cap ≤ 300) (hf : obR (gOB G) f) (hn1 : n ≤ cap) (hn2 : cap ≤ 2 * n + 10) : Mv l G yJx4a65c_add_72be8 cJx4a65c_add_72be8 4 ({ frames := 5, cells := 1, slots := 500, locals := 147 } : Room) [.ref al, .ref v, .ref ed, .int (nI n)] [(al, .inr (4, [.int md, .ref ed, .int (nI n)])), (ed, .inl (gyO G, cap, .inr (.inr (.inr (.inr f)))))] (fun (u : Nat × Nat × (Nat → Option Nat)) => 10 ≤ u.2.1 ∧ n + 1 ≤ u.2.1 ∧ u.2.1 ≤ 2 * (n + 1) + 10 ∧ obR (gOB G) u.2.2) (fun (u : Nat × Nat × (Nat → Option Nat)) => [(al, .inr (4, [.int md, .ref u.1, .int (nI (n + 1))])), (u.1, .inl (gyO G, u.2.1, .inr (.inr (.inr (.inr u.2.2)))))]) := by
  intro sz
  refine Met.ofW (cc := cJx4a65c_add_72be8) (maxL := 4) (ret := none) (by decide) rfl ?_
  intro p e s m args below meth c s₁ B9 hml hv
  obtain ⟨rfl, hsz, hP, hK, hD0, hE⟩ := hv
  have hx := B9.exec
  have hb := B9.bytes
  have hr := B9.returns
  have hts : ∀ w ∈ WW, w.before ([.ref al, .ref v, .ref ed, .int (nI n)] : List Value).toArray s = true := fun w h => atoms_spec (ws := .code yJx4a65c_add_72be8 cJx4a65c_add_72be8 4 none :: WW) B9.pre w (List.mem_cons_of_mem _ h)
  have hown : s.vm.findClass RJx4a65c = some m.cls := findClass_of_methodNamed B9.named
  subst hsz
  have hD := hD0.self (sz := s.heap.size)
  generalize hAe : va_A [(al, .inr (4, [.int md, .ref ed, .int (nI n)])), (ed, .inl (gyO G, cap, .inr (.inr (.inr (.inr f)))))] s.heap.size = A at hD hE ⊢
  have hA : ∀ q : Nat, s.heap.size ≤ q → A q := fun q h => by rw [← hAe]; exact Or.inr h
  have hl := lv_entry ([.ref al, .ref v, .ref ed, .int (nI n)]) (n := 4) (Nat.le_of_ble_eq_true rfl)
  rw [lg_entry_eq]
  generalize (lg_sl ([.ref al, .ref v, .ref ed, .int (nI n)]) ++ List.replicate (4 - (lg_sl ([.ref al, .ref v, .ref ed, .int (nI n)])).length) Slot.unset).toArray = ls at hl ⊢
  have hl : lv_has ls 4 [(0, .ref al), (1, .ref v), (2, .ref ed), (3, .int (nI n))] := hl
  refine qgen (fun Q hQ => ?_)
  refine hgen (fun H locs hP hD hS => ?_) hP hD
  refine lv_iload_n hx hb dJx4a65c_add_72be8_0 rfl (lv_at hl 3 rfl) ?_
  refine lv_aload_n hx hb dJx4a65c_add_72be8_1 rfl (lv_at hl 2 rfl) ?_
  refine va_alen (D := gD G) (v := nI cap) hx hb hK hP 1 1 rfl rfl rfl dJx4a65c_add_72be8_2 ?_
  refine lv_icmp_ne (tgt := 11) hx hb dJx4a65c_add_72be8_3 (by decide) (fun c_1 => ?_) (fun c_1 => ?_)
  · skip
    have c_1 : ¬ n = cap := fun z => c_1 ((nI_eq (a := n) (b := cap) (by omega) (by omega)).mpr z)
    refine lv_aload_n hx hb dJx4a65c_add_72be8_11 rfl (lv_at hl 2 rfl) ?_
    refine lv_iload_n hx hb dJx4a65c_add_72be8_12 rfl (lv_at hl 3 rfl) ?_
    refine lv_aload_n hx hb dJx4a65c_add_72be8_13 rfl (lv_at hl 1 rfl) ?_
    refine va_astqM (D := gD G) (cA := gyO G) (n := cap) (f := f) hx hb hK hP hD hS 1 1 rfl rfl (ob_any hE hS hob) (vp_in_nI (n := n) (N := cap) (by omega) (by omega)) dJx4a65c_add_72be8_14 (fun H locs hP hD hS => ?_)
    rw [nI_clamp (by omega)] at hP hD
    have hb_3 : obR (gOB G) (va_up f n (some v)) := hf.up hob
    generalize va_up f n (some v) = f_2 at hP hD hb_3
    have hP : va_P (gD G) vwCl [(al, .inr (4, [.int md, .ref ed, .int (nI n)])), (ed, .inl (gyO G, cap, .inr (.inr (.inr (.inr f_2)))))] H := hP
    have hD : va_D A [(al, .inr (4, [.int md, .ref ed, .int (nI n)])), (ed, .inl (gyO G, cap, .inr (.inr (.inr (.inr f_2)))))] := hD
    refine lv_aload_n hx hb dJx4a65c_add_72be8_15 rfl (lv_at hl 0 rfl) ?_
    refine lv_iload_n hx hb dJx4a65c_add_72be8_16 rfl (lv_at hl 3 rfl) ?_
    refine lv_iconst (v := nI 1) hx hb dJx4a65c_add_72be8_17 (by decide) ?_
    refine lv_iadd hx hb dJx4a65c_add_72be8_18 ?_
    refine lv_toe (nI_add n 1) ?_
    refine va_put (D := gD G) (ci := 4) (v := .int (nI (n + 1))) (ty := .int) (C := RJx4a65c) (T := TJx4a65c) (N := 3) hx hb hts fwJx4a65c tyJx4a65c tyJx4a65c_ok nmJx4a65c hown hK hP hD hS 0 rfl rfl 2 (by decide) (hts _ q105) (fun _ h9 => h9) rfl (by decide +kernel) rfl rfl (Nat.le_of_ble_eq_true rfl) dJx4a65c_add_72be8_19 (fun H locs hP hD hS => ?_)
    have hP : va_P (gD G) vwCl [(al, .inr (4, [.int md, .ref ed, .int (nI (n + 1))])), (ed, .inl (gyO G, cap, .inr (.inr (.inr (.inr f_2)))))] H := hP
    have hD : va_D A [(al, .inr (4, [.int md, .ref ed, .int (nI (n + 1))])), (ed, .inl (gyO G, cap, .inr (.inr (.inr (.inr f_2)))))] := hD
    have hP9 := hP.sub (ws' := [(al, .inr (4, [.int md, .ref ed, .int (nI (n + 1))])), (ed, .inl (gyO G, cap, .inr (.inr (.inr (.inr f_2)))))]) [0, 1] rfl
    have hD9 := hD.sub (ws' := [(al, .inr (4, [.int md, .ref ed, .int (nI (n + 1))])), (ed, .inl (gyO G, cap, .inr (.inr (.inr (.inr f_2)))))]) [0, 1] (by decide) rfl
    refine W.widen (k := 1) (n := 500) (Nat.le_of_ble_eq_true rfl) (Nat.le_of_ble_eq_true rfl) ?_
    subst hQ
    exact W.vret hx hb hr (fun t ht hW => ⟨⟨(ed, cap, f_2), rfl, ⟨(show 10 ≤ cap by omega), (show n + 1 ≤ cap by omega), (show cap ≤ 2 * (n + 1) + 10 by omega), hb_3⟩, by rw [ht]; exact hP9, hD9⟩, hS.F ht⟩) hS.2.2 dJx4a65c_add_72be8_22
  · skip
    have c_1 : n = cap := (nI_eq (a := n) (b := cap) (by omega) (by omega)).mp c_1
    refine lv_aload_n hx hb dJx4a65c_add_72be8_6 rfl (lv_at hl 0 rfl) ?_
    refine fin_r hP hD hS hA [0, 1] [] (wr := []) rfl rfl (by decide) (by decide) (va_runV (As := []) (rest := []) ⟨hx, hb, hml, hown, hts⟩ (c_growB_more l G al md ed n cap f (by omega) (by omega) (by omega) (by omega) H.size) (cwV 0 hts (gV q476 q478 q21 q48 q479) rfl rfl rfl (by decide +kernel) ⟨Nat.le_of_ble_eq_true rfl, Nat.le_of_ble_eq_true rfl⟩) (preV (q0 := 0) (ci := 4) hK hE hP hD hS hA [0, 1] rfl (by decide) rfl rfl) rfl rfl hl.1 rfl (lv_room (Nat.le_of_ble_eq_true rfl)) dJx4a65c_add_72be8_7 ⟨Nat.le_of_ble_eq_true rfl, Nat.le_of_ble_eq_true rfl⟩) (fun u9 r_7 hw_6 H locs hP hD hS => ?_)
    obtain ⟨cap2_4, f2_5⟩ := u9
    obtain ⟨hc2_8, hc3_9, hf2_10⟩ := hw_6
    have hc2_8 : n + 1 ≤ cap2_4 := hc2_8
    have hc3_9 : cap2_4 ≤ 2 * n + 10 := hc3_9
    have hf2_10 : obR (gOB G) f2_5 := hf2_10
    have hP : va_P (gD G) vwCl [(al, .inr (4, [.int md, .ref r_7, .int (nI n)])), (r_7, .inl (gyO G, cap2_4, .inr (.inr (.inr (.inr f2_5)))))] H := hP
    have hD : va_D A [(al, .inr (4, [.int md, .ref r_7, .int (nI n)])), (r_7, .inl (gyO G, cap2_4, .inr (.inr (.inr (.inr f2_5)))))] := hD
    refine lv_astore_n (lv' := [(2, .ref r_7), (0, .ref al), (1, .ref v), (3, .int (nI n))]) hx hb dJx4a65c_add_72be8_10 rfl hl (by decide) rfl (fun ls hl => ?_)
    refine lv_aload_n hx hb dJx4a65c_add_72be8_11 rfl (lv_at hl 0 rfl) ?_
    refine lv_iload_n hx hb dJx4a65c_add_72be8_12 rfl (lv_at hl 3 rfl) ?_
    refine lv_aload_n hx hb dJx4a65c_add_72be8_13 rfl (lv_at hl 2 rfl) ?_
    refine va_astqM (D := gD G) (cA := gyO G) (n := cap2_4) (f := f2_5) hx hb hK hP hD hS 1 1 rfl rfl (ob_any hE hS hob) (vp_in_nI (n := n) (N := cap2_4) (by omega) (by omega)) dJx4a65c_add_72be8_14 (fun H locs hP hD hS => ?_)
    rw [nI_clamp (by omega)] at hP hD
    have hb_12 : obR (gOB G) (va_up f2_5 n (some v)) := hf2_10.up hob
    generalize va_up f2_5 n (some v) = f_11 at hP hD hb_12
    have hP : va_P (gD G) vwCl [(al, .inr (4, [.int md, .ref r_7, .int (nI n)])), (r_7, .inl (gyO G, cap2_4, .inr (.inr (.inr (.inr f_11)))))] H := hP
    have hD : va_D A [(al, .inr (4, [.int md, .ref r_7, .int (nI n)])), (r_7, .inl (gyO G, cap2_4, .inr (.inr (.inr (.inr f_11)))))] := hD
    refine lv_aload_n hx hb dJx4a65c_add_72be8_15 rfl (lv_at hl 1 rfl) ?_
    refine lv_iload_n hx hb dJx4a65c_add_72be8_16 rfl (lv_at hl 3 rfl) ?_
    refine lv_iconst (v := nI 1) hx hb dJx4a65c_add_72be8_17 (by decide) ?_
    refine lv_iadd hx hb dJx4a65c_add_72be8_18 ?_
    refine lv_toe (nI_add n 1) ?_
    refine va_put (D := gD G) (ci := 4) (v := .int (nI (n + 1))) (ty := .int) (C := RJx4a65c) (T := TJx4a65c) (N := 3) hx hb hts fwJx4a65c tyJx4a65c tyJx4a65c_ok nmJx4a65c hown hK hP hD hS 0 rfl rfl 2 (by decide) (hts _ q105) (fun _ h9 => h9) rfl (by decide +kernel) rfl rfl (Nat.le_of_ble_eq_true rfl) dJx4a65c_add_72be8_19 (fun H locs hP hD hS => ?_)
    have hP : va_P (gD G) vwCl [(al, .inr (4, [.int md, .ref r_7, .int (nI (n + 1))])), (r_7, .inl (gyO G, cap2_4, .inr (.inr (.inr (.inr f_11)))))] H := hP
    have hD : va_D A [(al, .inr (4, [.int md, .ref r_7, .int (nI (n + 1))])), (r_7, .inl (gyO G, cap2_4, .inr (.inr (.inr (.inr f_11)))))] := hD
    have hP9 := hP.sub (ws' := [(al, .inr (4, [.int md, .ref r_7, .int (nI (n + 1))])), (r_7, .inl (gyO G, cap2_4, .inr (.inr (.inr (.inr f_11)))))]) [0, 1] rfl
    have hD9 := hD.sub (ws' := [(al, .inr (4, [.int md, .ref r_7, .int (nI (n + 1))])), (r_7, .inl (gyO G, cap2_4, .inr (.inr (.inr (.inr f_11)))))]) [0, 1] (by decide) rfl
    subst hQ
    exact W.vret hx hb hr (fun t ht hW => ⟨⟨(r_7, cap2_4, f_11), rfl, ⟨(show 10 ≤ cap2_4 by omega), (show n + 1 ≤ cap2_4 by omega), (show cap2_4 ≤ 2 * (n + 1) + 10 by omega), hb_12⟩, by rw [ht]; exact hP9, hD9⟩, hS.F ht⟩) hS.2.2 dJx4a65c_add_72be8_22
set_option maxHeartbeats 4000000 in
set_option maxRecDepth 100000 in
theorem c_addB_more (l : Launch) (G : GG) (al : Nat) (md : Int32) (ed : Nat) (n : Nat) (cap : Nat) (f : Nat → Option Nat) (v : Nat) (hob : gOB G v) (h1 : 10 ≤ cap) (h2 : cap ≤ 300) (hf : obR (gOB G) f) (hn1 : n ≤ cap) (hn2 : cap ≤ 2 * n + 10) : Mi l G yJx4a65c_add_9ea2d cJx4a65c_add_9ea2d 2 (some .boolean) ({ frames := 6, cells := 1, slots := 500, locals := 170 } : Room) [.ref al, .ref v] [(al, .inr (4, [.int md, .ref ed, .int (nI n)])), (ed, .inl (gyO G, cap, .inr (.inr (.inr (.inr f)))))] (fun (r : Int32) (u : Int32 × Nat × Nat × (Nat → Option Nat)) => 10 ≤ u.2.2.1 ∧ n + 1 ≤ u.2.2.1 ∧ u.2.2.1 ≤ 2 * (n + 1) + 10 ∧ obR (gOB G) u.2.2.2) (fun (u : Int32 × Nat × Nat × (Nat → Option Nat)) => [(al, .inr (4, [.int u.1, .ref u.2.1, .int (nI (n + 1))])), (u.2.1, .inl (gyO G, u.2.2.1, .inr (.inr (.inr (.inr u.2.2.2)))))]) := by
  intro sz
  refine Met.ofW (cc := cJx4a65c_add_9ea2d) (maxL := 2) (ret := (some .boolean)) (by decide) rfl ?_
  intro p e s m args below meth c s₁ B9 hml hv
  obtain ⟨rfl, hsz, hP, hK, hD0, hE⟩ := hv
  have hx := B9.exec
  have hb := B9.bytes
  have hr := B9.returns
  have hts : ∀ w ∈ WW, w.before ([.ref al, .ref v] : List Value).toArray s = true := fun w h => atoms_spec (ws := .code yJx4a65c_add_9ea2d cJx4a65c_add_9ea2d 2 (some .boolean) :: WW) B9.pre w (List.mem_cons_of_mem _ h)
  have hown : s.vm.findClass RJx4a65c = some m.cls := findClass_of_methodNamed B9.named
  subst hsz
  have hD := hD0.self (sz := s.heap.size)
  generalize hAe : va_A [(al, .inr (4, [.int md, .ref ed, .int (nI n)])), (ed, .inl (gyO G, cap, .inr (.inr (.inr (.inr f)))))] s.heap.size = A at hD hE ⊢
  have hA : ∀ q : Nat, s.heap.size ≤ q → A q := fun q h => by rw [← hAe]; exact Or.inr h
  have hl := lv_entry ([.ref al, .ref v]) (n := 2) (Nat.le_of_ble_eq_true rfl)
  rw [lg_entry_eq]
  generalize (lg_sl ([.ref al, .ref v]) ++ List.replicate (2 - (lg_sl ([.ref al, .ref v])).length) Slot.unset).toArray = ls at hl ⊢
  have hl : lv_has ls 2 [(0, .ref al), (1, .ref v)] := hl
  refine qgen (fun Q hQ => ?_)
  refine hgen (fun H locs hP hD hS => ?_) hP hD
  refine lv_aload_n hx hb dJx4a65c_add_9ea2d_0 rfl (lv_at hl 0 rfl) ?_
  refine lv_dup hx hb dJx4a65c_add_9ea2d_1 rfl ?_
  refine va_get (D := gD G) (ci := 4) (v := .int md) (C := RJx4a65c) (T := TJx4a65c) (N := 3) hx hb hts fwJx4a65c hown hK hP 0 rfl rfl 0 (by decide) (hts _ q109) (fun x9 h9 => u_same (hts _ q108) x9 h9) rfl dJx4a65c_add_9ea2d_2 ?_
  refine lv_iconst (v := nI 1) hx hb dJx4a65c_add_9ea2d_5 (by decide) ?_
  refine lv_iadd hx hb dJx4a65c_add_9ea2d_6 ?_
  refine lv_topi (fun w_1 ew_1 => ?_)
  refine va_put (D := gD G) (ci := 4) (v := .int w_1) (ty := .int) (C := RJx4a65c) (T := TJx4a65c) (N := 3) hx hb hts fwJx4a65c tyJx4a65c tyJx4a65c_ok nmJx4a65c hown hK hP hD hS 0 rfl rfl 0 (by decide) (hts _ q109) (fun x9 h9 => u_same (hts _ q108) x9 h9) rfl (by decide +kernel) rfl rfl (Nat.le_of_ble_eq_true rfl) dJx4a65c_add_9ea2d_7 (fun H locs hP hD hS => ?_)
  have hP : va_P (gD G) vwCl [(al, .inr (4, [.int w_1, .ref ed, .int (nI n)])), (ed, .inl (gyO G, cap, .inr (.inr (.inr (.inr f)))))] H := hP
  have hD : va_D A [(al, .inr (4, [.int w_1, .ref ed, .int (nI n)])), (ed, .inl (gyO G, cap, .inr (.inr (.inr (.inr f)))))] := hD
  refine lv_aload_n hx hb dJx4a65c_add_9ea2d_10 rfl (lv_at hl 0 rfl) ?_
  refine lv_aload_n hx hb dJx4a65c_add_9ea2d_11 rfl (lv_at hl 1 rfl) ?_
  refine lv_aload_n hx hb dJx4a65c_add_9ea2d_12 rfl (lv_at hl 0 rfl) ?_
  refine va_get (D := gD G) (ci := 4) (v := .ref ed) (C := RJx4a65c) (T := TJx4a65c) (N := 3) hx hb hts fwJx4a65c hown hK hP 0 rfl rfl 1 (by decide) (hts _ q102) (fun _ h9 => h9) rfl dJx4a65c_add_9ea2d_13 ?_
  refine lv_aload_n hx hb dJx4a65c_add_9ea2d_16 rfl (lv_at hl 0 rfl) ?_
  refine va_get (D := gD G) (ci := 4) (v := .int (nI n)) (C := RJx4a65c) (T := TJx4a65c) (N := 3) hx hb hts fwJx4a65c hown hK hP 0 rfl rfl 2 (by decide) (hts _ q105) (fun _ h9 => h9) rfl dJx4a65c_add_9ea2d_17 ?_
  refine fin_v hP hD hS hA [0, 1] [] (wr := []) rfl rfl (by decide) (by decide) (va_runV (As := [.ref v, .ref ed, .int (nI n)]) (rest := []) ⟨hx, hb, hml, hown, hts⟩ (c_addB3_more l G al w_1 ed n cap f v (by omega) (by omega) (by omega) (by omega) (by omega) (by omega) H.size) (cwV 3 hts (gV q472 q474 q20 q48 q475) rfl rfl rfl (by decide +kernel) ⟨Nat.le_of_ble_eq_true rfl, Nat.le_of_ble_eq_true rfl⟩) (preV (q0 := 0) (ci := 4) hK hE hP hD hS hA [0, 1] rfl (by decide) rfl rfl) rfl rfl hl.1 rfl (lv_room (Nat.le_of_ble_eq_true rfl)) dJx4a65c_add_9ea2d_20 ⟨Nat.le_of_ble_eq_true rfl, Nat.le_of_ble_eq_true rfl⟩) (fun u9 hw_5 H locs hP hD hS => ?_)
  obtain ⟨ed2_2, cap2_3, f2_4⟩ := u9
  obtain ⟨hc1_7, hc2_8, hc3_9, hf2_10⟩ := hw_5
  have hc1_7 : 10 ≤ cap2_3 := hc1_7
  have hc2_8 : n + 1 ≤ cap2_3 := hc2_8
  have hc3_9 : cap2_3 ≤ 2 * (n + 1) + 10 := hc3_9
  have hf2_10 : obR (gOB G) f2_4 := hf2_10
  have hP : va_P (gD G) vwCl [(al, .inr (4, [.int w_1, .ref ed2_2, .int (nI (n + 1))])), (ed2_2, .inl (gyO G, cap2_3, .inr (.inr (.inr (.inr f2_4)))))] H := hP
  have hD : va_D A [(al, .inr (4, [.int w_1, .ref ed2_2, .int (nI (n + 1))])), (ed2_2, .inl (gyO G, cap2_3, .inr (.inr (.inr (.inr f2_4)))))] := hD
  refine lv_iconst (v := nI 1) hx hb dJx4a65c_add_9ea2d_23 (by decide) ?_
  have hP9 := hP.sub (ws' := [(al, .inr (4, [.int w_1, .ref ed2_2, .int (nI (n + 1))])), (ed2_2, .inl (gyO G, cap2_3, .inr (.inr (.inr (.inr f2_4)))))]) [0, 1] rfl
  have hD9 := hD.sub (ws' := [(al, .inr (4, [.int w_1, .ref ed2_2, .int (nI (n + 1))])), (ed2_2, .inl (gyO G, cap2_3, .inr (.inr (.inr (.inr f2_4)))))]) [0, 1] (by decide) rfl
  subst hQ
  exact W.zret (v := nI 1) hx hb hr (by decide) (fun t ht hW => ⟨⟨nI 1, (w_1, ed2_2, cap2_3, f2_4), rfl, ⟨(show 10 ≤ cap2_3 by omega), (show n + 1 ≤ cap2_3 by omega), (show cap2_3 ≤ 2 * (n + 1) + 10 by omega), hf2_10⟩, by rw [ht]; exact hP9, hD9⟩, hS.F ht⟩) hS.2.2 dJx4a65c_add_9ea2d_24
