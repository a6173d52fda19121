theorem nq1076 : (Jvm.Cond.methodLinkNest "PegboardryModel$Way" (55 : Nat) ({ cls := "PegboardryModel", name := "isIn", desc := "(II)Z" } : Jvm.MethodName) "PegboardryModel") ∈ NWs := inN 1076 (by decide +kernel) rfl
theorem q1079 : (Jvm.Cond.methodLink "PegboardryModel$Way" (59 : Nat) ({ cls := "PegboardryModel$Puzzle", name := "isTaken", desc := "(III[I)Z" } : Jvm.MethodName)) ∈ WW := inW 1079 (by decide +kernel) rfl
theorem q1080 : (Jvm.Cond.instanceMethod ({ cls := "PegboardryModel$Puzzle", name := "isTaken", desc := "(III[I)Z" } : Jvm.MethodName)) ∈ WW := inW 1080 (by decide +kernel) rfl
theorem q1081 : (Jvm.Cond.selects "PegboardryModel$Puzzle" ({ cls := "PegboardryModel$Puzzle", name := "isTaken", desc := "(III[I)Z" } : Jvm.MethodName) ({ cls := "PegboardryModel$Puzzle", name := "isTaken", desc := "(III[I)Z" } : Jvm.MethodName)) ∈ WW := inW 1081 (by decide +kernel) rfl
theorem q1082 : (Jvm.Cond.code ({ cls := "PegboardryModel$Puzzle", name := "isTaken", desc := "(III[I)Z" } : Jvm.MethodName) prog_11_method_2_code (5 : Nat) (Option.some Jvm.ClassFile.FieldType.boolean)) ∈ WW := inW 1082 (by decide +kernel) rfl
theorem q1198 : (Jvm.Cond.methodLink "PegboardryModel$Way" (47 : Nat) ({ cls := "java/lang/Integer", name := "bitCount", desc := "(I)I" } : Jvm.MethodName)) ∈ WW := inW 1198 (by decide +kernel) rfl
theorem q1203 : (Jvm.Cond.fieldLink "PegboardryModel$Way" (9 : Nat) "PegboardryModel$Way" "candidates" "[I") ∈ WW := inW 1203 (by decide +kernel) rfl
theorem dX9_next_0 : decode cX9_next 0 = .ok (.iconst 0, 1) := by decide +kernel
theorem dX9_next_1 : decode cX9_next 1 = .ok (.istore_n 3, 1) := by decide +kernel
theorem dX9_next_2 : decode cX9_next 2 = .ok (.iload_n 3, 1) := by decide +kernel
theorem dX9_next_3 : decode cX9_next 3 = .ok (.iload_n 2, 1) := by decide +kernel
theorem dX9_next_4 : decode cX9_next 4 = .ok (.if_icmp .gt 84, 3) := by decide +kernel
theorem dX9_next_7 : decode cX9_next 7 = .ok (.iconst 0, 1) := by decide +kernel
theorem dX9_next_8 : decode cX9_next 8 = .ok (.istore 4, 2) := by decide +kernel
theorem dX9_next_10 : decode cX9_next 10 = .ok (.iload 4, 2) := by decide +kernel
theorem dX9_next_12 : decode cX9_next 12 = .ok (.bipush 16, 2) := by decide +kernel
theorem dX9_next_14 : decode cX9_next 14 = .ok (.if_icmp .ge 68, 3) := by decide +kernel
theorem dX9_next_82 : decode cX9_next 82 = .ok (.iinc 3 1, 3) := by decide +kernel
theorem dX9_next_85 : decode cX9_next 85 = .ok (.goto (-83), 3) := by decide +kernel
theorem dX9_next_17 : decode cX9_next 17 = .ok (.iconst 1, 1) := by decide +kernel
theorem dX9_next_18 : decode cX9_next 18 = .ok (.istore 5, 2) := by decide +kernel
theorem dX9_next_20 : decode cX9_next 20 = .ok (.iload 5, 2) := by decide +kernel
theorem dX9_next_22 : decode cX9_next 22 = .ok (.iconst 4, 1) := by decide +kernel
theorem dX9_next_23 : decode cX9_next 23 = .ok (.if_icmp .gt 53, 3) := by decide +kernel
theorem dX9_next_76 : decode cX9_next 76 = .ok (.iinc 4 1, 3) := by decide +kernel
theorem dX9_next_79 : decode cX9_next 79 = .ok (.goto (-69), 3) := by decide +kernel
theorem dX9_next_26 : decode cX9_next 26 = .ok (.aload_n 0, 1) := by decide +kernel
theorem dX9_next_27 : decode cX9_next 27 = .ok (.getfield 9, 3) := by decide +kernel
theorem dX9_next_30 : decode cX9_next 30 = .ok (.iload 4, 2) := by decide +kernel
theorem dX9_next_32 : decode cX9_next 32 = .ok (.iaload, 1) := by decide +kernel
theorem dX9_next_33 : decode cX9_next 33 = .ok (.iload 5, 2) := by decide +kernel
theorem dX9_next_35 : decode cX9_next 35 = .ok (.invokestatic 55, 3) := by decide +kernel
theorem dX9_next_38 : decode cX9_next 38 = .ok (.ifCond .eq 32, 3) := by decide +kernel
theorem dX9_next_70 : decode cX9_next 70 = .ok (.iinc 5 1, 3) := by decide +kernel
theorem dX9_next_73 : decode cX9_next 73 = .ok (.goto (-53), 3) := by decide +kernel
theorem dX9_next_41 : decode cX9_next 41 = .ok (.aload_n 1, 1) := by decide +kernel
theorem dX9_next_42 : decode cX9_next 42 = .ok (.iload_n 3, 1) := by decide +kernel
theorem dX9_next_43 : decode cX9_next 43 = .ok (.iload 4, 2) := by decide +kernel
theorem dX9_next_45 : decode cX9_next 45 = .ok (.iload 5, 2) := by decide +kernel
theorem dX9_next_47 : decode cX9_next 47 = .ok (.aload_n 0, 1) := by decide +kernel
theorem dX9_next_48 : decode cX9_next 48 = .ok (.getfield 9, 3) := by decide +kernel
theorem dX9_next_51 : decode cX9_next 51 = .ok (.invokevirtual 59, 3) := by decide +kernel
theorem dX9_next_54 : decode cX9_next 54 = .ok (.ifCond .eq 16, 3) := by decide +kernel
theorem dX9_next_57 : decode cX9_next 57 = .ok (.bipush 100, 2) := by decide +kernel
theorem dX9_next_59 : decode cX9_next 59 = .ok (.iload_n 3, 1) := by decide +kernel
theorem dX9_next_60 : decode cX9_next 60 = .ok (.imul, 1) := by decide +kernel
theorem dX9_next_61 : decode cX9_next 61 = .ok (.iconst 5, 1) := by decide +kernel
theorem dX9_next_62 : decode cX9_next 62 = .ok (.iload 4, 2) := by decide +kernel
theorem dX9_next_64 : decode cX9_next 64 = .ok (.imul, 1) := by decide +kernel
theorem dX9_next_65 : decode cX9_next 65 = .ok (.iadd, 1) := by decide +kernel
theorem dX9_next_66 : decode cX9_next 66 = .ok (.iload 5, 2) := by decide +kernel
theorem dX9_next_68 : decode cX9_next 68 = .ok (.iadd, 1) := by decide +kernel
theorem dX9_next_69 : decode cX9_next 69 = .ok (.ireturn, 1) := by decide +kernel
theorem dX9_next_88 : decode cX9_next 88 = .ok (.iconst (-1), 1) := by decide +kernel
theorem dX9_next_89 : decode cX9_next 89 = .ok (.ireturn, 1) := by decide +kernel
theorem dX9_state_0 : decode cX9_state 0 = .ok (.iconst 1, 1) := by decide +kernel
theorem dX9_state_1 : decode cX9_state 1 = .ok (.istore_n 1, 1) := by decide +kernel
theorem dX9_state_2 : decode cX9_state 2 = .ok (.aload_n 0, 1) := by decide +kernel
theorem dX9_state_3 : decode cX9_state 3 = .ok (.getfield 9, 3) := by decide +kernel
theorem dX9_state_6 : decode cX9_state 6 = .ok (.astore_n 2, 1) := by decide +kernel
theorem dX9_state_7 : decode cX9_state 7 = .ok (.aload_n 2, 1) := by decide +kernel
theorem dX9_state_8 : decode cX9_state 8 = .ok (.arraylength, 1) := by decide +kernel
theorem dX9_state_9 : decode cX9_state 9 = .ok (.istore_n 3, 1) := by decide +kernel
theorem dX9_state_10 : decode cX9_state 10 = .ok (.iconst 0, 1) := by decide +kernel
theorem dX9_state_11 : decode cX9_state 11 = .ok (.istore 4, 2) := by decide +kernel
theorem dX9_state_13 : decode cX9_state 13 = .ok (.iload 4, 2) := by decide +kernel
theorem dX9_state_15 : decode cX9_state 15 = .ok (.iload_n 3, 1) := by decide +kernel
theorem dX9_state_16 : decode cX9_state 16 = .ok (.if_icmp .ge 40, 3) := by decide +kernel
theorem dX9_state_56 : decode cX9_state 56 = .ok (.iload_n 1, 1) := by decide +kernel
theorem dX9_state_57 : decode cX9_state 57 = .ok (.ifCond .eq 8, 3) := by decide +kernel
theorem dX9_state_65 : decode cX9_state 65 = .ok (.bipush 110, 2) := by decide +kernel
theorem dX9_state_67 : decode cX9_state 67 = .ok (.ireturn, 1) := by decide +kernel
theorem dX9_state_60 : decode cX9_state 60 = .ok (.bipush 115, 2) := by decide +kernel
theorem dX9_state_62 : decode cX9_state 62 = .ok (.goto 5, 3) := by decide +kernel
theorem dX9_state_19 : decode cX9_state 19 = .ok (.aload_n 2, 1) := by decide +kernel
theorem dX9_state_20 : decode cX9_state 20 = .ok (.iload 4, 2) := by decide +kernel
theorem dX9_state_22 : decode cX9_state 22 = .ok (.iaload, 1) := by decide +kernel
theorem dX9_state_23 : decode cX9_state 23 = .ok (.istore 5, 2) := by decide +kernel
theorem dX9_state_25 : decode cX9_state 25 = .ok (.iload 5, 2) := by decide +kernel
theorem dX9_state_27 : decode cX9_state 27 = .ok (.ifCond .ne 6, 3) := by decide +kernel
theorem dX9_state_33 : decode cX9_state 33 = .ok (.iload_n 1, 1) := by decide +kernel
theorem dX9_state_34 : decode cX9_state 34 = .ok (.iload 5, 2) := by decide +kernel
theorem dX9_state_36 : decode cX9_state 36 = .ok (.invokestatic 47, 3) := by decide +kernel
theorem dX9_state_39 : decode cX9_state 39 = .ok (.iconst 1, 1) := by decide +kernel
theorem dX9_state_40 : decode cX9_state 40 = .ok (.if_icmp .ne 7, 3) := by decide +kernel
theorem dX9_state_47 : decode cX9_state 47 = .ok (.iconst 0, 1) := by decide +kernel
theorem dX9_state_48 : decode cX9_state 48 = .ok (.iand, 1) := by decide +kernel
theorem dX9_state_49 : decode cX9_state 49 = .ok (.istore_n 1, 1) := by decide +kernel
theorem dX9_state_50 : decode cX9_state 50 = .ok (.iinc 4 1, 3) := by decide +kernel
theorem dX9_state_53 : decode cX9_state 53 = .ok (.goto (-40), 3) := by decide +kernel
theorem dX9_state_43 : decode cX9_state 43 = .ok (.iconst 1, 1) := by decide +kernel
theorem dX9_state_44 : decode cX9_state 44 = .ok (.goto 4, 3) := by decide +kernel
theorem dX9_state_30 : decode cX9_state 30 = .ok (.bipush 98, 2) := by decide +kernel
theorem dX9_state_32 : decode cX9_state 32 = .ok (.ireturn, 1) := by decide +kernel
set_option maxHeartbeats 4000000 in
set_option maxRecDepth 100000 in
theorem c_next_X (l : Launch) (G : GG) (wy : Nat) (ca : Nat) (sl : Nat) (gl : Nat) (f : Nat → Int32) (pz : Nat) (gr : Nat) (mr : Nat) (cl : Nat) (gv : Nat → Int32) (mdc : Int32) (edc : Nat) (gd : Nat → Option Nat) (d0 : Nat) (d1 : Nat) (d2 : Nat) (d3 : Nat) (d4 : Nat) (d5 : Nat) (x : Nat) (v0 : Nat) (sn : Nat) (hi : Nat) (hhi : hi = 4) (hX : inX x f) (hgv : inB 16 1 gv) (hd0 : gd 0 = some d0) (hd1 : gd 1 = some d1) (hd2 : gd 2 = some d2) (hd3 : gd 3 = some d3) (hd4 : gd 4 = some d4) (hd5 : gd 5 = some d5) (hv01 : 1 ≤ v0) (hv03 : v0 ≤ 3) (hxv : x = xv v0) (hsn : sn = 470 + v0) : Mi l G yX9_next cX9_next 6 (some .int) ({ frames := 19, cells := 2807, slots := 40100, locals := 509 } : Room) [.ref wy, .ref pz, .int (nI hi)] [(wy, .inr (14, [.ref ca, .ref sl, .ref gl])), (ca, .inl (gyI G, 16, .inl f)), (pz, .inr (13, [.ref gr, .ref mr, .ref cl])), (gr, .inl (gyI G, 16, .inl gv)), (cl, .inr (4, [.int mdc, .ref edc, .int (nI 6)])), (edc, .inl (gyO G, 10, .inr (.inr (.inr (.inr gd))))), (d0, .inr (12, [.int (nI 49152), .int (nI 16)])), (d1, .inr (12, [.int (nI 49152), .int (nI 16)])), (d2, .inr (12, [.int (nI 49152), .int (nI 16)])), (d3, .inr (12, [.int (nI 49152), .int (nI 16)])), (d4, .inr (12, [.int (nI 49152), .int (nI 16)])), (d5, .inr (12, [.int (nI 49152), .int (nI 16)]))] (fun (r : Int32) (u : va_W) => r = nI sn ∧ 5376 ≤ wt u) (fun (u : va_W) => [(wy, .inr (14, [.ref ca, .ref sl, .ref gl])), (ca, .inl (gyI G, 16, .inl f)), (pz, .inr (13, [.ref gr, .ref mr, .ref cl])), (gr, .inl (gyI G, 16, .inl gv)), (cl, .inr (4, [.int mdc, .ref edc, .int (nI 6)])), (edc, .inl (gyO G, 10, .inr (.inr (.inr (.inr gd))))), (d0, .inr (12, [.int (nI 49152), .int (nI 16)])), (d1, .inr (12, [.int (nI 49152), .int (nI 16)])), (d2, .inr (12, [.int (nI 49152), .int (nI 16)])), (d3, .inr (12, [.int (nI 49152), .int (nI 16)])), (d4, .inr (12, [.int (nI 49152), .int (nI 16)])), (d5, .inr (12, [.int (nI 49152), .int (nI 16)]))] ++ u) := by
  intro sz
  refine Met.ofW (cc := cX9_next) (maxL := 6) (ret := (some .int)) (by decide) rfl ?_
  intro p e s m args below meth c s₁ B9 hml hv
  obtain ⟨rfl, hsz, hP, hK, hD0, hE⟩ := hv
  have hx := B9.exec
  have hb := B9.bytes
  have hr := B9.returns
  have hts : ∀ w ∈ WW, w.before ([.ref wy, .ref pz, .int (nI hi)] : List Value).toArray s = true := fun w h => atoms_spec (ws := .code yX9_next cX9_next 6 (some .int) :: WW) B9.pre w (List.mem_cons_of_mem _ h)
  have hown : s.vm.findClass RX9 = some m.cls := findClass_of_methodNamed B9.named
  subst hsz
  have hD := hD0.self (sz := s.heap.size)
  generalize hAe : va_A [(wy, .inr (14, [.ref ca, .ref sl, .ref gl])), (ca, .inl (gyI G, 16, .inl f)), (pz, .inr (13, [.ref gr, .ref mr, .ref cl])), (gr, .inl (gyI G, 16, .inl gv)), (cl, .inr (4, [.int mdc, .ref edc, .int (nI 6)])), (edc, .inl (gyO G, 10, .inr (.inr (.inr (.inr gd))))), (d0, .inr (12, [.int (nI 49152), .int (nI 16)])), (d1, .inr (12, [.int (nI 49152), .int (nI 16)])), (d2, .inr (12, [.int (nI 49152), .int (nI 16)])), (d3, .inr (12, [.int (nI 49152), .int (nI 16)])), (d4, .inr (12, [.int (nI 49152), .int (nI 16)])), (d5, .inr (12, [.int (nI 49152), .int (nI 16)]))] s.heap.size = A at hD hE ⊢
  have hA : ∀ q : Nat, s.heap.size ≤ q → A q := fun q h => by rw [← hAe]; exact Or.inr h
  have hl := lv_entry ([.ref wy, .ref pz, .int (nI hi)]) (n := 6) (Nat.le_of_ble_eq_true rfl)
  rw [lg_entry_eq]
  generalize (lg_sl ([.ref wy, .ref pz, .int (nI hi)]) ++ List.replicate (6 - (lg_sl ([.ref wy, .ref pz, .int (nI hi)])).length) Slot.unset).toArray = ls at hl ⊢
  have hl : lv_has ls 6 [(0, .ref wy), (1, .ref pz), (2, .int (nI hi))] := hl
  refine qgen (fun Q hQ => ?_)
  refine hgen (fun H locs hP hD hS => ?_) hP hD
  have hx3 := xv_or v0 (by omega) hv01
  rw [← hxv] at hx3
  obtain ⟨T0, hT0⟩ : ∃ z : va_W, z = [] := ⟨_, rfl⟩
  have hP : va_P (gD G) vwCl ([(wy, .inr (14, [.ref ca, .ref sl, .ref gl])), (ca, .inl (gyI G, 16, .inl f)), (pz, .inr (13, [.ref gr, .ref mr, .ref cl])), (gr, .inl (gyI G, 16, .inl gv)), (cl, .inr (4, [.int mdc, .ref edc, .int (nI 6)])), (edc, .inl (gyO G, 10, .inr (.inr (.inr (.inr gd))))), (d0, .inr (12, [.int (nI 49152), .int (nI 16)])), (d1, .inr (12, [.int (nI 49152), .int (nI 16)])), (d2, .inr (12, [.int (nI 49152), .int (nI 16)])), (d3, .inr (12, [.int (nI 49152), .int (nI 16)])), (d4, .inr (12, [.int (nI 49152), .int (nI 16)])), (d5, .inr (12, [.int (nI 49152), .int (nI 16)]))] ++ T0) H := by rw [hT0, List.append_nil]; exact hP
  have hD : va_D A ([(wy, .inr (14, [.ref ca, .ref sl, .ref gl])), (ca, .inl (gyI G, 16, .inl f)), (pz, .inr (13, [.ref gr, .ref mr, .ref cl])), (gr, .inl (gyI G, 16, .inl gv)), (cl, .inr (4, [.int mdc, .ref edc, .int (nI 6)])), (edc, .inl (gyO G, 10, .inr (.inr (.inr (.inr gd))))), (d0, .inr (12, [.int (nI 49152), .int (nI 16)])), (d1, .inr (12, [.int (nI 49152), .int (nI 16)])), (d2, .inr (12, [.int (nI 49152), .int (nI 16)])), (d3, .inr (12, [.int (nI 49152), .int (nI 16)])), (d4, .inr (12, [.int (nI 49152), .int (nI 16)])), (d5, .inr (12, [.int (nI 49152), .int (nI 16)]))] ++ T0) := by rw [hT0, List.append_nil]; exact hD
  refine lv_iconst (v := nI 0) hx hb dX9_next_0 (by decide) ?_
  refine lv_istore_n (lv' := [(3, .int (nI 0)), (0, .ref wy), (1, .ref pz), (2, .int (nI hi))]) hx hb dX9_next_1 rfl hl (by decide) rfl (fun ls hl => ?_)
  have cut_2_1 : ∀ (n9 : Nat) (rl : Nat) (T : va_W) (hrl : rl ≤ 4) (hm9 : 5 - rl < n9) (H : Heap) (locs : List Loc), va_P (gD G) vwCl ([(wy, .inr (14, [.ref ca, .ref sl, .ref gl])), (ca, .inl (gyI G, 16, .inl f)), (pz, .inr (13, [.ref gr, .ref mr, .ref cl])), (gr, .inl (gyI G, 16, .inl gv)), (cl, .inr (4, [.int mdc, .ref edc, .int (nI 6)])), (edc, .inl (gyO G, 10, .inr (.inr (.inr (.inr gd))))), (d0, .inr (12, [.int (nI 49152), .int (nI 16)])), (d1, .inr (12, [.int (nI 49152), .int (nI 16)])), (d2, .inr (12, [.int (nI 49152), .int (nI 16)])), (d3, .inr (12, [.int (nI 49152), .int (nI 16)])), (d4, .inr (12, [.int (nI 49152), .int (nI 16)])), (d5, .inr (12, [.int (nI 49152), .int (nI 16)]))] ++ T) H → va_D A ([(wy, .inr (14, [.ref ca, .ref sl, .ref gl])), (ca, .inl (gyI G, 16, .inl f)), (pz, .inr (13, [.ref gr, .ref mr, .ref cl])), (gr, .inl (gyI G, 16, .inl gv)), (cl, .inr (4, [.int mdc, .ref edc, .int (nI 6)])), (edc, .inl (gyO G, 10, .inr (.inr (.inr (.inr gd))))), (d0, .inr (12, [.int (nI 49152), .int (nI 16)])), (d1, .inr (12, [.int (nI 49152), .int (nI 16)])), (d2, .inr (12, [.int (nI 49152), .int (nI 16)])), (d3, .inr (12, [.int (nI 49152), .int (nI 16)])), (d4, .inr (12, [.int (nI 49152), .int (nI 16)])), (d5, .inr (12, [.int (nI 49152), .int (nI 16)]))] ++ T) → va_S A s.heap H locs → ∀ (ls : Array Slot), lv_has ls 6 [(0, .ref wy), (1, .ref pz), (2, .int (nI hi)), (3, .int (nI rl))] → W p l e ({ frames := 19, cells := 2807, slots := 40100, locals := 509 } : Room) s m ([.ref wy, .ref pz, .int (nI hi)] : List Value).toArray below meth c H locs (560 * rl) (8000 * rl) Q (F0 m 2 ls []) := by
    intro n9
    induction n9 with
    | zero =>
      intro rl T hrl hm9
      exact absurd hm9 (Nat.not_lt_zero _)
    | succ n9 ih_2_1 =>
      intro rl T hrl hm9 H locs hP hD hS ls hl
      refine lv_iload_n hx hb dX9_next_2 rfl (lv_at hl 3 rfl) ?_
      refine lv_iload_n hx hb dX9_next_3 rfl (lv_at hl 2 rfl) ?_
      refine lv_icmp_gt (tgt := 88) hx hb dX9_next_4 (by decide) (fun c_1 => ?_) (fun c_1 => ?_)
      · skip
        have c_1 : hi < rl := (nI_ltI (a := hi) (b := rl) (by omega) (by omega)).mp c_1
        exfalso; omega
      · skip
        have c_1 : ¬ hi < rl := fun z => c_1 ((nI_ltI (a := hi) (b := rl) (by omega) (by omega)).mpr z)
        refine lv_iconst (v := nI 0) hx hb dX9_next_7 (by decide) ?_
        refine lv_istore (lv' := [(4, .int (nI 0)), (0, .ref wy), (1, .ref pz), (2, .int (nI hi)), (3, .int (nI rl))]) hx hb dX9_next_8 hl (by decide) rfl (fun ls hl => ?_)
        have cut_10_2 : ∀ (n9 : Nat) (k : Nat) (T : va_W) (hk : k ≤ 16) (hk4 : rl = 4 → k ≤ 14) (hw : rl = 4 → 384 * k ≤ wt T) (hm9 : 16 - k < n9) (H : Heap) (locs : List Loc), va_P (gD G) vwCl ([(wy, .inr (14, [.ref ca, .ref sl, .ref gl])), (ca, .inl (gyI G, 16, .inl f)), (pz, .inr (13, [.ref gr, .ref mr, .ref cl])), (gr, .inl (gyI G, 16, .inl gv)), (cl, .inr (4, [.int mdc, .ref edc, .int (nI 6)])), (edc, .inl (gyO G, 10, .inr (.inr (.inr (.inr gd))))), (d0, .inr (12, [.int (nI 49152), .int (nI 16)])), (d1, .inr (12, [.int (nI 49152), .int (nI 16)])), (d2, .inr (12, [.int (nI 49152), .int (nI 16)])), (d3, .inr (12, [.int (nI 49152), .int (nI 16)])), (d4, .inr (12, [.int (nI 49152), .int (nI 16)])), (d5, .inr (12, [.int (nI 49152), .int (nI 16)]))] ++ T) H → va_D A ([(wy, .inr (14, [.ref ca, .ref sl, .ref gl])), (ca, .inl (gyI G, 16, .inl f)), (pz, .inr (13, [.ref gr, .ref mr, .ref cl])), (gr, .inl (gyI G, 16, .inl gv)), (cl, .inr (4, [.int mdc, .ref edc, .int (nI 6)])), (edc, .inl (gyO G, 10, .inr (.inr (.inr (.inr gd))))), (d0, .inr (12, [.int (nI 49152), .int (nI 16)])), (d1, .inr (12, [.int (nI 49152), .int (nI 16)])), (d2, .inr (12, [.int (nI 49152), .int (nI 16)])), (d3, .inr (12, [.int (nI 49152), .int (nI 16)])), (d4, .inr (12, [.int (nI 49152), .int (nI 16)])), (d5, .inr (12, [.int (nI 49152), .int (nI 16)]))] ++ T) → va_S A s.heap H locs → ∀ (ls : Array Slot), lv_has ls 6 [(0, .ref wy), (1, .ref pz), (2, .int (nI hi)), (3, .int (nI rl)), (4, .int (nI k))] → W p l e ({ frames := 19, cells := 2807, slots := 40100, locals := 509 } : Room) s m ([.ref wy, .ref pz, .int (nI hi)] : List Value).toArray below meth c H locs (560 * rl + 35 * k) (8000 * rl + 500 * k) Q (F0 m 10 ls []) := by
          intro n9
          induction n9 with
          | zero =>
            intro k T hk hk4 hw hm9
            exact absurd hm9 (Nat.not_lt_zero _)
          | succ n9 ih_10_2 =>
            intro k T hk hk4 hw hm9 H locs hP hD hS ls hl
            refine lv_iload hx hb dX9_next_10 (lv_at hl 4 rfl) ?_
            refine lv_bipush (v := nI 16) hx hb dX9_next_12 (by decide) ?_
            refine lv_icmp_ge (tgt := 82) hx hb dX9_next_14 (by decide) (fun c_2 => ?_) (fun c_2 => ?_)
            · skip
              have c_2 : 16 ≤ k := (nI_leI (a := 16) (b := k) (by omega) (by omega)).mp c_2
              refine lv_iinc (v := nI (rl + 1)) (lv' := [(3, .int (nI (rl + 1))), (0, .ref wy), (1, .ref pz), (2, .int (nI hi)), (4, .int (nI k))]) hx hb dX9_next_82 hl (k := 3) rfl (nI_add rl 1) (by decide) rfl (fun ls hl => ?_)
              refine lv_goto (tgt := 2) hx hb dX9_next_85 (by decide) ?_
              refine W.widen (k := 560 * (rl + 1)) (n := 8000 * (rl + 1)) (by show 560 * rl + 35 * k ≤ 560 * (rl + 1); omega) (by show 8000 * rl + 500 * k ≤ 8000 * (rl + 1); omega) ?_
              exact ih_2_1 (rl + 1) T (by omega) (by omega) _ _ (subPT hP [0, 1, 2, 3, 4, 5, 6, 7, 8, 9, 10, 11] rfl) (subDT hD [0, 1, 2, 3, 4, 5, 6, 7, 8, 9, 10, 11] (by decide) rfl) hS ls (lv_sub hl [1, 2, 3, 0] rfl)
            · skip
              have c_2 : ¬ 16 ≤ k := fun z => c_2 ((nI_leI (a := 16) (b := k) (by omega) (by omega)).mpr z)
              refine lv_iconst (v := nI 1) hx hb dX9_next_17 (by decide) ?_
              refine lv_istore (lv' := [(5, .int (nI 1)), (0, .ref wy), (1, .ref pz), (2, .int (nI hi)), (3, .int (nI rl)), (4, .int (nI k))]) hx hb dX9_next_18 hl (by decide) rfl (fun ls hl => ?_)
              have cut_20_3 : ∀ (n9 : Nat) (v : Nat) (T : va_W) (hv1 : 1 ≤ v) (hv5 : v ≤ 5) (hv4 : rl = 4 → k = 14 → v ≤ v0) (hw : rl = 4 → k < 14 → 384 * k + 96 * (v - 1) ≤ wt T) (hw14 : rl = 4 → k = 14 → 5376 ≤ wt T) (hm9 : 5 - v < n9) (H : Heap) (locs : List Loc), va_P (gD G) vwCl ([(wy, .inr (14, [.ref ca, .ref sl, .ref gl])), (ca, .inl (gyI G, 16, .inl f)), (pz, .inr (13, [.ref gr, .ref mr, .ref cl])), (gr, .inl (gyI G, 16, .inl gv)), (cl, .inr (4, [.int mdc, .ref edc, .int (nI 6)])), (edc, .inl (gyO G, 10, .inr (.inr (.inr (.inr gd))))), (d0, .inr (12, [.int (nI 49152), .int (nI 16)])), (d1, .inr (12, [.int (nI 49152), .int (nI 16)])), (d2, .inr (12, [.int (nI 49152), .int (nI 16)])), (d3, .inr (12, [.int (nI 49152), .int (nI 16)])), (d4, .inr (12, [.int (nI 49152), .int (nI 16)])), (d5, .inr (12, [.int (nI 49152), .int (nI 16)]))] ++ T) H → va_D A ([(wy, .inr (14, [.ref ca, .ref sl, .ref gl])), (ca, .inl (gyI G, 16, .inl f)), (pz, .inr (13, [.ref gr, .ref mr, .ref cl])), (gr, .inl (gyI G, 16, .inl gv)), (cl, .inr (4, [.int mdc, .ref edc, .int (nI 6)])), (edc, .inl (gyO G, 10, .inr (.inr (.inr (.inr gd))))), (d0, .inr (12, [.int (nI 49152), .int (nI 16)])), (d1, .inr (12, [.int (nI 49152), .int (nI 16)])), (d2, .inr (12, [.int (nI 49152), .int (nI 16)])), (d3, .inr (12, [.int (nI 49152), .int (nI 16)])), (d4, .inr (12, [.int (nI 49152), .int (nI 16)])), (d5, .inr (12, [.int (nI 49152), .int (nI 16)]))] ++ T) → va_S A s.heap H locs → ∀ (ls : Array Slot), lv_has ls 6 [(0, .ref wy), (1, .ref pz), (2, .int (nI hi)), (3, .int (nI rl)), (4, .int (nI k)), (5, .int (nI v))] → W p l e ({ frames := 19, cells := 2807, slots := 40100, locals := 509 } : Room) s m ([.ref wy, .ref pz, .int (nI hi)] : List Value).toArray below meth c H locs (560 * rl + 35 * k + 7 * v) (8000 * rl + 500 * k + 100 * v) Q (F0 m 20 ls []) := by
                intro n9
                induction n9 with
                | zero =>
                  intro v T hv1 hv5 hv4 hw hw14 hm9
                  exact absurd hm9 (Nat.not_lt_zero _)
                | succ n9 ih_20_3 =>
                  intro v T hv1 hv5 hv4 hw hw14 hm9 H locs hP hD hS ls hl
                  refine lv_iload hx hb dX9_next_20 (lv_at hl 5 rfl) ?_
                  refine lv_iconst (v := nI 4) hx hb dX9_next_22 (by decide) ?_
                  refine lv_icmp_gt (tgt := 76) hx hb dX9_next_23 (by decide) (fun c_3 => ?_) (fun c_3 => ?_)
                  · skip
                    have c_3 : 4 < v := (nI_ltI (a := 4) (b := v) (by omega) (by omega)).mp c_3
                    refine lv_iinc (v := nI (k + 1)) (lv' := [(4, .int (nI (k + 1))), (0, .ref wy), (1, .ref pz), (2, .int (nI hi)), (3, .int (nI rl)), (5, .int (nI v))]) hx hb dX9_next_76 hl (k := 4) rfl (nI_add k 1) (by decide) rfl (fun ls hl => ?_)
                    refine lv_goto (tgt := 10) hx hb dX9_next_79 (by decide) ?_
                    refine W.widen (k := 560 * rl + 35 * (k + 1)) (n := 8000 * rl + 500 * (k + 1)) (by show 560 * rl + 35 * k + 7 * v ≤ 560 * rl + 35 * (k + 1); omega) (by show 8000 * rl + 500 * k + 100 * v ≤ 8000 * rl + 500 * (k + 1); omega) ?_
                    exact ih_10_2 (k + 1) T (by omega) (by omega) (by omega) (by omega) _ _ (subPT hP [0, 1, 2, 3, 4, 5, 6, 7, 8, 9, 10, 11] rfl) (subDT hD [0, 1, 2, 3, 4, 5, 6, 7, 8, 9, 10, 11] (by decide) rfl) hS ls (lv_sub hl [1, 2, 3, 4, 0] rfl)
                  · skip
                    have c_3 : ¬ 4 < v := fun z => c_3 ((nI_ltI (a := 4) (b := v) (by omega) (by omega)).mpr z)
                    refine lv_aload_n hx hb dX9_next_26 rfl (lv_at hl 0 rfl) ?_
                    refine va_get (D := gD G) (ci := 14) (v := .ref ca) (C := RX9) (T := TX9) (N := 3) hx hb hts fwX9 hown hK hP 0 rfl rfl 0 (by decide) (hts _ q1203) (fun _ h9 => h9) rfl dX9_next_27 ?_
                    refine lv_iload hx hb dX9_next_30 (lv_at hl 4 rfl) ?_
                    refine va_iald (D := gD G) (cA := gyI G) (n := 16) (f := f) hx hb hK hP 1 0 rfl rfl (vp_in_nI (n := k) (N := 16) (by omega) (by omega)) dX9_next_32 ?_
                    refine lv_toe (show f (nI k).toNatClampNeg = nI (Fx x k) by rw [nI_clamp (by omega)]; exact hX k (by omega)) ?_
                    have hfx_4 := fx_or x k
                    refine lv_iload hx hb dX9_next_33 (lv_at hl 5 rfl) ?_
                    refine fin_iT hP hD hS hA [] [0, 1, 2, 3, 4, 5, 6, 7, 8, 9, 10, 11] (wr := [(wy, .inr (14, [.ref ca, .ref sl, .ref gl])), (ca, .inl (gyI G, 16, .inl f)), (pz, .inr (13, [.ref gr, .ref mr, .ref cl])), (gr, .inl (gyI G, 16, .inl gv)), (cl, .inr (4, [.int mdc, .ref edc, .int (nI 6)])), (edc, .inl (gyO G, 10, .inr (.inr (.inr (.inr gd))))), (d0, .inr (12, [.int (nI 49152), .int (nI 16)])), (d1, .inr (12, [.int (nI 49152), .int (nI 16)])), (d2, .inr (12, [.int (nI 49152), .int (nI 16)])), (d3, .inr (12, [.int (nI 49152), .int (nI 16)])), (d4, .inr (12, [.int (nI 49152), .int (nI 16)])), (d5, .inr (12, [.int (nI 49152), .int (nI 16)]))]) rfl rfl (by decide) (allLt rfl) (allLt rfl) (by decide) (va_runSN (As := [.int (nI (Fx x k)), .int (nI v)]) (rest := []) ⟨hx, hb, hml, hown, hts⟩ (c_isIn l G (Fx x k) v (by omega) (by omega) (by omega) H.size) ⟨(va_cnB 2 hts (gI q1078) rfl rfl rfl (hE.1.1 _ nq1076) (hts _ q52) (by decide +kernel) ⟨Nat.le_of_ble_eq_true rfl, Nat.le_of_ble_eq_true rfl⟩), hts _ q1077, trivial⟩ (preS hK hE hP hD hS hA [] rfl (by decide)) rfl rfl hl.1 rfl (lv_room (Nat.le_of_ble_eq_true rfl)) dX9_next_35 ⟨(by show 560 * rl + 35 * k + 7 * v + 0 ≤ (2807 : Nat); omega), (by show 8000 * rl + 500 * k + 100 * v + 0 ≤ (40100 : Nat); omega)⟩) (fun r_7 u9 hw_6 H locs hP hD hS => ?_)
                    obtain ⟨bn_5, rfl⟩ : ∃ z, z = u9 := ⟨_, rfl⟩
                    obtain ⟨rfl, hbn_8, hbt_9⟩ := hw_6
                    have hbn_8 : bn_5 ≤ 1 := hbn_8
                    have hbt_9 : (Fx x k) / pw v % 2 = bn_5 := hbt_9
                    have hP : va_P (gD G) vwCl ([(wy, .inr (14, [.ref ca, .ref sl, .ref gl])), (ca, .inl (gyI G, 16, .inl f)), (pz, .inr (13, [.ref gr, .ref mr, .ref cl])), (gr, .inl (gyI G, 16, .inl gv)), (cl, .inr (4, [.int mdc, .ref edc, .int (nI 6)])), (edc, .inl (gyO G, 10, .inr (.inr (.inr (.inr gd))))), (d0, .inr (12, [.int (nI 49152), .int (nI 16)])), (d1, .inr (12, [.int (nI 49152), .int (nI 16)])), (d2, .inr (12, [.int (nI 49152), .int (nI 16)])), (d3, .inr (12, [.int (nI 49152), .int (nI 16)])), (d4, .inr (12, [.int (nI 49152), .int (nI 16)])), (d5, .inr (12, [.int (nI 49152), .int (nI 16)]))] ++ T) H := hP
                    have hD : va_D A ([(wy, .inr (14, [.ref ca, .ref sl, .ref gl])), (ca, .inl (gyI G, 16, .inl f)), (pz, .inr (13, [.ref gr, .ref mr, .ref cl])), (gr, .inl (gyI G, 16, .inl gv)), (cl, .inr (4, [.int mdc, .ref edc, .int (nI 6)])), (edc, .inl (gyO G, 10, .inr (.inr (.inr (.inr gd))))), (d0, .inr (12, [.int (nI 49152), .int (nI 16)])), (d1, .inr (12, [.int (nI 49152), .int (nI 16)])), (d2, .inr (12, [.int (nI 49152), .int (nI 16)])), (d3, .inr (12, [.int (nI 49152), .int (nI 16)])), (d4, .inr (12, [.int (nI 49152), .int (nI 16)])), (d5, .inr (12, [.int (nI 49152), .int (nI 16)]))] ++ T) := hD
                    have hb14_10 : rl = 4 → k = 14 → (bn_5 = 1 ∧ v = v0) ∨ (bn_5 = 0 ∧ v ≠ v0) := fun z1 z2 => by
                      have hv9 := hv4 z1 z2
                      have e9 : Fx x (k) = xv v0 := by have := fx_or x (k); omega
                      rcases xv_bit v0 (by omega) (by omega) (v) (by omega) (by omega) (by omega) with ⟨h, h2⟩ | ⟨h, h2⟩
                      · rw [← e9, hbt_9] at h; exact Or.inl ⟨h, h2⟩
                      · rw [← e9, hbt_9] at h; exact Or.inr ⟨h, h2⟩
                    have hb15_11 : k ≠ 14 → bn_5 = 1 := fun z2 => by
                      have e9 : Fx x (k) = 15 := by have := fx_or x (k); omega
                      have h := f_bit (v) (by omega) (by omega)
                      rw [← e9, hbt_9] at h; exact h
                    refine lv_if_eq (tgt := 70) hx hb dX9_next_38 (by decide) (fun c_12 => ?_) (fun c_12 => ?_)
                    · skip
                      have c_12 : bn_5 = 0 := (nI_eq (a := bn_5) (b := 0) (by omega) (by omega)).mp c_12
                      refine lv_iinc (v := nI (v + 1)) (lv' := [(5, .int (nI (v + 1))), (0, .ref wy), (1, .ref pz), (2, .int (nI hi)), (3, .int (nI rl)), (4, .int (nI k))]) hx hb dX9_next_70 hl (k := 5) rfl (nI_add v 1) (by decide) rfl (fun ls hl => ?_)
                      refine lv_goto (tgt := 20) hx hb dX9_next_73 (by decide) ?_
                      refine W.widen (k := 560 * rl + 35 * k + 7 * (v + 1)) (n := 8000 * rl + 500 * k + 100 * (v + 1)) (by show 560 * rl + 35 * k + 7 * v ≤ 560 * rl + 35 * k + 7 * (v + 1); omega) (by show 8000 * rl + 500 * k + 100 * v ≤ 8000 * rl + 500 * k + 100 * (v + 1); omega) ?_
                      exact ih_20_3 (v + 1) T (by omega) (by omega) (by omega) (by omega) (by omega) (by omega) _ _ (subPT hP [0, 1, 2, 3, 4, 5, 6, 7, 8, 9, 10, 11] rfl) (subDT hD [0, 1, 2, 3, 4, 5, 6, 7, 8, 9, 10, 11] (by decide) rfl) hS ls (lv_sub hl [1, 2, 3, 4, 5, 0] rfl)
                    · skip
                      have c_12 : ¬ bn_5 = 0 := fun z => c_12 ((nI_eq (a := bn_5) (b := 0) (by omega) (by omega)).mpr z)
                      refine lv_aload_n hx hb dX9_next_41 rfl (lv_at hl 1 rfl) ?_
                      refine lv_iload_n hx hb dX9_next_42 rfl (lv_at hl 3 rfl) ?_
                      refine lv_iload hx hb dX9_next_43 (lv_at hl 4 rfl) ?_
                      refine lv_iload hx hb dX9_next_45 (lv_at hl 5 rfl) ?_
                      refine lv_aload_n hx hb dX9_next_47 rfl (lv_at hl 0 rfl) ?_
                      refine va_get (D := gD G) (ci := 14) (v := .ref ca) (C := RX9) (T := TX9) (N := 3) hx hb hts fwX9 hown hK hP 0 rfl rfl 0 (by decide) (hts _ q1203) (fun _ h9 => h9) rfl dX9_next_48 ?_
                      rcases (show rl < 4 ∨ (rl = 4 ∧ k < 14) ∨ (rl = 4 ∧ 14 ≤ k) by omega) with z9 | ⟨z9, z8⟩ | ⟨z9, z8⟩
                      · skip
                        refine fin_iT hP hD hS hA [2, 3, 1] [0, 4, 5, 6, 7, 8, 9, 10, 11] (wr := [(wy, .inr (14, [.ref ca, .ref sl, .ref gl])), (cl, .inr (4, [.int mdc, .ref edc, .int (nI 6)])), (edc, .inl (gyO G, 10, .inr (.inr (.inr (.inr gd))))), (d0, .inr (12, [.int (nI 49152), .int (nI 16)])), (d1, .inr (12, [.int (nI 49152), .int (nI 16)])), (d2, .inr (12, [.int (nI 49152), .int (nI 16)])), (d3, .inr (12, [.int (nI 49152), .int (nI 16)])), (d4, .inr (12, [.int (nI 49152), .int (nI 16)])), (d5, .inr (12, [.int (nI 49152), .int (nI 16)]))]) rfl rfl (by decide) (allLt rfl) (allLt rfl) (by decide) (va_runV (As := [.int (nI rl), .int (nI k), .int (nI v), .ref ca]) (rest := []) ⟨hx, hb, hml, hown, hts⟩ (c_taken_X l G pz gr mr cl gv k ca f x rl v (by omega) (by omega) (by omega) (by omega) (by omega) (by omega) (by omega) H.size) (cwV 4 hts (gV q1079 q1080 q1081 q62 q1082) rfl rfl rfl (by decide +kernel) ⟨Nat.le_of_ble_eq_true rfl, Nat.le_of_ble_eq_true rfl⟩) (preV (q0 := 2) (ci := 13) hK hE hP hD hS hA [2, 3, 1] rfl (by decide) rfl rfl) rfl rfl hl.1 rfl (lv_room (Nat.le_of_ble_eq_true rfl)) dX9_next_51 ⟨(by show 560 * rl + 35 * k + 7 * v + 0 ≤ (2807 : Nat); omega), (by show 8000 * rl + 500 * k + 100 * v + 0 ≤ (40100 : Nat); omega)⟩) (fun r_14 u9 hw_13 H locs hP hD hS => ?_)
                        subst hw_13
                        have hP : va_P (gD G) vwCl ([(wy, .inr (14, [.ref ca, .ref sl, .ref gl])), (cl, .inr (4, [.int mdc, .ref edc, .int (nI 6)])), (edc, .inl (gyO G, 10, .inr (.inr (.inr (.inr gd))))), (d0, .inr (12, [.int (nI 49152), .int (nI 16)])), (d1, .inr (12, [.int (nI 49152), .int (nI 16)])), (d2, .inr (12, [.int (nI 49152), .int (nI 16)])), (d3, .inr (12, [.int (nI 49152), .int (nI 16)])), (d4, .inr (12, [.int (nI 49152), .int (nI 16)])), (d5, .inr (12, [.int (nI 49152), .int (nI 16)])), (pz, .inr (13, [.ref gr, .ref mr, .ref cl])), (gr, .inl (gyI G, 16, .inl gv)), (ca, .inl (gyI G, 16, .inl f))] ++ T) H := hP
                        have hD : va_D A ([(wy, .inr (14, [.ref ca, .ref sl, .ref gl])), (cl, .inr (4, [.int mdc, .ref edc, .int (nI 6)])), (edc, .inl (gyO G, 10, .inr (.inr (.inr (.inr gd))))), (d0, .inr (12, [.int (nI 49152), .int (nI 16)])), (d1, .inr (12, [.int (nI 49152), .int (nI 16)])), (d2, .inr (12, [.int (nI 49152), .int (nI 16)])), (d3, .inr (12, [.int (nI 49152), .int (nI 16)])), (d4, .inr (12, [.int (nI 49152), .int (nI 16)])), (d5, .inr (12, [.int (nI 49152), .int (nI 16)])), (pz, .inr (13, [.ref gr, .ref mr, .ref cl])), (gr, .inl (gyI G, 16, .inl gv)), (ca, .inl (gyI G, 16, .inl f))] ++ T) := hD
                        refine lv_if_eq (tgt := 70) hx hb dX9_next_54 (by decide) (fun c_15 => ?_) (fun c_15 => ?_)
                        · skip
                          have c_15 : 0 = 0 := (nI_eq (a := 0) (b := 0) (by omega) (by omega)).mp c_15
                          refine lv_iinc (v := nI (v + 1)) (lv' := [(5, .int (nI (v + 1))), (0, .ref wy), (1, .ref pz), (2, .int (nI hi)), (3, .int (nI rl)), (4, .int (nI k))]) hx hb dX9_next_70 hl (k := 5) rfl (nI_add v 1) (by decide) rfl (fun ls hl => ?_)
                          refine lv_goto (tgt := 20) hx hb dX9_next_73 (by decide) ?_
                          refine W.widen (k := 560 * rl + 35 * k + 7 * (v + 1)) (n := 8000 * rl + 500 * k + 100 * (v + 1)) (by show 560 * rl + 35 * k + 7 * v ≤ 560 * rl + 35 * k + 7 * (v + 1); omega) (by show 8000 * rl + 500 * k + 100 * v ≤ 8000 * rl + 500 * k + 100 * (v + 1); omega) ?_
                          exact ih_20_3 (v + 1) T (by omega) (by omega) (by omega) (by omega) (by omega) (by omega) _ _ (subPT hP [0, 11, 9, 10, 1, 2, 3, 4, 5, 6, 7, 8] rfl) (subDT hD [0, 11, 9, 10, 1, 2, 3, 4, 5, 6, 7, 8] (by decide) rfl) hS ls (lv_sub hl [1, 2, 3, 4, 5, 0] rfl)
                        · skip
                          have c_15 : ¬ 0 = 0 := fun z => c_15 ((nI_eq (a := 0) (b := 0) (by omega) (by omega)).mpr z)
                          exact absurd c_15 (by decide)
                      · skip
                        refine fin_iT hP hD hS hA [2, 4, 5, 6, 7, 8, 9, 10, 11, 1] [0, 3] (wr := [(wy, .inr (14, [.ref ca, .ref sl, .ref gl])), (gr, .inl (gyI G, 16, .inl gv))]) rfl rfl (by decide) (allLt rfl) (allLt rfl) (by decide) (va_runV (As := [.int (nI rl), .int (nI k), .int (nI v), .ref ca]) (rest := []) ⟨hx, hb, hml, hown, hts⟩ (c_taken_lo l G pz gr mr cl mdc edc gd d0 d1 d2 d3 d4 d5 k ca f rl v hd0 hd1 hd2 hd3 hd4 hd5 (by omega) (by omega) H.size) (cwV 4 hts (gV q1079 q1080 q1081 q62 q1082) rfl rfl rfl (by decide +kernel) ⟨Nat.le_of_ble_eq_true rfl, Nat.le_of_ble_eq_true rfl⟩) (preV (q0 := 2) (ci := 13) hK hE hP hD hS hA [2, 4, 5, 6, 7, 8, 9, 10, 11, 1] rfl (by decide) rfl rfl) rfl rfl hl.1 rfl (lv_room (Nat.le_of_ble_eq_true rfl)) dX9_next_51 ⟨(by show 560 * rl + 35 * k + 7 * v + 7 ≤ (2807 : Nat); omega), (by show 8000 * rl + 500 * k + 100 * v + 100 ≤ (40100 : Nat); omega)⟩) (fun r_18 u9 hw_17 H locs hP hD hS => ?_)
                        obtain ⟨T2_16, rfl⟩ : ∃ z, z = u9 := ⟨_, rfl⟩
                        obtain ⟨rfl, hw2_19⟩ := hw_17
                        have hw2_19 : 96 ≤ wt T2_16 := hw2_19
                        obtain ⟨T_20, eT_21⟩ : ∃ z : va_W, z = T2_16 ++ T := ⟨_, rfl⟩
                        have hP : va_P (gD G) vwCl ([(wy, .inr (14, [.ref ca, .ref sl, .ref gl])), (gr, .inl (gyI G, 16, .inl gv)), (pz, .inr (13, [.ref gr, .ref mr, .ref cl])), (cl, .inr (4, [.int mdc, .ref edc, .int (nI 6)])), (edc, .inl (gyO G, 10, .inr (.inr (.inr (.inr gd))))), (d0, .inr (12, [.int (nI 49152), .int (nI 16)])), (d1, .inr (12, [.int (nI 49152), .int (nI 16)])), (d2, .inr (12, [.int (nI 49152), .int (nI 16)])), (d3, .inr (12, [.int (nI 49152), .int (nI 16)])), (d4, .inr (12, [.int (nI 49152), .int (nI 16)])), (d5, .inr (12, [.int (nI 49152), .int (nI 16)])), (ca, .inl (gyI G, 16, .inl f))] ++ T_20) H := by rw [eT_21, ← List.append_assoc]; exact hP
                        have hD : va_D A ([(wy, .inr (14, [.ref ca, .ref sl, .ref gl])), (gr, .inl (gyI G, 16, .inl gv)), (pz, .inr (13, [.ref gr, .ref mr, .ref cl])), (cl, .inr (4, [.int mdc, .ref edc, .int (nI 6)])), (edc, .inl (gyO G, 10, .inr (.inr (.inr (.inr gd))))), (d0, .inr (12, [.int (nI 49152), .int (nI 16)])), (d1, .inr (12, [.int (nI 49152), .int (nI 16)])), (d2, .inr (12, [.int (nI 49152), .int (nI 16)])), (d3, .inr (12, [.int (nI 49152), .int (nI 16)])), (d4, .inr (12, [.int (nI 49152), .int (nI 16)])), (d5, .inr (12, [.int (nI 49152), .int (nI 16)])), (ca, .inl (gyI G, 16, .inl f))] ++ T_20) := by rw [eT_21, ← List.append_assoc]; exact hD
                        have hwt_22 : wt T_20 = wt T2_16 + wt T := by rw [eT_21]; exact wt_app _ _
                        refine lv_if_eq (tgt := 70) hx hb dX9_next_54 (by decide) (fun c_23 => ?_) (fun c_23 => ?_)
                        · skip
                          have c_23 : 0 = 0 := (nI_eq (a := 0) (b := 0) (by omega) (by omega)).mp c_23
                          refine lv_iinc (v := nI (v + 1)) (lv' := [(5, .int (nI (v + 1))), (0, .ref wy), (1, .ref pz), (2, .int (nI hi)), (3, .int (nI rl)), (4, .int (nI k))]) hx hb dX9_next_70 hl (k := 5) rfl (nI_add v 1) (by decide) rfl (fun ls hl => ?_)
                          refine lv_goto (tgt := 20) hx hb dX9_next_73 (by decide) ?_
                          refine W.widen (k := 560 * rl + 35 * k + 7 * (v + 1)) (n := 8000 * rl + 500 * k + 100 * (v + 1)) (by show 560 * rl + 35 * k + 7 * v + 7 ≤ 560 * rl + 35 * k + 7 * (v + 1); omega) (by show 8000 * rl + 500 * k + 100 * v + 100 ≤ 8000 * rl + 500 * k + 100 * (v + 1); omega) ?_
                          exact ih_20_3 (v + 1) T_20 (by omega) (by omega) (by omega) (by omega) (by omega) (by omega) _ _ (subPT hP [0, 11, 2, 1, 3, 4, 5, 6, 7, 8, 9, 10] rfl) (subDT hD [0, 11, 2, 1, 3, 4, 5, 6, 7, 8, 9, 10] (by decide) rfl) hS ls (lv_sub hl [1, 2, 3, 4, 5, 0] rfl)
                        · skip
                          have c_23 : ¬ 0 = 0 := fun z => c_23 ((nI_eq (a := 0) (b := 0) (by omega) (by omega)).mpr z)
                          exact absurd c_23 (by decide)
                      · skip
                        refine fin_iT hP hD hS hA [2, 4, 5, 6, 7, 8, 9, 10, 11, 1] [0, 3] (wr := [(wy, .inr (14, [.ref ca, .ref sl, .ref gl])), (gr, .inl (gyI G, 16, .inl gv))]) rfl rfl (by decide) (allLt rfl) (allLt rfl) (by decide) (va_runV (As := [.int (nI rl), .int (nI k), .int (nI v), .ref ca]) (rest := []) ⟨hx, hb, hml, hown, hts⟩ (c_taken_hi l G pz gr mr cl mdc edc gd d0 d1 d2 d3 d4 d5 k ca f rl v hd0 hd1 hd2 hd3 hd4 hd5 (by omega) (by omega) (by omega) (by omega) (by omega) H.size) (cwV 4 hts (gV q1079 q1080 q1081 q62 q1082) rfl rfl rfl (by decide +kernel) ⟨Nat.le_of_ble_eq_true rfl, Nat.le_of_ble_eq_true rfl⟩) (preV (q0 := 2) (ci := 13) hK hE hP hD hS hA [2, 4, 5, 6, 7, 8, 9, 10, 11, 1] rfl (by decide) rfl rfl) rfl rfl hl.1 rfl (lv_room (Nat.le_of_ble_eq_true rfl)) dX9_next_51 ⟨(by show 560 * rl + 35 * k + 7 * v + 2 ≤ (2807 : Nat); omega), (by show 8000 * rl + 500 * k + 100 * v + 20 ≤ (40100 : Nat); omega)⟩) (fun r_25 u9 hw_24 H locs hP hD hS => ?_)
                        subst hw_24
                        have hP : va_P (gD G) vwCl ([(wy, .inr (14, [.ref ca, .ref sl, .ref gl])), (gr, .inl (gyI G, 16, .inl gv)), (pz, .inr (13, [.ref gr, .ref mr, .ref cl])), (cl, .inr (4, [.int mdc, .ref edc, .int (nI 6)])), (edc, .inl (gyO G, 10, .inr (.inr (.inr (.inr gd))))), (d0, .inr (12, [.int (nI 49152), .int (nI 16)])), (d1, .inr (12, [.int (nI 49152), .int (nI 16)])), (d2, .inr (12, [.int (nI 49152), .int (nI 16)])), (d3, .inr (12, [.int (nI 49152), .int (nI 16)])), (d4, .inr (12, [.int (nI 49152), .int (nI 16)])), (d5, .inr (12, [.int (nI 49152), .int (nI 16)])), (ca, .inl (gyI G, 16, .inl f))] ++ T) H := hP
                        have hD : va_D A ([(wy, .inr (14, [.ref ca, .ref sl, .ref gl])), (gr, .inl (gyI G, 16, .inl gv)), (pz, .inr (13, [.ref gr, .ref mr, .ref cl])), (cl, .inr (4, [.int mdc, .ref edc, .int (nI 6)])), (edc, .inl (gyO G, 10, .inr (.inr (.inr (.inr gd))))), (d0, .inr (12, [.int (nI 49152), .int (nI 16)])), (d1, .inr (12, [.int (nI 49152), .int (nI 16)])), (d2, .inr (12, [.int (nI 49152), .int (nI 16)])), (d3, .inr (12, [.int (nI 49152), .int (nI 16)])), (d4, .inr (12, [.int (nI 49152), .int (nI 16)])), (d5, .inr (12, [.int (nI 49152), .int (nI 16)])), (ca, .inl (gyI G, 16, .inl f))] ++ T) := hD
                        refine lv_if_eq (tgt := 70) hx hb dX9_next_54 (by decide) (fun c_26 => ?_) (fun c_26 => ?_)
                        · skip
                          have c_26 : 1 = 0 := (nI_eq (a := 1) (b := 0) (by omega) (by omega)).mp c_26
                          exact absurd c_26 (by decide)
                        · skip
                          have c_26 : ¬ 1 = 0 := fun z => c_26 ((nI_eq (a := 1) (b := 0) (by omega) (by omega)).mpr z)
                          refine lv_bipush (v := nI 100) hx hb dX9_next_57 (by decide) ?_
                          refine lv_iload_n hx hb dX9_next_59 rfl (lv_at hl 3 rfl) ?_
                          refine lv_imul hx hb dX9_next_60 ?_
                          refine lv_toe (pk_mul 100 rl) ?_
                          refine lv_iconst (v := nI 5) hx hb dX9_next_61 (by decide) ?_
                          refine lv_iload hx hb dX9_next_62 (lv_at hl 4 rfl) ?_
                          refine lv_imul hx hb dX9_next_64 ?_
                          refine lv_toe (pk_mul 5 k) ?_
                          refine lv_iadd hx hb dX9_next_65 ?_
                          refine lv_toe (nI_add (100 * rl) (5 * k)) ?_
                          refine lv_iload hx hb dX9_next_66 (lv_at hl 5 rfl) ?_
                          refine lv_iadd hx hb dX9_next_68 ?_
                          refine lv_toe (nI_add (100 * rl + (5 * k)) v) ?_
                          refine lv_toe (show nI (100 * rl + (5 * k) + v) = nI (sn) from congrArg nI (by omega)) ?_
                          have hP9 : va_P (gD G) vwCl ([(wy, .inr (14, [.ref ca, .ref sl, .ref gl])), (ca, .inl (gyI G, 16, .inl f)), (pz, .inr (13, [.ref gr, .ref mr, .ref cl])), (gr, .inl (gyI G, 16, .inl gv)), (cl, .inr (4, [.int mdc, .ref edc, .int (nI 6)])), (edc, .inl (gyO G, 10, .inr (.inr (.inr (.inr gd))))), (d0, .inr (12, [.int (nI 49152), .int (nI 16)])), (d1, .inr (12, [.int (nI 49152), .int (nI 16)])), (d2, .inr (12, [.int (nI 49152), .int (nI 16)])), (d3, .inr (12, [.int (nI 49152), .int (nI 16)])), (d4, .inr (12, [.int (nI 49152), .int (nI 16)])), (d5, .inr (12, [.int (nI 49152), .int (nI 16)]))] ++ T) H := subPT hP [0, 11, 2, 1, 3, 4, 5, 6, 7, 8, 9, 10] rfl
                          have hD9 : va_D A ([(wy, .inr (14, [.ref ca, .ref sl, .ref gl])), (ca, .inl (gyI G, 16, .inl f)), (pz, .inr (13, [.ref gr, .ref mr, .ref cl])), (gr, .inl (gyI G, 16, .inl gv)), (cl, .inr (4, [.int mdc, .ref edc, .int (nI 6)])), (edc, .inl (gyO G, 10, .inr (.inr (.inr (.inr gd))))), (d0, .inr (12, [.int (nI 49152), .int (nI 16)])), (d1, .inr (12, [.int (nI 49152), .int (nI 16)])), (d2, .inr (12, [.int (nI 49152), .int (nI 16)])), (d3, .inr (12, [.int (nI 49152), .int (nI 16)])), (d4, .inr (12, [.int (nI 49152), .int (nI 16)])), (d5, .inr (12, [.int (nI 49152), .int (nI 16)]))] ++ T) := subDT hD [0, 11, 2, 1, 3, 4, 5, 6, 7, 8, 9, 10] (by decide) rfl
                          refine W.widen (k := 2807) (n := 40100) (by show 560 * rl + 35 * k + 7 * v + 2 ≤ 2807; omega) (by show 8000 * rl + 500 * k + 100 * v + 20 ≤ 40100; omega) ?_
                          subst hQ
                          exact W.iret (v := nI sn) hx hb hr (fun t ht hW => ⟨⟨nI sn, T, rfl, ⟨rfl, (show 5376 ≤ wt T by omega)⟩, by rw [ht]; exact hP9, hD9⟩, hS.F ht⟩) hS.2.2 dX9_next_69
              refine W.widen (k := 560 * rl + 35 * k + 7 * 1) (n := 8000 * rl + 500 * k + 100 * 1) (by show 560 * rl + 35 * k ≤ 560 * rl + 35 * k + 7 * 1; omega) (by show 8000 * rl + 500 * k ≤ 8000 * rl + 500 * k + 100 * 1; omega) ?_
              exact cut_20_3 (5 - 1 + 1) 1 T (by omega) (by omega) (by omega) (by omega) (by omega) (Nat.lt_succ_self _) _ _ (subPT hP [0, 1, 2, 3, 4, 5, 6, 7, 8, 9, 10, 11] rfl) (subDT hD [0, 1, 2, 3, 4, 5, 6, 7, 8, 9, 10, 11] (by decide) rfl) hS ls (lv_sub hl [1, 2, 3, 4, 5, 0] rfl)
        refine W.widen (k := 560 * rl + 35 * 0) (n := 8000 * rl + 500 * 0) (by omega) (by omega) ?_
        exact cut_10_2 (16 - 0 + 1) 0 T (by omega) (by omega) (by omega) (Nat.lt_succ_self _) _ _ (subPT hP [0, 1, 2, 3, 4, 5, 6, 7, 8, 9, 10, 11] rfl) (subDT hD [0, 1, 2, 3, 4, 5, 6, 7, 8, 9, 10, 11] (by decide) rfl) hS ls (lv_sub hl [1, 2, 3, 4, 0] rfl)
  refine W.widen (k := 560 * 0) (n := 8000 * 0) (Nat.le_of_ble_eq_true rfl) (Nat.le_of_ble_eq_true rfl) ?_
  exact cut_2_1 (5 - 0 + 1) 0 T0 (by omega) (Nat.lt_succ_self _) _ _ (subPT hP [0, 1, 2, 3, 4, 5, 6, 7, 8, 9, 10, 11] rfl) (subDT hD [0, 1, 2, 3, 4, 5, 6, 7, 8, 9, 10, 11] (by decide) rfl) hS ls (lv_sub hl [1, 2, 3, 0] rfl)
set_option maxHeartbeats 4000000 in
set_option maxRecDepth 100000 in
theorem c_next_any (l : Launch) (G : GG) (wy : Nat) (ca : Nat) (sl : Nat) (gl : Nat) (f : Nat → Int32) (pz : Nat) (gr : Nat) (mr : Nat) (cl : Nat) (gv : Nat → Int32) (mdc : Int32) (edc : Nat) (gd : Nat → Option Nat) (d0 : Nat) (d1 : Nat) (d2 : Nat) (d3 : Nat) (d4 : Nat) (d5 : Nat) (hi : Nat) (hhi : hi = 4) (hf : inB 16 16 f) (hgv : inB 16 1 gv) (hd0 : gd 0 = some d0) (hd1 : gd 1 = some d1) (hd2 : gd 2 = some d2) (hd3 : gd 3 = some d3) (hd4 : gd 4 = some d4) (hd5 : gd 5 = some d5) : Mi l G yX9_next cX9_next 6 (some .int) ({ frames := 19, cells := 2807, slots := 40100, locals := 509 } : Room) [.ref wy, .ref pz, .int (nI hi)] [(wy, .inr (14, [.ref ca, .ref sl, .ref gl])), (ca, .inl (gyI G, 16, .inl f)), (pz, .inr (13, [.ref gr, .ref mr, .ref cl])), (gr, .inl (gyI G, 16, .inl gv)), (cl, .inr (4, [.int mdc, .ref edc, .int (nI 6)])), (edc, .inl (gyO G, 10, .inr (.inr (.inr (.inr gd))))), (d0, .inr (12, [.int (nI 49152), .int (nI 16)])), (d1, .inr (12, [.int (nI 49152), .int (nI 16)])), (d2, .inr (12, [.int (nI 49152), .int (nI 16)])), (d3, .inr (12, [.int (nI 49152), .int (nI 16)])), (d4, .inr (12, [.int (nI 49152), .int (nI 16)])), (d5, .inr (12, [.int (nI 49152), .int (nI 16)]))] (fun (r : Int32) (u : Nat × Nat × Nat × Nat) => (r = -1 ∨ (r = nI (100 * u.1 + 5 * u.2.1 + u.2.2.1) ∧ u.1 < 5 ∧ u.2.1 < 16 ∧ 1 ≤ u.2.2.1 ∧ u.2.2.1 ≤ 4 ∧ u.2.2.2 < 16 ∧ f u.2.1 = nI u.2.2.2 ∧ u.2.2.2 / pw u.2.2.1 % 2 = 1))) (fun (u : Nat × Nat × Nat × Nat) => [(wy, .inr (14, [.ref ca, .ref sl, .ref gl])), (ca, .inl (gyI G, 16, .inl f)), (pz, .inr (13, [.ref gr, .ref mr, .ref cl])), (gr, .inl (gyI G, 16, .inl gv)), (cl, .inr (4, [.int mdc, .ref edc, .int (nI 6)])), (edc, .inl (gyO G, 10, .inr (.inr (.inr (.inr gd))))), (d0, .inr (12, [.int (nI 49152), .int (nI 16)])), (d1, .inr (12, [.int (nI 49152), .int (nI 16)])), (d2, .inr (12, [.int (nI 49152), .int (nI 16)])), (d3, .inr (12, [.int (nI 49152), .int (nI 16)])), (d4, .inr (12, [.int (nI 49152), .int (nI 16)])), (d5, .inr (12, [.int (nI 49152), .int (nI 16)]))]) := by
  intro sz
  refine Met.ofW (cc := cX9_next) (maxL := 6) (ret := (some .int)) (by decide) rfl ?_
  intro p e s m args below meth c s₁ B9 hml hv
  obtain ⟨rfl, hsz, hP, hK, hD0, hE⟩ := hv
  have hx := B9.exec
  have hb := B9.bytes
  have hr := B9.returns
  have hts : ∀ w ∈ WW, w.before ([.ref wy, .ref pz, .int (nI hi)] : List Value).toArray s = true := fun w h => atoms_spec (ws := .code yX9_next cX9_next 6 (some .int) :: WW) B9.pre w (List.mem_cons_of_mem _ h)
  have hown : s.vm.findClass RX9 = some m.cls := findClass_of_methodNamed B9.named
  subst hsz
  have hD := hD0.self (sz := s.heap.size)
  generalize hAe : va_A [(wy, .inr (14, [.ref ca, .ref sl, .ref gl])), (ca, .inl (gyI G, 16, .inl f)), (pz, .inr (13, [.ref gr, .ref mr, .ref cl])), (gr, .inl (gyI G, 16, .inl gv)), (cl, .inr (4, [.int mdc, .ref edc, .int (nI 6)])), (edc, .inl (gyO G, 10, .inr (.inr (.inr (.inr gd))))), (d0, .inr (12, [.int (nI 49152), .int (nI 16)])), (d1, .inr (12, [.int (nI 49152), .int (nI 16)])), (d2, .inr (12, [.int (nI 49152), .int (nI 16)])), (d3, .inr (12, [.int (nI 49152), .int (nI 16)])), (d4, .inr (12, [.int (nI 49152), .int (nI 16)])), (d5, .inr (12, [.int (nI 49152), .int (nI 16)]))] s.heap.size = A at hD hE ⊢
  have hA : ∀ q : Nat, s.heap.size ≤ q → A q := fun q h => by rw [← hAe]; exact Or.inr h
  have hl := lv_entry ([.ref wy, .ref pz, .int (nI hi)]) (n := 6) (Nat.le_of_ble_eq_true rfl)
  rw [lg_entry_eq]
  generalize (lg_sl ([.ref wy, .ref pz, .int (nI hi)]) ++ List.replicate (6 - (lg_sl ([.ref wy, .ref pz, .int (nI hi)])).length) Slot.unset).toArray = ls at hl ⊢
  have hl : lv_has ls 6 [(0, .ref wy), (1, .ref pz), (2, .int (nI hi))] := hl
  refine qgen (fun Q hQ => ?_)
  refine hgen (fun H locs hP hD hS => ?_) hP hD
  refine lv_iconst (v := nI 0) hx hb dX9_next_0 (by decide) ?_
  refine lv_istore_n (lv' := [(3, .int (nI 0)), (0, .ref wy), (1, .ref pz), (2, .int (nI hi))]) hx hb dX9_next_1 rfl hl (by decide) rfl (fun ls hl => ?_)
  have cut_2_1 : ∀ (n9 : Nat) (rl : Nat) (hrl : rl ≤ 5) (hm9 : 5 - rl < n9) (H : Heap) (locs : List Loc), va_P (gD G) vwCl [(wy, .inr (14, [.ref ca, .ref sl, .ref gl])), (ca, .inl (gyI G, 16, .inl f)), (pz, .inr (13, [.ref gr, .ref mr, .ref cl])), (gr, .inl (gyI G, 16, .inl gv)), (cl, .inr (4, [.int mdc, .ref edc, .int (nI 6)])), (edc, .inl (gyO G, 10, .inr (.inr (.inr (.inr gd))))), (d0, .inr (12, [.int (nI 49152), .int (nI 16)])), (d1, .inr (12, [.int (nI 49152), .int (nI 16)])), (d2, .inr (12, [.int (nI 49152), .int (nI 16)])), (d3, .inr (12, [.int (nI 49152), .int (nI 16)])), (d4, .inr (12, [.int (nI 49152), .int (nI 16)])), (d5, .inr (12, [.int (nI 49152), .int (nI 16)]))] H → va_D A [(wy, .inr (14, [.ref ca, .ref sl, .ref gl])), (ca, .inl (gyI G, 16, .inl f)), (pz, .inr (13, [.ref gr, .ref mr, .ref cl])), (gr, .inl (gyI G, 16, .inl gv)), (cl, .inr (4, [.int mdc, .ref edc, .int (nI 6)])), (edc, .inl (gyO G, 10, .inr (.inr (.inr (.inr gd))))), (d0, .inr (12, [.int (nI 49152), .int (nI 16)])), (d1, .inr (12, [.int (nI 49152), .int (nI 16)])), (d2, .inr (12, [.int (nI 49152), .int (nI 16)])), (d3, .inr (12, [.int (nI 49152), .int (nI 16)])), (d4, .inr (12, [.int (nI 49152), .int (nI 16)])), (d5, .inr (12, [.int (nI 49152), .int (nI 16)]))] → va_S A s.heap H locs → ∀ (ls : Array Slot), lv_has ls 6 [(0, .ref wy), (1, .ref pz), (2, .int (nI hi)), (3, .int (nI rl))] → W p l e ({ frames := 19, cells := 2807, slots := 40100, locals := 509 } : Room) s m ([.ref wy, .ref pz, .int (nI hi)] : List Value).toArray below meth c H locs (560 * rl) (8000 * rl) Q (F0 m 2 ls []) := by
    intro n9
    induction n9 with
    | zero =>
      intro rl hrl hm9
      exact absurd hm9 (Nat.not_lt_zero _)
    | succ n9 ih_2_1 =>
      intro rl hrl hm9 H locs hP hD hS ls hl
      refine lv_iload_n hx hb dX9_next_2 rfl (lv_at hl 3 rfl) ?_
      refine lv_iload_n hx hb dX9_next_3 rfl (lv_at hl 2 rfl) ?_
      refine lv_icmp_gt (tgt := 88) hx hb dX9_next_4 (by decide) (fun c_1 => ?_) (fun c_1 => ?_)
      · skip
        have c_1 : hi < rl := (nI_ltI (a := hi) (b := rl) (by omega) (by omega)).mp c_1
        refine lv_iconst (v := -1) hx hb dX9_next_88 (by decide) ?_
        have hP9 := hP.sub (ws' := [(wy, .inr (14, [.ref ca, .ref sl, .ref gl])), (ca, .inl (gyI G, 16, .inl f)), (pz, .inr (13, [.ref gr, .ref mr, .ref cl])), (gr, .inl (gyI G, 16, .inl gv)), (cl, .inr (4, [.int mdc, .ref edc, .int (nI 6)])), (edc, .inl (gyO G, 10, .inr (.inr (.inr (.inr gd))))), (d0, .inr (12, [.int (nI 49152), .int (nI 16)])), (d1, .inr (12, [.int (nI 49152), .int (nI 16)])), (d2, .inr (12, [.int (nI 49152), .int (nI 16)])), (d3, .inr (12, [.int (nI 49152), .int (nI 16)])), (d4, .inr (12, [.int (nI 49152), .int (nI 16)])), (d5, .inr (12, [.int (nI 49152), .int (nI 16)]))]) [0, 1, 2, 3, 4, 5, 6, 7, 8, 9, 10, 11] rfl
        have hD9 := hD.sub (ws' := [(wy, .inr (14, [.ref ca, .ref sl, .ref gl])), (ca, .inl (gyI G, 16, .inl f)), (pz, .inr (13, [.ref gr, .ref mr, .ref cl])), (gr, .inl (gyI G, 16, .inl gv)), (cl, .inr (4, [.int mdc, .ref edc, .int (nI 6)])), (edc, .inl (gyO G, 10, .inr (.inr (.inr (.inr gd))))), (d0, .inr (12, [.int (nI 49152), .int (nI 16)])), (d1, .inr (12, [.int (nI 49152), .int (nI 16)])), (d2, .inr (12, [.int (nI 49152), .int (nI 16)])), (d3, .inr (12, [.int (nI 49152), .int (nI 16)])), (d4, .inr (12, [.int (nI 49152), .int (nI 16)])), (d5, .inr (12, [.int (nI 49152), .int (nI 16)]))]) [0, 1, 2, 3, 4, 5, 6, 7, 8, 9, 10, 11] (by decide) rfl
        refine W.widen (k := 2807) (n := 40100) (by omega) (by omega) ?_
        subst hQ
        exact W.iret (v := -1) hx hb hr (fun t ht hW => ⟨⟨-1, (0, 0, 0, 0), rfl, Or.inl rfl, by rw [ht]; exact hP9, hD9⟩, hS.F ht⟩) hS.2.2 dX9_next_89
      · skip
        have c_1 : ¬ hi < rl := fun z => c_1 ((nI_ltI (a := hi) (b := rl) (by omega) (by omega)).mpr z)
        refine lv_iconst (v := nI 0) hx hb dX9_next_7 (by decide) ?_
        refine lv_istore (lv' := [(4, .int (nI 0)), (0, .ref wy), (1, .ref pz), (2, .int (nI hi)), (3, .int (nI rl))]) hx hb dX9_next_8 hl (by decide) rfl (fun ls hl => ?_)
        have cut_10_2 : ∀ (n9 : Nat) (k : Nat) (hk : k ≤ 16) (hm9 : 16 - k < n9) (H : Heap) (locs : List Loc), va_P (gD G) vwCl [(wy, .inr (14, [.ref ca, .ref sl, .ref gl])), (ca, .inl (gyI G, 16, .inl f)), (pz, .inr (13, [.ref gr, .ref mr, .ref cl])), (gr, .inl (gyI G, 16, .inl gv)), (cl, .inr (4, [.int mdc, .ref edc, .int (nI 6)])), (edc, .inl (gyO G, 10, .inr (.inr (.inr (.inr gd))))), (d0, .inr (12, [.int (nI 49152), .int (nI 16)])), (d1, .inr (12, [.int (nI 49152), .int (nI 16)])), (d2, .inr (12, [.int (nI 49152), .int (nI 16)])), (d3, .inr (12, [.int (nI 49152), .int (nI 16)])), (d4, .inr (12, [.int (nI 49152), .int (nI 16)])), (d5, .inr (12, [.int (nI 49152), .int (nI 16)]))] H → va_D A [(wy, .inr (14, [.ref ca, .ref sl, .ref gl])), (ca, .inl (gyI G, 16, .inl f)), (pz, .inr (13, [.ref gr, .ref mr, .ref cl])), (gr, .inl (gyI G, 16, .inl gv)), (cl, .inr (4, [.int mdc, .ref edc, .int (nI 6)])), (edc, .inl (gyO G, 10, .inr (.inr (.inr (.inr gd))))), (d0, .inr (12, [.int (nI 49152), .int (nI 16)])), (d1, .inr (12, [.int (nI 49152), .int (nI 16)])), (d2, .inr (12, [.int (nI 49152), .int (nI 16)])), (d3, .inr (12, [.int (nI 49152), .int (nI 16)])), (d4, .inr (12, [.int (nI 49152), .int (nI 16)])), (d5, .inr (12, [.int (nI 49152), .int (nI 16)]))] → va_S A s.heap H locs → ∀ (ls : Array Slot), lv_has ls 6 [(0, .ref wy), (1, .ref pz), (2, .int (nI hi)), (3, .int (nI rl)), (4, .int (nI k))] → W p l e ({ frames := 19, cells := 2807, slots := 40100, locals := 509 } : Room) s m ([.ref wy, .ref pz, .int (nI hi)] : List Value).toArray below meth c H locs (560 * rl + 35 * k) (8000 * rl + 500 * k) Q (F0 m 10 ls []) := by
          intro n9
          induction n9 with
          | zero =>
            intro k hk hm9
            exact absurd hm9 (Nat.not_lt_zero _)
          | succ n9 ih_10_2 =>
            intro k hk hm9 H locs hP hD hS ls hl
            refine lv_iload hx hb dX9_next_10 (lv_at hl 4 rfl) ?_
            refine lv_bipush (v := nI 16) hx hb dX9_next_12 (by decide) ?_
            refine lv_icmp_ge (tgt := 82) hx hb dX9_next_14 (by decide) (fun c_2 => ?_) (fun c_2 => ?_)
            · skip
              have c_2 : 16 ≤ k := (nI_leI (a := 16) (b := k) (by omega) (by omega)).mp c_2
              refine lv_iinc (v := nI (rl + 1)) (lv' := [(3, .int (nI (rl + 1))), (0, .ref wy), (1, .ref pz), (2, .int (nI hi)), (4, .int (nI k))]) hx hb dX9_next_82 hl (k := 3) rfl (nI_add rl 1) (by decide) rfl (fun ls hl => ?_)
              refine lv_goto (tgt := 2) hx hb dX9_next_85 (by decide) ?_
              refine W.widen (k := 560 * (rl + 1)) (n := 8000 * (rl + 1)) (by show 560 * rl + 35 * k ≤ 560 * (rl + 1); omega) (by show 8000 * rl + 500 * k ≤ 8000 * (rl + 1); omega) ?_
              exact ih_2_1 (rl + 1) (by omega) (by omega) _ _ (hP.sub [0, 1, 2, 3, 4, 5, 6, 7, 8, 9, 10, 11] rfl) (hD.sub [0, 1, 2, 3, 4, 5, 6, 7, 8, 9, 10, 11] (by decide) rfl) hS ls (lv_sub hl [1, 2, 3, 0] rfl)
            · skip
              have c_2 : ¬ 16 ≤ k := fun z => c_2 ((nI_leI (a := 16) (b := k) (by omega) (by omega)).mpr z)
              refine lv_iconst (v := nI 1) hx hb dX9_next_17 (by decide) ?_
              refine lv_istore (lv' := [(5, .int (nI 1)), (0, .ref wy), (1, .ref pz), (2, .int (nI hi)), (3, .int (nI rl)), (4, .int (nI k))]) hx hb dX9_next_18 hl (by decide) rfl (fun ls hl => ?_)
              have cut_20_3 : ∀ (n9 : Nat) (v : Nat) (hv1 : 1 ≤ v) (hv : v ≤ 5) (hm9 : 5 - v < n9) (H : Heap) (locs : List Loc), va_P (gD G) vwCl [(wy, .inr (14, [.ref ca, .ref sl, .ref gl])), (ca, .inl (gyI G, 16, .inl f)), (pz, .inr (13, [.ref gr, .ref mr, .ref cl])), (gr, .inl (gyI G, 16, .inl gv)), (cl, .inr (4, [.int mdc, .ref edc, .int (nI 6)])), (edc, .inl (gyO G, 10, .inr (.inr (.inr (.inr gd))))), (d0, .inr (12, [.int (nI 49152), .int (nI 16)])), (d1, .inr (12, [.int (nI 49152), .int (nI 16)])), (d2, .inr (12, [.int (nI 49152), .int (nI 16)])), (d3, .inr (12, [.int (nI 49152), .int (nI 16)])), (d4, .inr (12, [.int (nI 49152), .int (nI 16)])), (d5, .inr (12, [.int (nI 49152), .int (nI 16)]))] H → va_D A [(wy, .inr (14, [.ref ca, .ref sl, .ref gl])), (ca, .inl (gyI G, 16, .inl f)), (pz, .inr (13, [.ref gr, .ref mr, .ref cl])), (gr, .inl (gyI G, 16, .inl gv)), (cl, .inr (4, [.int mdc, .ref edc, .int (nI 6)])), (edc, .inl (gyO G, 10, .inr (.inr (.inr (.inr gd))))), (d0, .inr (12, [.int (nI 49152), .int (nI 16)])), (d1, .inr (12, [.int (nI 49152), .int (nI 16)])), (d2, .inr (12, [.int (nI 49152), .int (nI 16)])), (d3, .inr (12, [.int (nI 49152), .int (nI 16)])), (d4, .inr (12, [.int (nI 49152), .int (nI 16)])), (d5, .inr (12, [.int (nI 49152), .int (nI 16)]))] → va_S A s.heap H locs → ∀ (ls : Array Slot), lv_has ls 6 [(0, .ref wy), (1, .ref pz), (2, .int (nI hi)), (3, .int (nI rl)), (4, .int (nI k)), (5, .int (nI v))] → W p l e ({ frames := 19, cells := 2807, slots := 40100, locals := 509 } : Room) s m ([.ref wy, .ref pz, .int (nI hi)] : List Value).toArray below meth c H locs (560 * rl + 35 * k + 7 * v) (8000 * rl + 500 * k + 100 * v) Q (F0 m 20 ls []) := by
                intro n9
                induction n9 with
                | zero =>
                  intro v hv1 hv hm9
                  exact absurd hm9 (Nat.not_lt_zero _)
                | succ n9 ih_20_3 =>
                  intro v hv1 hv hm9 H locs hP hD hS ls hl
                  refine lv_iload hx hb dX9_next_20 (lv_at hl 5 rfl) ?_
                  refine lv_iconst (v := nI 4) hx hb dX9_next_22 (by decide) ?_
                  refine lv_icmp_gt (tgt := 76) hx hb dX9_next_23 (by decide) (fun c_3 => ?_) (fun c_3 => ?_)
                  · skip
                    have c_3 : 4 < v := (nI_ltI (a := 4) (b := v) (by omega) (by omega)).mp c_3
                    refine lv_iinc (v := nI (k + 1)) (lv' := [(4, .int (nI (k + 1))), (0, .ref wy), (1, .ref pz), (2, .int (nI hi)), (3, .int (nI rl)), (5, .int (nI v))]) hx hb dX9_next_76 hl (k := 4) rfl (nI_add k 1) (by decide) rfl (fun ls hl => ?_)
                    refine lv_goto (tgt := 10) hx hb dX9_next_79 (by decide) ?_
                    refine W.widen (k := 560 * rl + 35 * (k + 1)) (n := 8000 * rl + 500 * (k + 1)) (by show 560 * rl + 35 * k + 7 * v ≤ 560 * rl + 35 * (k + 1); omega) (by show 8000 * rl + 500 * k + 100 * v ≤ 8000 * rl + 500 * (k + 1); omega) ?_
                    exact ih_10_2 (k + 1) (by omega) (by omega) _ _ (hP.sub [0, 1, 2, 3, 4, 5, 6, 7, 8, 9, 10, 11] rfl) (hD.sub [0, 1, 2, 3, 4, 5, 6, 7, 8, 9, 10, 11] (by decide) rfl) hS ls (lv_sub hl [1, 2, 3, 4, 0] rfl)
                  · skip
                    have c_3 : ¬ 4 < v := fun z => c_3 ((nI_ltI (a := 4) (b := v) (by omega) (by omega)).mpr z)
                    refine lv_aload_n hx hb dX9_next_26 rfl (lv_at hl 0 rfl) ?_
                    refine va_get (D := gD G) (ci := 14) (v := .ref ca) (C := RX9) (T := TX9) (N := 3) hx hb hts fwX9 hown hK hP 0 rfl rfl 0 (by decide) (hts _ q1203) (fun _ h9 => h9) rfl dX9_next_27 ?_
                    refine lv_iload hx hb dX9_next_30 (lv_at hl 4 rfl) ?_
                    refine va_iald (D := gD G) (cA := gyI G) (n := 16) (f := f) hx hb hK hP 1 0 rfl rfl (vp_in_nI (n := k) (N := 16) (by omega) (by omega)) dX9_next_32 ?_
                    obtain ⟨n_4, hn_4, en_4⟩ := hf k (by omega)
                    refine lv_toe (show f (nI k).toNatClampNeg = nI n_4 by rw [nI_clamp (by omega)]; exact en_4) ?_
                    refine lv_iload hx hb dX9_next_33 (lv_at hl 5 rfl) ?_
                    refine fin_i hP hD hS hA [] [0, 1, 2, 3, 4, 5, 6, 7, 8, 9, 10, 11] (wr := [(wy, .inr (14, [.ref ca, .ref sl, .ref gl])), (ca, .inl (gyI G, 16, .inl f)), (pz, .inr (13, [.ref gr, .ref mr, .ref cl])), (gr, .inl (gyI G, 16, .inl gv)), (cl, .inr (4, [.int mdc, .ref edc, .int (nI 6)])), (edc, .inl (gyO G, 10, .inr (.inr (.inr (.inr gd))))), (d0, .inr (12, [.int (nI 49152), .int (nI 16)])), (d1, .inr (12, [.int (nI 49152), .int (nI 16)])), (d2, .inr (12, [.int (nI 49152), .int (nI 16)])), (d3, .inr (12, [.int (nI 49152), .int (nI 16)])), (d4, .inr (12, [.int (nI 49152), .int (nI 16)])), (d5, .inr (12, [.int (nI 49152), .int (nI 16)]))]) rfl rfl (by decide) (by decide) (va_runSN (As := [.int (nI n_4), .int (nI v)]) (rest := []) ⟨hx, hb, hml, hown, hts⟩ (c_isIn l G n_4 v (by omega) (by omega) (by omega) H.size) ⟨(va_cnB 2 hts (gI q1078) rfl rfl rfl (hE.1.1 _ nq1076) (hts _ q52) (by decide +kernel) ⟨Nat.le_of_ble_eq_true rfl, Nat.le_of_ble_eq_true rfl⟩), hts _ q1077, trivial⟩ (preS hK hE hP hD hS hA [] rfl (by decide)) rfl rfl hl.1 rfl (lv_room (Nat.le_of_ble_eq_true rfl)) dX9_next_35 ⟨(by show 560 * rl + 35 * k + 7 * v + 0 ≤ (2807 : Nat); omega), (by show 8000 * rl + 500 * k + 100 * v + 0 ≤ (40100 : Nat); omega)⟩) (fun r_7 u9 hw_6 H locs hP hD hS => ?_)
                    obtain ⟨bn_5, rfl⟩ : ∃ z, z = u9 := ⟨_, rfl⟩
                    obtain ⟨rfl, hbn_8, hbt_9⟩ := hw_6
                    have hbn_8 : bn_5 ≤ 1 := hbn_8
                    have hbt_9 : n_4 / pw v % 2 = bn_5 := hbt_9
                    have hP : va_P (gD G) vwCl [(wy, .inr (14, [.ref ca, .ref sl, .ref gl])), (ca, .inl (gyI G, 16, .inl f)), (pz, .inr (13, [.ref gr, .ref mr, .ref cl])), (gr, .inl (gyI G, 16, .inl gv)), (cl, .inr (4, [.int mdc, .ref edc, .int (nI 6)])), (edc, .inl (gyO G, 10, .inr (.inr (.inr (.inr gd))))), (d0, .inr (12, [.int (nI 49152), .int (nI 16)])), (d1, .inr (12, [.int (nI 49152), .int (nI 16)])), (d2, .inr (12, [.int (nI 49152), .int (nI 16)])), (d3, .inr (12, [.int (nI 49152), .int (nI 16)])), (d4, .inr (12, [.int (nI 49152), .int (nI 16)])), (d5, .inr (12, [.int (nI 49152), .int (nI 16)]))] H := hP
                    have hD : va_D A [(wy, .inr (14, [.ref ca, .ref sl, .ref gl])), (ca, .inl (gyI G, 16, .inl f)), (pz, .inr (13, [.ref gr, .ref mr, .ref cl])), (gr, .inl (gyI G, 16, .inl gv)), (cl, .inr (4, [.int mdc, .ref edc, .int (nI 6)])), (edc, .inl (gyO G, 10, .inr (.inr (.inr (.inr gd))))), (d0, .inr (12, [.int (nI 49152), .int (nI 16)])), (d1, .inr (12, [.int (nI 49152), .int (nI 16)])), (d2, .inr (12, [.int (nI 49152), .int (nI 16)])), (d3, .inr (12, [.int (nI 49152), .int (nI 16)])), (d4, .inr (12, [.int (nI 49152), .int (nI 16)])), (d5, .inr (12, [.int (nI 49152), .int (nI 16)]))] := hD
                    refine lv_if_eq (tgt := 70) hx hb dX9_next_38 (by decide) (fun c_10 => ?_) (fun c_10 => ?_)
                    · skip
                      have c_10 : bn_5 = 0 := (nI_eq (a := bn_5) (b := 0) (by omega) (by omega)).mp c_10
                      refine lv_iinc (v := nI (v + 1)) (lv' := [(5, .int (nI (v + 1))), (0, .ref wy), (1, .ref pz), (2, .int (nI hi)), (3, .int (nI rl)), (4, .int (nI k))]) hx hb dX9_next_70 hl (k := 5) rfl (nI_add v 1) (by decide) rfl (fun ls hl => ?_)
                      refine lv_goto (tgt := 20) hx hb dX9_next_73 (by decide) ?_
                      refine W.widen (k := 560 * rl + 35 * k + 7 * (v + 1)) (n := 8000 * rl + 500 * k + 100 * (v + 1)) (by show 560 * rl + 35 * k + 7 * v ≤ 560 * rl + 35 * k + 7 * (v + 1); omega) (by show 8000 * rl + 500 * k + 100 * v ≤ 8000 * rl + 500 * k + 100 * (v + 1); omega) ?_
                      exact ih_20_3 (v + 1) (by omega) (by omega) (by omega) _ _ (hP.sub [0, 1, 2, 3, 4, 5, 6, 7, 8, 9, 10, 11] rfl) (hD.sub [0, 1, 2, 3, 4, 5, 6, 7, 8, 9, 10, 11] (by decide) rfl) hS ls (lv_sub hl [1, 2, 3, 4, 5, 0] rfl)
                    · skip
                      have c_10 : ¬ bn_5 = 0 := fun z => c_10 ((nI_eq (a := bn_5) (b := 0) (by omega) (by omega)).mpr z)
                      refine lv_aload_n hx hb dX9_next_41 rfl (lv_at hl 1 rfl) ?_
                      refine lv_iload_n hx hb dX9_next_42 rfl (lv_at hl 3 rfl) ?_
                      refine lv_iload hx hb dX9_next_43 (lv_at hl 4 rfl) ?_
                      refine lv_iload hx hb dX9_next_45 (lv_at hl 5 rfl) ?_
                      refine lv_aload_n hx hb dX9_next_47 rfl (lv_at hl 0 rfl) ?_
                      refine va_get (D := gD G) (ci := 14) (v := .ref ca) (C := RX9) (T := TX9) (N := 3) hx hb hts fwX9 hown hK hP 0 rfl rfl 0 (by decide) (hts _ q1203) (fun _ h9 => h9) rfl dX9_next_48 ?_
                      rcases (show rl < 4 ∨ (rl = 4 ∧ k < 14) ∨ (rl = 4 ∧ 14 ≤ k) by omega) with z9 | ⟨z9, z8⟩ | ⟨z9, z8⟩
                      · skip
                        refine fin_i hP hD hS hA [2, 3, 1] [0, 4, 5, 6, 7, 8, 9, 10, 11] (wr := [(wy, .inr (14, [.ref ca, .ref sl, .ref gl])), (cl, .inr (4, [.int mdc, .ref edc, .int (nI 6)])), (edc, .inl (gyO G, 10, .inr (.inr (.inr (.inr gd))))), (d0, .inr (12, [.int (nI 49152), .int (nI 16)])), (d1, .inr (12, [.int (nI 49152), .int (nI 16)])), (d2, .inr (12, [.int (nI 49152), .int (nI 16)])), (d3, .inr (12, [.int (nI 49152), .int (nI 16)])), (d4, .inr (12, [.int (nI 49152), .int (nI 16)])), (d5, .inr (12, [.int (nI 49152), .int (nI 16)]))]) rfl rfl (by decide) (by decide) (va_runV (As := [.int (nI rl), .int (nI k), .int (nI v), .ref ca]) (rest := []) ⟨hx, hb, hml, hown, hts⟩ (c_taken_any l G pz gr mr cl gv k ca f (nI v) rl (by omega) (by omega) (by omega) H.size) (cwV 4 hts (gV q1079 q1080 q1081 q62 q1082) rfl rfl rfl (by decide +kernel) ⟨Nat.le_of_ble_eq_true rfl, Nat.le_of_ble_eq_true rfl⟩) (preV (q0 := 2) (ci := 13) hK hE hP hD hS hA [2, 3, 1] rfl (by decide) rfl rfl) rfl rfl hl.1 rfl (lv_room (Nat.le_of_ble_eq_true rfl)) dX9_next_51 ⟨(by show 560 * rl + 35 * k + 7 * v + 0 ≤ (2807 : Nat); omega), (by show 8000 * rl + 500 * k + 100 * v + 0 ≤ (40100 : Nat); omega)⟩) (fun r_13 u9 hw_12 H locs hP hD hS => ?_)
                        obtain ⟨bn_11, rfl⟩ : ∃ z, z = u9 := ⟨_, rfl⟩
                        obtain ⟨rfl, hbn_14⟩ := hw_12
                        have hbn_14 : bn_11 ≤ 1 := hbn_14
                        have hP : va_P (gD G) vwCl [(wy, .inr (14, [.ref ca, .ref sl, .ref gl])), (cl, .inr (4, [.int mdc, .ref edc, .int (nI 6)])), (edc, .inl (gyO G, 10, .inr (.inr (.inr (.inr gd))))), (d0, .inr (12, [.int (nI 49152), .int (nI 16)])), (d1, .inr (12, [.int (nI 49152), .int (nI 16)])), (d2, .inr (12, [.int (nI 49152), .int (nI 16)])), (d3, .inr (12, [.int (nI 49152), .int (nI 16)])), (d4, .inr (12, [.int (nI 49152), .int (nI 16)])), (d5, .inr (12, [.int (nI 49152), .int (nI 16)])), (pz, .inr (13, [.ref gr, .ref mr, .ref cl])), (gr, .inl (gyI G, 16, .inl gv)), (ca, .inl (gyI G, 16, .inl f))] H := hP
                        have hD : va_D A [(wy, .inr (14, [.ref ca, .ref sl, .ref gl])), (cl, .inr (4, [.int mdc, .ref edc, .int (nI 6)])), (edc, .inl (gyO G, 10, .inr (.inr (.inr (.inr gd))))), (d0, .inr (12, [.int (nI 49152), .int (nI 16)])), (d1, .inr (12, [.int (nI 49152), .int (nI 16)])), (d2, .inr (12, [.int (nI 49152), .int (nI 16)])), (d3, .inr (12, [.int (nI 49152), .int (nI 16)])), (d4, .inr (12, [.int (nI 49152), .int (nI 16)])), (d5, .inr (12, [.int (nI 49152), .int (nI 16)])), (pz, .inr (13, [.ref gr, .ref mr, .ref cl])), (gr, .inl (gyI G, 16, .inl gv)), (ca, .inl (gyI G, 16, .inl f))] := hD
                        refine lv_if_eq (tgt := 70) hx hb dX9_next_54 (by decide) (fun c_15 => ?_) (fun c_15 => ?_)
                        · skip
                          have c_15 : bn_11 = 0 := (nI_eq (a := bn_11) (b := 0) (by omega) (by omega)).mp c_15
                          refine lv_iinc (v := nI (v + 1)) (lv' := [(5, .int (nI (v + 1))), (0, .ref wy), (1, .ref pz), (2, .int (nI hi)), (3, .int (nI rl)), (4, .int (nI k))]) hx hb dX9_next_70 hl (k := 5) rfl (nI_add v 1) (by decide) rfl (fun ls hl => ?_)
                          refine lv_goto (tgt := 20) hx hb dX9_next_73 (by decide) ?_
                          refine W.widen (k := 560 * rl + 35 * k + 7 * (v + 1)) (n := 8000 * rl + 500 * k + 100 * (v + 1)) (by show 560 * rl + 35 * k + 7 * v ≤ 560 * rl + 35 * k + 7 * (v + 1); omega) (by show 8000 * rl + 500 * k + 100 * v ≤ 8000 * rl + 500 * k + 100 * (v + 1); omega) ?_
                          exact ih_20_3 (v + 1) (by omega) (by omega) (by omega) _ _ (hP.sub [0, 11, 9, 10, 1, 2, 3, 4, 5, 6, 7, 8] rfl) (hD.sub [0, 11, 9, 10, 1, 2, 3, 4, 5, 6, 7, 8] (by decide) rfl) hS ls (lv_sub hl [1, 2, 3, 4, 5, 0] rfl)
                        · skip
                          have c_15 : ¬ bn_11 = 0 := fun z => c_15 ((nI_eq (a := bn_11) (b := 0) (by omega) (by omega)).mpr z)
                          refine lv_bipush (v := nI 100) hx hb dX9_next_57 (by decide) ?_
                          refine lv_iload_n hx hb dX9_next_59 rfl (lv_at hl 3 rfl) ?_
                          refine lv_imul hx hb dX9_next_60 ?_
                          refine lv_toe (pk_mul 100 rl) ?_
                          refine lv_iconst (v := nI 5) hx hb dX9_next_61 (by decide) ?_
                          refine lv_iload hx hb dX9_next_62 (lv_at hl 4 rfl) ?_
                          refine lv_imul hx hb dX9_next_64 ?_
                          refine lv_toe (pk_mul 5 k) ?_
                          refine lv_iadd hx hb dX9_next_65 ?_
                          refine lv_toe (nI_add (100 * rl) (5 * k)) ?_
                          refine lv_iload hx hb dX9_next_66 (lv_at hl 5 rfl) ?_
                          refine lv_iadd hx hb dX9_next_68 ?_
                          refine lv_toe (nI_add (100 * rl + (5 * k)) v) ?_
                          have hP9 := hP.sub (ws' := [(wy, .inr (14, [.ref ca, .ref sl, .ref gl])), (ca, .inl (gyI G, 16, .inl f)), (pz, .inr (13, [.ref gr, .ref mr, .ref cl])), (gr, .inl (gyI G, 16, .inl gv)), (cl, .inr (4, [.int mdc, .ref edc, .int (nI 6)])), (edc, .inl (gyO G, 10, .inr (.inr (.inr (.inr gd))))), (d0, .inr (12, [.int (nI 49152), .int (nI 16)])), (d1, .inr (12, [.int (nI 49152), .int (nI 16)])), (d2, .inr (12, [.int (nI 49152), .int (nI 16)])), (d3, .inr (12, [.int (nI 49152), .int (nI 16)])), (d4, .inr (12, [.int (nI 49152), .int (nI 16)])), (d5, .inr (12, [.int (nI 49152), .int (nI 16)]))]) [0, 11, 9, 10, 1, 2, 3, 4, 5, 6, 7, 8] rfl
                          have hD9 := hD.sub (ws' := [(wy, .inr (14, [.ref ca, .ref sl, .ref gl])), (ca, .inl (gyI G, 16, .inl f)), (pz, .inr (13, [.ref gr, .ref mr, .ref cl])), (gr, .inl (gyI G, 16, .inl gv)), (cl, .inr (4, [.int mdc, .ref edc, .int (nI 6)])), (edc, .inl (gyO G, 10, .inr (.inr (.inr (.inr gd))))), (d0, .inr (12, [.int (nI 49152), .int (nI 16)])), (d1, .inr (12, [.int (nI 49152), .int (nI 16)])), (d2, .inr (12, [.int (nI 49152), .int (nI 16)])), (d3, .inr (12, [.int (nI 49152), .int (nI 16)])), (d4, .inr (12, [.int (nI 49152), .int (nI 16)])), (d5, .inr (12, [.int (nI 49152), .int (nI 16)]))]) [0, 11, 9, 10, 1, 2, 3, 4, 5, 6, 7, 8] (by decide) rfl
                          refine W.widen (k := 2807) (n := 40100) (by show 560 * rl + 35 * k + 7 * v ≤ 2807; omega) (by show 8000 * rl + 500 * k + 100 * v ≤ 40100; omega) ?_
                          subst hQ
                          exact W.iret (v := nI (100 * rl + (5 * k) + v)) hx hb hr (fun t ht hW => ⟨⟨nI (100 * rl + (5 * k) + v), (rl, k, v, n_4), rfl, Or.inr ⟨rfl, (show rl < 5 by omega), (show k < 16 by omega), (show 1 ≤ v by omega), (show v ≤ 4 by omega), hn_4, en_4, hbt_9.trans (by omega)⟩, by rw [ht]; exact hP9, hD9⟩, hS.F ht⟩) hS.2.2 dX9_next_69
                      · skip
                        refine fin_i hP hD hS hA [2, 4, 5, 6, 7, 8, 9, 10, 11, 1] [0, 3] (wr := [(wy, .inr (14, [.ref ca, .ref sl, .ref gl])), (gr, .inl (gyI G, 16, .inl gv))]) rfl rfl (by decide) (by decide) (va_runV (As := [.int (nI rl), .int (nI k), .int (nI v), .ref ca]) (rest := []) ⟨hx, hb, hml, hown, hts⟩ (c_taken_lo l G pz gr mr cl mdc edc gd d0 d1 d2 d3 d4 d5 k ca f rl v hd0 hd1 hd2 hd3 hd4 hd5 (by omega) (by omega) H.size) (cwV 4 hts (gV q1079 q1080 q1081 q62 q1082) rfl rfl rfl (by decide +kernel) ⟨Nat.le_of_ble_eq_true rfl, Nat.le_of_ble_eq_true rfl⟩) (preV (q0 := 2) (ci := 13) hK hE hP hD hS hA [2, 4, 5, 6, 7, 8, 9, 10, 11, 1] rfl (by decide) rfl rfl) rfl rfl hl.1 rfl (lv_room (Nat.le_of_ble_eq_true rfl)) dX9_next_51 ⟨(by show 560 * rl + 35 * k + 7 * v + 7 ≤ (2807 : Nat); omega), (by show 8000 * rl + 500 * k + 100 * v + 100 ≤ (40100 : Nat); omega)⟩) (fun r_18 u9 hw_17 H locs hP hD hS => ?_)
                        obtain ⟨T2_16, rfl⟩ : ∃ z, z = u9 := ⟨_, rfl⟩
                        obtain ⟨rfl, hw2_19⟩ := hw_17
                        have hw2_19 : 96 ≤ wt T2_16 := hw2_19
                        have hP : va_P (gD G) vwCl [(wy, .inr (14, [.ref ca, .ref sl, .ref gl])), (gr, .inl (gyI G, 16, .inl gv)), (pz, .inr (13, [.ref gr, .ref mr, .ref cl])), (cl, .inr (4, [.int mdc, .ref edc, .int (nI 6)])), (edc, .inl (gyO G, 10, .inr (.inr (.inr (.inr gd))))), (d0, .inr (12, [.int (nI 49152), .int (nI 16)])), (d1, .inr (12, [.int (nI 49152), .int (nI 16)])), (d2, .inr (12, [.int (nI 49152), .int (nI 16)])), (d3, .inr (12, [.int (nI 49152), .int (nI 16)])), (d4, .inr (12, [.int (nI 49152), .int (nI 16)])), (d5, .inr (12, [.int (nI 49152), .int (nI 16)])), (ca, .inl (gyI G, 16, .inl f))] H := (show va_P (gD G) vwCl ([(wy, .inr (14, [.ref ca, .ref sl, .ref gl])), (gr, .inl (gyI G, 16, .inl gv)), (pz, .inr (13, [.ref gr, .ref mr, .ref cl])), (cl, .inr (4, [.int mdc, .ref edc, .int (nI 6)])), (edc, .inl (gyO G, 10, .inr (.inr (.inr (.inr gd))))), (d0, .inr (12, [.int (nI 49152), .int (nI 16)])), (d1, .inr (12, [.int (nI 49152), .int (nI 16)])), (d2, .inr (12, [.int (nI 49152), .int (nI 16)])), (d3, .inr (12, [.int (nI 49152), .int (nI 16)])), (d4, .inr (12, [.int (nI 49152), .int (nI 16)])), (d5, .inr (12, [.int (nI 49152), .int (nI 16)])), (ca, .inl (gyI G, 16, .inl f))] ++ T2_16) H from hP).split.1
                        have hD : va_D A [(wy, .inr (14, [.ref ca, .ref sl, .ref gl])), (gr, .inl (gyI G, 16, .inl gv)), (pz, .inr (13, [.ref gr, .ref mr, .ref cl])), (cl, .inr (4, [.int mdc, .ref edc, .int (nI 6)])), (edc, .inl (gyO G, 10, .inr (.inr (.inr (.inr gd))))), (d0, .inr (12, [.int (nI 49152), .int (nI 16)])), (d1, .inr (12, [.int (nI 49152), .int (nI 16)])), (d2, .inr (12, [.int (nI 49152), .int (nI 16)])), (d3, .inr (12, [.int (nI 49152), .int (nI 16)])), (d4, .inr (12, [.int (nI 49152), .int (nI 16)])), (d5, .inr (12, [.int (nI 49152), .int (nI 16)])), (ca, .inl (gyI G, 16, .inl f))] := (show va_D A ([(wy, .inr (14, [.ref ca, .ref sl, .ref gl])), (gr, .inl (gyI G, 16, .inl gv)), (pz, .inr (13, [.ref gr, .ref mr, .ref cl])), (cl, .inr (4, [.int mdc, .ref edc, .int (nI 6)])), (edc, .inl (gyO G, 10, .inr (.inr (.inr (.inr gd))))), (d0, .inr (12, [.int (nI 49152), .int (nI 16)])), (d1, .inr (12, [.int (nI 49152), .int (nI 16)])), (d2, .inr (12, [.int (nI 49152), .int (nI 16)])), (d3, .inr (12, [.int (nI 49152), .int (nI 16)])), (d4, .inr (12, [.int (nI 49152), .int (nI 16)])), (d5, .inr (12, [.int (nI 49152), .int (nI 16)])), (ca, .inl (gyI G, 16, .inl f))] ++ T2_16) from hD).split.1
                        refine lv_if_eq (tgt := 70) hx hb dX9_next_54 (by decide) (fun c_20 => ?_) (fun c_20 => ?_)
                        · skip
                          have c_20 : 0 = 0 := (nI_eq (a := 0) (b := 0) (by omega) (by omega)).mp c_20
                          refine lv_iinc (v := nI (v + 1)) (lv' := [(5, .int (nI (v + 1))), (0, .ref wy), (1, .ref pz), (2, .int (nI hi)), (3, .int (nI rl)), (4, .int (nI k))]) hx hb dX9_next_70 hl (k := 5) rfl (nI_add v 1) (by decide) rfl (fun ls hl => ?_)
                          refine lv_goto (tgt := 20) hx hb dX9_next_73 (by decide) ?_
                          refine W.widen (k := 560 * rl + 35 * k + 7 * (v + 1)) (n := 8000 * rl + 500 * k + 100 * (v + 1)) (by show 560 * rl + 35 * k + 7 * v + 7 ≤ 560 * rl + 35 * k + 7 * (v + 1); omega) (by show 8000 * rl + 500 * k + 100 * v + 100 ≤ 8000 * rl + 500 * k + 100 * (v + 1); omega) ?_
                          exact ih_20_3 (v + 1) (by omega) (by omega) (by omega) _ _ (hP.sub [0, 11, 2, 1, 3, 4, 5, 6, 7, 8, 9, 10] rfl) (hD.sub [0, 11, 2, 1, 3, 4, 5, 6, 7, 8, 9, 10] (by decide) rfl) hS ls (lv_sub hl [1, 2, 3, 4, 5, 0] rfl)
                        · skip
                          have c_20 : ¬ 0 = 0 := fun z => c_20 ((nI_eq (a := 0) (b := 0) (by omega) (by omega)).mpr z)
                          exact absurd c_20 (by decide)
                      · skip
                        refine fin_i hP hD hS hA [2, 4, 5, 6, 7, 8, 9, 10, 11, 1] [0, 3] (wr := [(wy, .inr (14, [.ref ca, .ref sl, .ref gl])), (gr, .inl (gyI G, 16, .inl gv))]) rfl rfl (by decide) (by decide) (va_runV (As := [.int (nI rl), .int (nI k), .int (nI v), .ref ca]) (rest := []) ⟨hx, hb, hml, hown, hts⟩ (c_taken_hi l G pz gr mr cl mdc edc gd d0 d1 d2 d3 d4 d5 k ca f rl v hd0 hd1 hd2 hd3 hd4 hd5 (by omega) (by omega) (by omega) (by omega) (by omega) H.size) (cwV 4 hts (gV q1079 q1080 q1081 q62 q1082) rfl rfl rfl (by decide +kernel) ⟨Nat.le_of_ble_eq_true rfl, Nat.le_of_ble_eq_true rfl⟩) (preV (q0 := 2) (ci := 13) hK hE hP hD hS hA [2, 4, 5, 6, 7, 8, 9, 10, 11, 1] rfl (by decide) rfl rfl) rfl rfl hl.1 rfl (lv_room (Nat.le_of_ble_eq_true rfl)) dX9_next_51 ⟨(by show 560 * rl + 35 * k + 7 * v + 2 ≤ (2807 : Nat); omega), (by show 8000 * rl + 500 * k + 100 * v + 20 ≤ (40100 : Nat); omega)⟩) (fun r_22 u9 hw_21 H locs hP hD hS => ?_)
                        subst hw_21
                        have hP : va_P (gD G) vwCl [(wy, .inr (14, [.ref ca, .ref sl, .ref gl])), (gr, .inl (gyI G, 16, .inl gv)), (pz, .inr (13, [.ref gr, .ref mr, .ref cl])), (cl, .inr (4, [.int mdc, .ref edc, .int (nI 6)])), (edc, .inl (gyO G, 10, .inr (.inr (.inr (.inr gd))))), (d0, .inr (12, [.int (nI 49152), .int (nI 16)])), (d1, .inr (12, [.int (nI 49152), .int (nI 16)])), (d2, .inr (12, [.int (nI 49152), .int (nI 16)])), (d3, .inr (12, [.int (nI 49152), .int (nI 16)])), (d4, .inr (12, [.int (nI 49152), .int (nI 16)])), (d5, .inr (12, [.int (nI 49152), .int (nI 16)])), (ca, .inl (gyI G, 16, .inl f))] H := hP
                        have hD : va_D A [(wy, .inr (14, [.ref ca, .ref sl, .ref gl])), (gr, .inl (gyI G, 16, .inl gv)), (pz, .inr (13, [.ref gr, .ref mr, .ref cl])), (cl, .inr (4, [.int mdc, .ref edc, .int (nI 6)])), (edc, .inl (gyO G, 10, .inr (.inr (.inr (.inr gd))))), (d0, .inr (12, [.int (nI 49152), .int (nI 16)])), (d1, .inr (12, [.int (nI 49152), .int (nI 16)])), (d2, .inr (12, [.int (nI 49152), .int (nI 16)])), (d3, .inr (12, [.int (nI 49152), .int (nI 16)])), (d4, .inr (12, [.int (nI 49152), .int (nI 16)])), (d5, .inr (12, [.int (nI 49152), .int (nI 16)])), (ca, .inl (gyI G, 16, .inl f))] := hD
                        refine lv_if_eq (tgt := 70) hx hb dX9_next_54 (by decide) (fun c_23 => ?_) (fun c_23 => ?_)
                        · skip
                          have c_23 : 1 = 0 := (nI_eq (a := 1) (b := 0) (by omega) (by omega)).mp c_23
                          exact absurd c_23 (by decide)
                        · skip
                          have c_23 : ¬ 1 = 0 := fun z => c_23 ((nI_eq (a := 1) (b := 0) (by omega) (by omega)).mpr z)
                          refine lv_bipush (v := nI 100) hx hb dX9_next_57 (by decide) ?_
                          refine lv_iload_n hx hb dX9_next_59 rfl (lv_at hl 3 rfl) ?_
                          refine lv_imul hx hb dX9_next_60 ?_
                          refine lv_toe (pk_mul 100 rl) ?_
                          refine lv_iconst (v := nI 5) hx hb dX9_next_61 (by decide) ?_
                          refine lv_iload hx hb dX9_next_62 (lv_at hl 4 rfl) ?_
                          refine lv_imul hx hb dX9_next_64 ?_
                          refine lv_toe (pk_mul 5 k) ?_
                          refine lv_iadd hx hb dX9_next_65 ?_
                          refine lv_toe (nI_add (100 * rl) (5 * k)) ?_
                          refine lv_iload hx hb dX9_next_66 (lv_at hl 5 rfl) ?_
                          refine lv_iadd hx hb dX9_next_68 ?_
                          refine lv_toe (nI_add (100 * rl + (5 * k)) v) ?_
                          have hP9 := hP.sub (ws' := [(wy, .inr (14, [.ref ca, .ref sl, .ref gl])), (ca, .inl (gyI G, 16, .inl f)), (pz, .inr (13, [.ref gr, .ref mr, .ref cl])), (gr, .inl (gyI G, 16, .inl gv)), (cl, .inr (4, [.int mdc, .ref edc, .int (nI 6)])), (edc, .inl (gyO G, 10, .inr (.inr (.inr (.inr gd))))), (d0, .inr (12, [.int (nI 49152), .int (nI 16)])), (d1, .inr (12, [.int (nI 49152), .int (nI 16)])), (d2, .inr (12, [.int (nI 49152), .int (nI 16)])), (d3, .inr (12, [.int (nI 49152), .int (nI 16)])), (d4, .inr (12, [.int (nI 49152), .int (nI 16)])), (d5, .inr (12, [.int (nI 49152), .int (nI 16)]))]) [0, 11, 2, 1, 3, 4, 5, 6, 7, 8, 9, 10] rfl
                          have hD9 := hD.sub (ws' := [(wy, .inr (14, [.ref ca, .ref sl, .ref gl])), (ca, .inl (gyI G, 16, .inl f)), (pz, .inr (13, [.ref gr, .ref mr, .ref cl])), (gr, .inl (gyI G, 16, .inl gv)), (cl, .inr (4, [.int mdc, .ref edc, .int (nI 6)])), (edc, .inl (gyO G, 10, .inr (.inr (.inr (.inr gd))))), (d0, .inr (12, [.int (nI 49152), .int (nI 16)])), (d1, .inr (12, [.int (nI 49152), .int (nI 16)])), (d2, .inr (12, [.int (nI 49152), .int (nI 16)])), (d3, .inr (12, [.int (nI 49152), .int (nI 16)])), (d4, .inr (12, [.int (nI 49152), .int (nI 16)])), (d5, .inr (12, [.int (nI 49152), .int (nI 16)]))]) [0, 11, 2, 1, 3, 4, 5, 6, 7, 8, 9, 10] (by decide) rfl
                          refine W.widen (k := 2807) (n := 40100) (by show 560 * rl + 35 * k + 7 * v + 2 ≤ 2807; omega) (by show 8000 * rl + 500 * k + 100 * v + 20 ≤ 40100; omega) ?_
                          subst hQ
                          exact W.iret (v := nI (100 * rl + (5 * k) + v)) hx hb hr (fun t ht hW => ⟨⟨nI (100 * rl + (5 * k) + v), (rl, k, v, n_4), rfl, Or.inr ⟨rfl, (show rl < 5 by omega), (show k < 16 by omega), (show 1 ≤ v by omega), (show v ≤ 4 by omega), hn_4, en_4, hbt_9.trans (by omega)⟩, by rw [ht]; exact hP9, hD9⟩, hS.F ht⟩) hS.2.2 dX9_next_69
              refine W.widen (k := 560 * rl + 35 * k + 7 * 1) (n := 8000 * rl + 500 * k + 100 * 1) (by show 560 * rl + 35 * k ≤ 560 * rl + 35 * k + 7 * 1; omega) (by show 8000 * rl + 500 * k ≤ 8000 * rl + 500 * k + 100 * 1; omega) ?_
              exact cut_20_3 (5 - 1 + 1) 1 (by omega) (by omega) (Nat.lt_succ_self _) _ _ (hP.sub [0, 1, 2, 3, 4, 5, 6, 7, 8, 9, 10, 11] rfl) (hD.sub [0, 1, 2, 3, 4, 5, 6, 7, 8, 9, 10, 11] (by decide) rfl) hS ls (lv_sub hl [1, 2, 3, 4, 5, 0] rfl)
        refine W.widen (k := 560 * rl + 35 * 0) (n := 8000 * rl + 500 * 0) (by omega) (by omega) ?_
        exact cut_10_2 (16 - 0 + 1) 0 (by omega) (Nat.lt_succ_self _) _ _ (hP.sub [0, 1, 2, 3, 4, 5, 6, 7, 8, 9, 10, 11] rfl) (hD.sub [0, 1, 2, 3, 4, 5, 6, 7, 8, 9, 10, 11] (by decide) rfl) hS ls (lv_sub hl [1, 2, 3, 4, 0] rfl)
  refine W.widen (k := 560 * 0) (n := 8000 * 0) (Nat.le_of_ble_eq_true rfl) (Nat.le_of_ble_eq_true rfl) ?_
  exact cut_2_1 (5 - 0 + 1) 0 (by omega) (Nat.lt_succ_self _) _ _ (hP.sub [0, 1, 2, 3, 4, 5, 6, 7, 8, 9, 10, 11] rfl) (hD.sub [0, 1, 2, 3, 4, 5, 6, 7, 8, 9, 10, 11] (by decide) rfl) hS ls (lv_sub hl [1, 2, 3, 0] rfl)
set_option maxHeartbeats 4000000 in
set_option maxRecDepth 100000 in
theorem c_state_X (l : Launch) (G : GG) (wy : Nat) (ca : Nat) (sl : Nat) (gl : Nat) (f : Nat → Int32) (x : Nat) (hX : inX x f) (hx1 : 1 ≤ x) (hx16 : x < 16) : Mi l G yX9_state cX9_state 6 (some .char) ({ frames := 1, cells := 0, slots := 0, locals := 20 } : Room) [.ref wy] [(wy, .inr (14, [.ref ca, .ref sl, .ref gl])), (ca, .inl (gyI G, 16, .inl f))] (fun (r : Int32) (u : Unit) => (r = nI 115 ∨ r = nI 110)) (fun (u : Unit) => [(wy, .inr (14, [.ref ca, .ref sl, .ref gl])), (ca, .inl (gyI G, 16, .inl f))]) := by
  intro sz
  refine Met.ofW (cc := cX9_state) (maxL := 6) (ret := (some .char)) (by decide) rfl ?_
  intro p e s m args below meth c s₁ B9 hml hv
  obtain ⟨rfl, hsz, hP, hK, hD0, hE⟩ := hv
  have hx := B9.exec
  have hb := B9.bytes
  have hr := B9.returns
  have hts : ∀ w ∈ WW, w.before ([.ref wy] : List Value).toArray s = true := fun w h => atoms_spec (ws := .code yX9_state cX9_state 6 (some .char) :: WW) B9.pre w (List.mem_cons_of_mem _ h)
  have hown : s.vm.findClass RX9 = some m.cls := findClass_of_methodNamed B9.named
  subst hsz
  have hD := hD0.self (sz := s.heap.size)
  generalize hAe : va_A [(wy, .inr (14, [.ref ca, .ref sl, .ref gl])), (ca, .inl (gyI G, 16, .inl f))] s.heap.size = A at hD hE ⊢
  have hA : ∀ q : Nat, s.heap.size ≤ q → A q := fun q h => by rw [← hAe]; exact Or.inr h
  have hl := lv_entry ([.ref wy]) (n := 6) (Nat.le_of_ble_eq_true rfl)
  rw [lg_entry_eq]
  generalize (lg_sl ([.ref wy]) ++ List.replicate (6 - (lg_sl ([.ref wy])).length) Slot.unset).toArray = ls at hl ⊢
  have hl : lv_has ls 6 [(0, .ref wy)] := hl
  refine qgen (fun Q hQ => ?_)
  refine hgen (fun H locs hP hD hS => ?_) hP hD
  refine lv_iconst (v := nI 1) hx hb dX9_state_0 (by decide) ?_
  refine lv_istore_n (lv' := [(1, .int (nI 1)), (0, .ref wy)]) hx hb dX9_state_1 rfl hl (by decide) rfl (fun ls hl => ?_)
  refine lv_aload_n hx hb dX9_state_2 rfl (lv_at hl 1 rfl) ?_
  refine va_get (D := gD G) (ci := 14) (v := .ref ca) (C := RX9) (T := TX9) (N := 3) hx hb hts fwX9 hown hK hP 0 rfl rfl 0 (by decide) (hts _ q1203) (fun _ h9 => h9) rfl dX9_state_3 ?_
  refine lv_astore_n (lv' := [(2, .ref ca), (1, .int (nI 1)), (0, .ref wy)]) hx hb dX9_state_6 rfl hl (by decide) rfl (fun ls hl => ?_)
  refine lv_aload_n hx hb dX9_state_7 rfl (lv_at hl 0 rfl) ?_
  refine va_alen (D := gD G) (v := nI 16) hx hb hK hP 1 0 rfl rfl rfl dX9_state_8 ?_
  refine lv_istore_n (lv' := [(3, .int (nI 16)), (2, .ref ca), (1, .int (nI 1)), (0, .ref wy)]) hx hb dX9_state_9 rfl hl (by decide) rfl (fun ls hl => ?_)
  refine lv_iconst (v := nI 0) hx hb dX9_state_10 (by decide) ?_
  refine lv_istore (lv' := [(4, .int (nI 0)), (3, .int (nI 16)), (2, .ref ca), (1, .int (nI 1)), (0, .ref wy)]) hx hb dX9_state_11 hl (by decide) rfl (fun ls hl => ?_)
  have cut_13_1 : ∀ (n9 : Nat) (bs : Nat) (i : Nat) (hbs : bs ≤ 1) (hi : i ≤ 16) (hm9 : 16 - i < n9) (H : Heap) (locs : List Loc), va_P (gD G) vwCl [(wy, .inr (14, [.ref ca, .ref sl, .ref gl])), (ca, .inl (gyI G, 16, .inl f))] H → va_D A [(wy, .inr (14, [.ref ca, .ref sl, .ref gl])), (ca, .inl (gyI G, 16, .inl f))] → va_S A s.heap H locs → ∀ (ls : Array Slot), lv_has ls 6 [(0, .ref wy), (1, .int (nI bs)), (2, .ref ca), (3, .int (nI 16)), (4, .int (nI i))] → W p l e ({ frames := 1, cells := 0, slots := 0, locals := 20 } : Room) s m ([.ref wy] : List Value).toArray below meth c H locs 0 0 Q (F0 m 13 ls []) := by
    intro n9
    induction n9 with
    | zero =>
      intro bs i hbs hi hm9
      exact absurd hm9 (Nat.not_lt_zero _)
    | succ n9 ih_13_1 =>
      intro bs i hbs hi hm9 H locs hP hD hS ls hl
      refine lv_iload hx hb dX9_state_13 (lv_at hl 4 rfl) ?_
      refine lv_iload_n hx hb dX9_state_15 rfl (lv_at hl 3 rfl) ?_
      refine lv_icmp_ge (tgt := 56) hx hb dX9_state_16 (by decide) (fun c_1 => ?_) (fun c_1 => ?_)
      · skip
        have c_1 : 16 ≤ i := (nI_leI (a := 16) (b := i) (by omega) (by omega)).mp c_1
        refine lv_iload_n hx hb dX9_state_56 rfl (lv_at hl 1 rfl) ?_
        refine lv_if_eq (tgt := 65) hx hb dX9_state_57 (by decide) (fun c_2 => ?_) (fun c_2 => ?_)
        · skip
          have c_2 : bs = 0 := (nI_eq (a := bs) (b := 0) (by omega) (by omega)).mp c_2
          refine lv_bipush (v := nI 110) hx hb dX9_state_65 (by decide) ?_
          have hP9 := hP.sub (ws' := [(wy, .inr (14, [.ref ca, .ref sl, .ref gl])), (ca, .inl (gyI G, 16, .inl f))]) [0, 1] rfl
          have hD9 := hD.sub (ws' := [(wy, .inr (14, [.ref ca, .ref sl, .ref gl])), (ca, .inl (gyI G, 16, .inl f))]) [0, 1] (by decide) rfl
          subst hQ
          exact W.zret (v := nI 110) hx hb hr (by decide) (fun t ht hW => ⟨⟨nI 110, (), rfl, Or.inr rfl, by rw [ht]; exact hP9, hD9⟩, hS.F ht⟩) hS.2.2 dX9_state_67
        · skip
          have c_2 : ¬ bs = 0 := fun z => c_2 ((nI_eq (a := bs) (b := 0) (by omega) (by omega)).mpr z)
          refine lv_bipush (v := nI 115) hx hb dX9_state_60 (by decide) ?_
          refine lv_goto (tgt := 67) hx hb dX9_state_62 (by decide) ?_
          have hP9 := hP.sub (ws' := [(wy, .inr (14, [.ref ca, .ref sl, .ref gl])), (ca, .inl (gyI G, 16, .inl f))]) [0, 1] rfl
          have hD9 := hD.sub (ws' := [(wy, .inr (14, [.ref ca, .ref sl, .ref gl])), (ca, .inl (gyI G, 16, .inl f))]) [0, 1] (by decide) rfl
          subst hQ
          exact W.zret (v := nI 115) hx hb hr (by decide) (fun t ht hW => ⟨⟨nI 115, (), rfl, Or.inl rfl, by rw [ht]; exact hP9, hD9⟩, hS.F ht⟩) hS.2.2 dX9_state_67
      · skip
        have c_1 : ¬ 16 ≤ i := fun z => c_1 ((nI_leI (a := 16) (b := i) (by omega) (by omega)).mpr z)
        refine lv_aload_n hx hb dX9_state_19 rfl (lv_at hl 2 rfl) ?_
        refine lv_iload hx hb dX9_state_20 (lv_at hl 4 rfl) ?_
        refine va_iald (D := gD G) (cA := gyI G) (n := 16) (f := f) hx hb hK hP 1 0 rfl rfl (vp_in_nI (n := i) (N := 16) (by omega) (by omega)) dX9_state_22 ?_
        refine lv_toe (show f (nI i).toNatClampNeg = nI (Fx x i) by rw [nI_clamp (by omega)]; exact hX i (by omega)) ?_
        have hfx_3 := fx_or x i
        refine lv_istore (lv' := [(5, .int (nI (Fx x i))), (0, .ref wy), (1, .int (nI bs)), (2, .ref ca), (3, .int (nI 16)), (4, .int (nI i))]) hx hb dX9_state_23 hl (by decide) rfl (fun ls hl => ?_)
        refine lv_iload hx hb dX9_state_25 (lv_at hl 0 rfl) ?_
        refine lv_if_ne (tgt := 33) hx hb dX9_state_27 (by decide) (fun c_4 => ?_) (fun c_4 => ?_)
        · skip
          have c_4 : ¬ (Fx x i) = 0 := fun z => c_4 ((nI_eq (a := Fx x i) (b := 0) (by omega) (by omega)).mpr z)
          refine lv_iload_n hx hb dX9_state_33 rfl (lv_at hl 2 rfl) ?_
          refine lv_iload hx hb dX9_state_34 (lv_at hl 0 rfl) ?_
          refine fin_i hP hD hS hA [] [0, 1] (wr := [(wy, .inr (14, [.ref ca, .ref sl, .ref gl])), (ca, .inl (gyI G, 16, .inl f))]) rfl rfl (by decide) (by decide) (va_runS (As := [.int (nI (Fx x i))]) (rest := [.int (nI bs)]) ⟨hx, hb, hml, hown, hts⟩ (c_J6_bitCount_0f7a4 l G (nI (Fx x i)) H.size) (va_cwS 1 hts (gSt q1198 q277 q70 q278) rfl rfl rfl (by decide +kernel) ⟨Nat.le_of_ble_eq_true rfl, Nat.le_of_ble_eq_true rfl⟩) (preS hK hE hP hD hS hA [] rfl (by decide)) rfl rfl hl.1 rfl (lv_room (Nat.le_of_ble_eq_true rfl)) dX9_state_36 ⟨Nat.le_of_ble_eq_true rfl, Nat.le_of_ble_eq_true rfl⟩) (fun r_6 u9 hw_5 H locs hP hD hS => ?_)
          have hP : va_P (gD G) vwCl [(wy, .inr (14, [.ref ca, .ref sl, .ref gl])), (ca, .inl (gyI G, 16, .inl f))] H := hP
          have hD : va_D A [(wy, .inr (14, [.ref ca, .ref sl, .ref gl])), (ca, .inl (gyI G, 16, .inl f))] := hD
          refine lv_iconst (v := nI 1) hx hb dX9_state_39 (by decide) ?_
          refine lv_icmp_ne (tgt := 47) hx hb dX9_state_40 (by decide) (fun c_7 => ?_) (fun c_7 => ?_)
          · skip
            refine lv_iconst (v := nI 0) hx hb dX9_state_47 (by decide) ?_
            refine lv_iand hx hb dX9_state_48 ?_
            refine lv_toe (band0 (by omega)) ?_
            refine lv_istore_n (lv' := [(1, .int (nI 0)), (5, .int (nI (Fx x i))), (0, .ref wy), (2, .ref ca), (3, .int (nI 16)), (4, .int (nI i))]) hx hb dX9_state_49 rfl hl (by decide) rfl (fun ls hl => ?_)
            refine lv_iinc (v := nI (i + 1)) (lv' := [(4, .int (nI (i + 1))), (1, .int (nI 0)), (5, .int (nI (Fx x i))), (0, .ref wy), (2, .ref ca), (3, .int (nI 16))]) hx hb dX9_state_50 hl (k := 5) rfl (nI_add i 1) (by decide) rfl (fun ls hl => ?_)
            refine lv_goto (tgt := 13) hx hb dX9_state_53 (by decide) ?_
            exact ih_13_1 0 (i + 1) (by omega) (by omega) (by omega) _ _ (hP.sub [0, 1] rfl) (hD.sub [0, 1] (by decide) rfl) hS ls (lv_sub hl [3, 1, 4, 5, 0] rfl)
          · skip
            refine lv_iconst (v := nI 1) hx hb dX9_state_43 (by decide) ?_
            refine lv_goto (tgt := 48) hx hb dX9_state_44 (by decide) ?_
            refine lv_iand hx hb dX9_state_48 ?_
            refine lv_toe (band1 (by omega)) ?_
            refine lv_istore_n (lv' := [(1, .int (nI bs)), (5, .int (nI (Fx x i))), (0, .ref wy), (2, .ref ca), (3, .int (nI 16)), (4, .int (nI i))]) hx hb dX9_state_49 rfl hl (by decide) rfl (fun ls hl => ?_)
            refine lv_iinc (v := nI (i + 1)) (lv' := [(4, .int (nI (i + 1))), (1, .int (nI bs)), (5, .int (nI (Fx x i))), (0, .ref wy), (2, .ref ca), (3, .int (nI 16))]) hx hb dX9_state_50 hl (k := 5) rfl (nI_add i 1) (by decide) rfl (fun ls hl => ?_)
            refine lv_goto (tgt := 13) hx hb dX9_state_53 (by decide) ?_
            exact ih_13_1 bs (i + 1) (by omega) (by omega) (by omega) _ _ (hP.sub [0, 1] rfl) (hD.sub [0, 1] (by decide) rfl) hS ls (lv_sub hl [3, 1, 4, 5, 0] rfl)
        · skip
          have c_4 : (Fx x i) = 0 := (nI_eq (a := Fx x i) (b := 0) (by omega) (by omega)).mp c_4
          exfalso; omega
  exact cut_13_1 (16 - 0 + 1) 1 0 (by omega) (by omega) (Nat.lt_succ_self _) _ _ (hP.sub [0, 1] rfl) (hD.sub [0, 1] (by decide) rfl) hS ls (lv_sub hl [4, 3, 2, 1, 0] rfl)
set_option maxHeartbeats 4000000 in
set_option maxRecDepth 100000 in
theorem c_state_any (l : Launch) (G : GG) (wy : Nat) (ca : Nat) (sl : Nat) (gl : Nat) (f : Nat → Int32) : Mi l G yX9_state cX9_state 6 (some .char) ({ frames := 1, cells := 0, slots := 0, locals := 20 } : Room) [.ref wy] [(wy, .inr (14, [.ref ca, .ref sl, .ref gl])), (ca, .inl (gyI G, 16, .inl f))] (fun (r : Int32) (u : Unit) => True) (fun (u : Unit) => [(wy, .inr (14, [.ref ca, .ref sl, .ref gl])), (ca, .inl (gyI G, 16, .inl f))]) := by
  intro sz
  refine Met.ofW (cc := cX9_state) (maxL := 6) (ret := (some .char)) (by decide) rfl ?_
  intro p e s m args below meth c s₁ B9 hml hv
  obtain ⟨rfl, hsz, hP, hK, hD0, hE⟩ := hv
  have hx := B9.exec
  have hb := B9.bytes
  have hr := B9.returns
  have hts : ∀ w ∈ WW, w.before ([.ref wy] : List Value).toArray s = true := fun w h => atoms_spec (ws := .code yX9_state cX9_state 6 (some .char) :: WW) B9.pre w (List.mem_cons_of_mem _ h)
  have hown : s.vm.findClass RX9 = some m.cls := findClass_of_methodNamed B9.named
  subst hsz
  have hD := hD0.self (sz := s.heap.size)
  generalize hAe : va_A [(wy, .inr (14, [.ref ca, .ref sl, .ref gl])), (ca, .inl (gyI G, 16, .inl f))] s.heap.size = A at hD hE ⊢
  have hA : ∀ q : Nat, s.heap.size ≤ q → A q := fun q h => by rw [← hAe]; exact Or.inr h
  have hl := lv_entry ([.ref wy]) (n := 6) (Nat.le_of_ble_eq_true rfl)
  rw [lg_entry_eq]
  generalize (lg_sl ([.ref wy]) ++ List.replicate (6 - (lg_sl ([.ref wy])).length) Slot.unset).toArray = ls at hl ⊢
  have hl : lv_has ls 6 [(0, .ref wy)] := hl
  refine qgen (fun Q hQ => ?_)
  refine hgen (fun H locs hP hD hS => ?_) hP hD
  refine lv_iconst (v := nI 1) hx hb dX9_state_0 (by decide) ?_
  refine lv_istore_n (lv' := [(1, .int (nI 1)), (0, .ref wy)]) hx hb dX9_state_1 rfl hl (by decide) rfl (fun ls hl => ?_)
  refine lv_aload_n hx hb dX9_state_2 rfl (lv_at hl 1 rfl) ?_
  refine va_get (D := gD G) (ci := 14) (v := .ref ca) (C := RX9) (T := TX9) (N := 3) hx hb hts fwX9 hown hK hP 0 rfl rfl 0 (by decide) (hts _ q1203) (fun _ h9 => h9) rfl dX9_state_3 ?_
  refine lv_astore_n (lv' := [(2, .ref ca), (1, .int (nI 1)), (0, .ref wy)]) hx hb dX9_state_6 rfl hl (by decide) rfl (fun ls hl => ?_)
  refine lv_aload_n hx hb dX9_state_7 rfl (lv_at hl 0 rfl) ?_
  refine va_alen (D := gD G) (v := nI 16) hx hb hK hP 1 0 rfl rfl rfl dX9_state_8 ?_
  refine lv_istore_n (lv' := [(3, .int (nI 16)), (2, .ref ca), (1, .int (nI 1)), (0, .ref wy)]) hx hb dX9_state_9 rfl hl (by decide) rfl (fun ls hl => ?_)
  refine lv_iconst (v := nI 0) hx hb dX9_state_10 (by decide) ?_
  refine lv_istore (lv' := [(4, .int (nI 0)), (3, .int (nI 16)), (2, .ref ca), (1, .int (nI 1)), (0, .ref wy)]) hx hb dX9_state_11 hl (by decide) rfl (fun ls hl => ?_)
  have cut_13_1 : ∀ (n9 : Nat) (bs : Nat) (i : Nat) (hbs : bs ≤ 1) (hi : i ≤ 16) (hm9 : 16 - i < n9) (H : Heap) (locs : List Loc), va_P (gD G) vwCl [(wy, .inr (14, [.ref ca, .ref sl, .ref gl])), (ca, .inl (gyI G, 16, .inl f))] H → va_D A [(wy, .inr (14, [.ref ca, .ref sl, .ref gl])), (ca, .inl (gyI G, 16, .inl f))] → va_S A s.heap H locs → ∀ (ls : Array Slot), lv_has ls 6 [(0, .ref wy), (1, .int (nI bs)), (2, .ref ca), (3, .int (nI 16)), (4, .int (nI i))] → W p l e ({ frames := 1, cells := 0, slots := 0, locals := 20 } : Room) s m ([.ref wy] : List Value).toArray below meth c H locs 0 0 Q (F0 m 13 ls []) := by
    intro n9
    induction n9 with
    | zero =>
      intro bs i hbs hi hm9
      exact absurd hm9 (Nat.not_lt_zero _)
    | succ n9 ih_13_1 =>
      intro bs i hbs hi hm9 H locs hP hD hS ls hl
      refine lv_iload hx hb dX9_state_13 (lv_at hl 4 rfl) ?_
      refine lv_iload_n hx hb dX9_state_15 rfl (lv_at hl 3 rfl) ?_
      refine lv_icmp_ge (tgt := 56) hx hb dX9_state_16 (by decide) (fun c_1 => ?_) (fun c_1 => ?_)
      · skip
        have c_1 : 16 ≤ i := (nI_leI (a := 16) (b := i) (by omega) (by omega)).mp c_1
        refine lv_iload_n hx hb dX9_state_56 rfl (lv_at hl 1 rfl) ?_
        refine lv_if_eq (tgt := 65) hx hb dX9_state_57 (by decide) (fun c_2 => ?_) (fun c_2 => ?_)
        · skip
          have c_2 : bs = 0 := (nI_eq (a := bs) (b := 0) (by omega) (by omega)).mp c_2
          refine lv_bipush (v := nI 110) hx hb dX9_state_65 (by decide) ?_
          have hP9 := hP.sub (ws' := [(wy, .inr (14, [.ref ca, .ref sl, .ref gl])), (ca, .inl (gyI G, 16, .inl f))]) [0, 1] rfl
          have hD9 := hD.sub (ws' := [(wy, .inr (14, [.ref ca, .ref sl, .ref gl])), (ca, .inl (gyI G, 16, .inl f))]) [0, 1] (by decide) rfl
          subst hQ
          exact W.zret (v := nI 110) hx hb hr (by decide) (fun t ht hW => ⟨⟨nI 110, (), rfl, trivial, by rw [ht]; exact hP9, hD9⟩, hS.F ht⟩) hS.2.2 dX9_state_67
        · skip
          have c_2 : ¬ bs = 0 := fun z => c_2 ((nI_eq (a := bs) (b := 0) (by omega) (by omega)).mpr z)
          refine lv_bipush (v := nI 115) hx hb dX9_state_60 (by decide) ?_
          refine lv_goto (tgt := 67) hx hb dX9_state_62 (by decide) ?_
          have hP9 := hP.sub (ws' := [(wy, .inr (14, [.ref ca, .ref sl, .ref gl])), (ca, .inl (gyI G, 16, .inl f))]) [0, 1] rfl
          have hD9 := hD.sub (ws' := [(wy, .inr (14, [.ref ca, .ref sl, .ref gl])), (ca, .inl (gyI G, 16, .inl f))]) [0, 1] (by decide) rfl
          subst hQ
          exact W.zret (v := nI 115) hx hb hr (by decide) (fun t ht hW => ⟨⟨nI 115, (), rfl, trivial, by rw [ht]; exact hP9, hD9⟩, hS.F ht⟩) hS.2.2 dX9_state_67
      · skip
        have c_1 : ¬ 16 ≤ i := fun z => c_1 ((nI_leI (a := 16) (b := i) (by omega) (by omega)).mpr z)
        refine lv_aload_n hx hb dX9_state_19 rfl (lv_at hl 2 rfl) ?_
        refine lv_iload hx hb dX9_state_20 (lv_at hl 4 rfl) ?_
        refine va_iald (D := gD G) (cA := gyI G) (n := 16) (f := f) hx hb hK hP 1 0 rfl rfl (vp_in_nI (n := i) (N := 16) (by omega) (by omega)) dX9_state_22 ?_
        refine lv_topi (fun w_3 ew_3 => ?_)
        refine lv_istore (lv' := [(5, .int w_3), (0, .ref wy), (1, .int (nI bs)), (2, .ref ca), (3, .int (nI 16)), (4, .int (nI i))]) hx hb dX9_state_23 hl (by decide) rfl (fun ls hl => ?_)
        refine lv_iload hx hb dX9_state_25 (lv_at hl 0 rfl) ?_
        refine lv_if_ne (tgt := 33) hx hb dX9_state_27 (by decide) (fun c_4 => ?_) (fun c_4 => ?_)
        · skip
          refine lv_iload_n hx hb dX9_state_33 rfl (lv_at hl 2 rfl) ?_
          refine lv_iload hx hb dX9_state_34 (lv_at hl 0 rfl) ?_
          refine fin_i hP hD hS hA [] [0, 1] (wr := [(wy, .inr (14, [.ref ca, .ref sl, .ref gl])), (ca, .inl (gyI G, 16, .inl f))]) rfl rfl (by decide) (by decide) (va_runS (As := [.int w_3]) (rest := [.int (nI bs)]) ⟨hx, hb, hml, hown, hts⟩ (c_J6_bitCount_0f7a4 l G w_3 H.size) (va_cwS 1 hts (gSt q1198 q277 q70 q278) rfl rfl rfl (by decide +kernel) ⟨Nat.le_of_ble_eq_true rfl, Nat.le_of_ble_eq_true rfl⟩) (preS hK hE hP hD hS hA [] rfl (by decide)) rfl rfl hl.1 rfl (lv_room (Nat.le_of_ble_eq_true rfl)) dX9_state_36 ⟨Nat.le_of_ble_eq_true rfl, Nat.le_of_ble_eq_true rfl⟩) (fun r_6 u9 hw_5 H locs hP hD hS => ?_)
          have hP : va_P (gD G) vwCl [(wy, .inr (14, [.ref ca, .ref sl, .ref gl])), (ca, .inl (gyI G, 16, .inl f))] H := hP
          have hD : va_D A [(wy, .inr (14, [.ref ca, .ref sl, .ref gl])), (ca, .inl (gyI G, 16, .inl f))] := hD
          refine lv_iconst (v := nI 1) hx hb dX9_state_39 (by decide) ?_
          refine lv_icmp_ne (tgt := 47) hx hb dX9_state_40 (by decide) (fun c_7 => ?_) (fun c_7 => ?_)
          · skip
            refine lv_iconst (v := nI 0) hx hb dX9_state_47 (by decide) ?_
            refine lv_iand hx hb dX9_state_48 ?_
            refine lv_toe (band0 (by omega)) ?_
            refine lv_istore_n (lv' := [(1, .int (nI 0)), (5, .int w_3), (0, .ref wy), (2, .ref ca), (3, .int (nI 16)), (4, .int (nI i))]) hx hb dX9_state_49 rfl hl (by decide) rfl (fun ls hl => ?_)
            refine lv_iinc (v := nI (i + 1)) (lv' := [(4, .int (nI (i + 1))), (1, .int (nI 0)), (5, .int w_3), (0, .ref wy), (2, .ref ca), (3, .int (nI 16))]) hx hb dX9_state_50 hl (k := 5) rfl (nI_add i 1) (by decide) rfl (fun ls hl => ?_)
            refine lv_goto (tgt := 13) hx hb dX9_state_53 (by decide) ?_
            exact ih_13_1 0 (i + 1) (by omega) (by omega) (by omega) _ _ (hP.sub [0, 1] rfl) (hD.sub [0, 1] (by decide) rfl) hS ls (lv_sub hl [3, 1, 4, 5, 0] rfl)
          · skip
            refine lv_iconst (v := nI 1) hx hb dX9_state_43 (by decide) ?_
            refine lv_goto (tgt := 48) hx hb dX9_state_44 (by decide) ?_
            refine lv_iand hx hb dX9_state_48 ?_
            refine lv_toe (band1 (by omega)) ?_
            refine lv_istore_n (lv' := [(1, .int (nI bs)), (5, .int w_3), (0, .ref wy), (2, .ref ca), (3, .int (nI 16)), (4, .int (nI i))]) hx hb dX9_state_49 rfl hl (by decide) rfl (fun ls hl => ?_)
            refine lv_iinc (v := nI (i + 1)) (lv' := [(4, .int (nI (i + 1))), (1, .int (nI bs)), (5, .int w_3), (0, .ref wy), (2, .ref ca), (3, .int (nI 16))]) hx hb dX9_state_50 hl (k := 5) rfl (nI_add i 1) (by decide) rfl (fun ls hl => ?_)
            refine lv_goto (tgt := 13) hx hb dX9_state_53 (by decide) ?_
            exact ih_13_1 bs (i + 1) (by omega) (by omega) (by omega) _ _ (hP.sub [0, 1] rfl) (hD.sub [0, 1] (by decide) rfl) hS ls (lv_sub hl [3, 1, 4, 5, 0] rfl)
        · skip
          refine lv_bipush (v := nI 98) hx hb dX9_state_30 (by decide) ?_
          have hP9 := hP.sub (ws' := [(wy, .inr (14, [.ref ca, .ref sl, .ref gl])), (ca, .inl (gyI G, 16, .inl f))]) [0, 1] rfl
          have hD9 := hD.sub (ws' := [(wy, .inr (14, [.ref ca, .ref sl, .ref gl])), (ca, .inl (gyI G, 16, .inl f))]) [0, 1] (by decide) rfl
          subst hQ
          exact W.zret (v := nI 98) hx hb hr (by decide) (fun t ht hW => ⟨⟨nI 98, (), rfl, trivial, by rw [ht]; exact hP9, hD9⟩, hS.F ht⟩) hS.2.2 dX9_state_32
  exact cut_13_1 (16 - 0 + 1) 1 0 (by omega) (by omega) (Nat.lt_succ_self _) _ _ (hP.sub [0, 1] rfl) (hD.sub [0, 1] (by decide) rfl) hS ls (lv_sub hl [4, 3, 2, 1, 0] rfl)
