theorem q39 : (Jvm.Cond.selects "PegboardryModel$Puzzle" ({ cls := "PegboardryModel$Puzzle", name := "byCage", desc := "(II[I)Z" } : Jvm.MethodName) ({ cls := "PegboardryModel$Puzzle", name := "byCage", desc := "(II[I)Z" } : Jvm.MethodName)) ∈ WW := inW 39 (by decide +kernel) rfl
theorem q1097 : (Jvm.Cond.methodLink "PegboardryModel$Puzzle" (35 : Nat) ({ cls := "PegboardryModel$Puzzle", name := "byCage", desc := "(II[I)Z" } : Jvm.MethodName)) ∈ WW := inW 1097 (by decide +kernel) rfl
theorem q1099 : (Jvm.Cond.instanceMethod ({ cls := "PegboardryModel$Puzzle", name := "byCage", desc := "(II[I)Z" } : Jvm.MethodName)) ∈ WW := inW 1099 (by decide +kernel) rfl
theorem q1100 : (Jvm.Cond.code ({ cls := "PegboardryModel$Puzzle", name := "byCage", desc := "(II[I)Z" } : Jvm.MethodName) prog_11_method_6_code (7 : Nat) (Option.some Jvm.ClassFile.FieldType.boolean)) ∈ WW := inW 1100 (by decide +kernel) rfl
theorem dX8_isTaken_81 : decode cX8_isTaken 81 = .ok (.aload_n 0, 1) := by decide +kernel
theorem dX8_isTaken_82 : decode cX8_isTaken 82 = .ok (.iload_n 2, 1) := by decide +kernel
theorem dX8_isTaken_83 : decode cX8_isTaken 83 = .ok (.iload_n 3, 1) := by decide +kernel
theorem dX8_isTaken_84 : decode cX8_isTaken 84 = .ok (.aload 4, 2) := by decide +kernel
theorem dX8_isTaken_86 : decode cX8_isTaken 86 = .ok (.invokevirtual 35, 3) := by decide +kernel
theorem dX8_isTaken_89 : decode cX8_isTaken 89 = .ok (.ireturn, 1) := by decide +kernel
set_option maxHeartbeats 4000000 in
set_option maxRecDepth 100000 in
theorem c_taken_lo (l : Launch) (G : GG) (pz : Nat) (gr : Nat) (mr : Nat) (cl : Nat) (mdc : Int32) (edc : Nat) (gd : Nat → Option Nat) (d0 : Nat) (d1 : Nat) (d2 : Nat) (d3 : Nat) (d4 : Nat) (d5 : Nat) (k : Nat) (ca : Nat) (f : Nat → Int32) (rl : Nat) (v : Nat) (hd0 : gd 0 = some d0) (hd1 : gd 1 = some d1) (hd2 : gd 2 = some d2) (hd3 : gd 3 = some d3) (hd4 : gd 4 = some d4) (hd5 : gd 5 = some d5) (hrl : rl = 4) (hk : k < 14) : Mi l G yX8_isTaken cX8_isTaken 5 (some .boolean) ({ frames := 4, cells := 7, slots := 100, locals := 87 } : Room) [.ref pz, .int (nI rl), .int (nI k), .int (nI v), .ref ca] [(pz, .inr (13, [.ref gr, .ref mr, .ref cl])), (cl, .inr (4, [.int mdc, .ref edc, .int (nI 6)])), (edc, .inl (gyO G, 10, .inr (.inr (.inr (.inr gd))))), (d0, .inr (12, [.int (nI 49152), .int (nI 16)])), (d1, .inr (12, [.int (nI 49152), .int (nI 16)])), (d2, .inr (12, [.int (nI 49152), .int (nI 16)])), (d3, .inr (12, [.int (nI 49152), .int (nI 16)])), (d4, .inr (12, [.int (nI 49152), .int (nI 16)])), (d5, .inr (12, [.int (nI 49152), .int (nI 16)])), (ca, .inl (gyI G, 16, .inl f))] (fun (r : Int32) (u : va_W) => r = nI 0 ∧ 96 ≤ wt u) (fun (u : va_W) => [(pz, .inr (13, [.ref gr, .ref mr, .ref cl])), (cl, .inr (4, [.int mdc, .ref edc, .int (nI 6)])), (edc, .inl (gyO G, 10, .inr (.inr (.inr (.inr gd))))), (d0, .inr (12, [.int (nI 49152), .int (nI 16)])), (d1, .inr (12, [.int (nI 49152), .int (nI 16)])), (d2, .inr (12, [.int (nI 49152), .int (nI 16)])), (d3, .inr (12, [.int (nI 49152), .int (nI 16)])), (d4, .inr (12, [.int (nI 49152), .int (nI 16)])), (d5, .inr (12, [.int (nI 49152), .int (nI 16)])), (ca, .inl (gyI G, 16, .inl f))] ++ u) := by
  intro sz
  refine Met.ofW (cc := cX8_isTaken) (maxL := 5) (ret := (some .boolean)) (by decide) rfl ?_
  intro p e s m args below meth c s₁ B9 hml hv
  obtain ⟨rfl, hsz, hP, hK, hD0, hE⟩ := hv
  have hx := B9.exec
  have hb := B9.bytes
  have hr := B9.returns
  have hts : ∀ w ∈ WW, w.before ([.ref pz, .int (nI rl), .int (nI k), .int (nI v), .ref ca] : List Value).toArray s = true := fun w h => atoms_spec (ws := .code yX8_isTaken cX8_isTaken 5 (some .boolean) :: WW) B9.pre w (List.mem_cons_of_mem _ h)
  have hown : s.vm.findClass RX8 = some m.cls := findClass_of_methodNamed B9.named
  subst hsz
  have hD := hD0.self (sz := s.heap.size)
  generalize hAe : va_A [(pz, .inr (13, [.ref gr, .ref mr, .ref cl])), (cl, .inr (4, [.int mdc, .ref edc, .int (nI 6)])), (edc, .inl (gyO G, 10, .inr (.inr (.inr (.inr gd))))), (d0, .inr (12, [.int (nI 49152), .int (nI 16)])), (d1, .inr (12, [.int (nI 49152), .int (nI 16)])), (d2, .inr (12, [.int (nI 49152), .int (nI 16)])), (d3, .inr (12, [.int (nI 49152), .int (nI 16)])), (d4, .inr (12, [.int (nI 49152), .int (nI 16)])), (d5, .inr (12, [.int (nI 49152), .int (nI 16)])), (ca, .inl (gyI G, 16, .inl f))] s.heap.size = A at hD hE ⊢
  have hA : ∀ q : Nat, s.heap.size ≤ q → A q := fun q h => by rw [← hAe]; exact Or.inr h
  have hl := lv_entry ([.ref pz, .int (nI rl), .int (nI k), .int (nI v), .ref ca]) (n := 5) (Nat.le_of_ble_eq_true rfl)
  rw [lg_entry_eq]
  generalize (lg_sl ([.ref pz, .int (nI rl), .int (nI k), .int (nI v), .ref ca]) ++ List.replicate (5 - (lg_sl ([.ref pz, .int (nI rl), .int (nI k), .int (nI v), .ref ca])).length) Slot.unset).toArray = ls at hl ⊢
  have hl : lv_has ls 5 [(0, .ref pz), (1, .int (nI rl)), (2, .int (nI k)), (3, .int (nI v)), (4, .ref ca)] := hl
  refine qgen (fun Q hQ => ?_)
  refine hgen (fun H locs hP hD hS => ?_) hP hD
  refine lv_iload_n hx hb dX8_isTaken_0 rfl (lv_at hl 1 rfl) ?_
  obtain rfl : rl = 4 := hrl
  refine lv_tableOut (tgt := 81) hx hb dX8_isTaken_1 (by decide) (by decide) ?_
  refine lv_aload_n hx hb dX8_isTaken_81 rfl (lv_at hl 0 rfl) ?_
  refine lv_iload_n hx hb dX8_isTaken_82 rfl (lv_at hl 2 rfl) ?_
  refine lv_iload_n hx hb dX8_isTaken_83 rfl (lv_at hl 3 rfl) ?_
  refine lv_aload hx hb dX8_isTaken_84 (lv_at hl 4 rfl) ?_
  refine fin_i hP hD hS hA [0, 1, 2, 3, 4, 5, 6, 7, 8, 9] [] (wr := []) rfl rfl (by decide) (by decide) (va_runV (As := [.int (nI k), .int (nI v), .ref ca]) (rest := []) ⟨hx, hb, hml, hown, hts⟩ (c_byCage_lo l G pz gr mr cl mdc edc gd d0 d1 d2 d3 d4 d5 k ca f (nI v) hd0 hd1 hd2 hd3 hd4 hd5 (by omega) H.size) (cwV 3 hts (gV q1097 q1099 q39 q62 q1100) rfl rfl rfl (by decide +kernel) ⟨Nat.le_of_ble_eq_true rfl, Nat.le_of_ble_eq_true rfl⟩) (preV (q0 := 0) (ci := 13) hK hE hP hD hS hA [0, 1, 2, 3, 4, 5, 6, 7, 8, 9] rfl (by decide) rfl rfl) rfl rfl hl.1 rfl (lv_room (Nat.le_of_ble_eq_true rfl)) dX8_isTaken_86 ⟨Nat.le_of_ble_eq_true rfl, Nat.le_of_ble_eq_true rfl⟩) (fun r_3 u9 hw_2 H locs hP hD hS => ?_)
  obtain ⟨T2_1, rfl⟩ : ∃ z, z = u9 := ⟨_, rfl⟩
  obtain ⟨rfl, hw2_4⟩ := hw_2
  have hw2_4 : 96 ≤ wt T2_1 := hw2_4
  obtain ⟨T_5, eT_6⟩ : ∃ z : va_W, z = T2_1 := ⟨_, rfl⟩
  have hP : va_P (gD G) vwCl ([(pz, .inr (13, [.ref gr, .ref mr, .ref cl])), (cl, .inr (4, [.int mdc, .ref edc, .int (nI 6)])), (edc, .inl (gyO G, 10, .inr (.inr (.inr (.inr gd))))), (d0, .inr (12, [.int (nI 49152), .int (nI 16)])), (d1, .inr (12, [.int (nI 49152), .int (nI 16)])), (d2, .inr (12, [.int (nI 49152), .int (nI 16)])), (d3, .inr (12, [.int (nI 49152), .int (nI 16)])), (d4, .inr (12, [.int (nI 49152), .int (nI 16)])), (d5, .inr (12, [.int (nI 49152), .int (nI 16)])), (ca, .inl (gyI G, 16, .inl f))] ++ T_5) H := by rw [eT_6]; exact hP
  have hD : va_D A ([(pz, .inr (13, [.ref gr, .ref mr, .ref cl])), (cl, .inr (4, [.int mdc, .ref edc, .int (nI 6)])), (edc, .inl (gyO G, 10, .inr (.inr (.inr (.inr gd))))), (d0, .inr (12, [.int (nI 49152), .int (nI 16)])), (d1, .inr (12, [.int (nI 49152), .int (nI 16)])), (d2, .inr (12, [.int (nI 49152), .int (nI 16)])), (d3, .inr (12, [.int (nI 49152), .int (nI 16)])), (d4, .inr (12, [.int (nI 49152), .int (nI 16)])), (d5, .inr (12, [.int (nI 49152), .int (nI 16)])), (ca, .inl (gyI G, 16, .inl f))] ++ T_5) := by rw [eT_6]; exact hD
  have hwt_7 : wt T_5 = wt T2_1 := by rw [eT_6]
  have hP9 : va_P (gD G) vwCl ([(pz, .inr (13, [.ref gr, .ref mr, .ref cl])), (cl, .inr (4, [.int mdc, .ref edc, .int (nI 6)])), (edc, .inl (gyO G, 10, .inr (.inr (.inr (.inr gd))))), (d0, .inr (12, [.int (nI 49152), .int (nI 16)])), (d1, .inr (12, [.int (nI 49152), .int (nI 16)])), (d2, .inr (12, [.int (nI 49152), .int (nI 16)])), (d3, .inr (12, [.int (nI 49152), .int (nI 16)])), (d4, .inr (12, [.int (nI 49152), .int (nI 16)])), (d5, .inr (12, [.int (nI 49152), .int (nI 16)])), (ca, .inl (gyI G, 16, .inl f))] ++ T_5) H := subPT hP [0, 1, 2, 3, 4, 5, 6, 7, 8, 9] rfl
  have hD9 : va_D A ([(pz, .inr (13, [.ref gr, .ref mr, .ref cl])), (cl, .inr (4, [.int mdc, .ref edc, .int (nI 6)])), (edc, .inl (gyO G, 10, .inr (.inr (.inr (.inr gd))))), (d0, .inr (12, [.int (nI 49152), .int (nI 16)])), (d1, .inr (12, [.int (nI 49152), .int (nI 16)])), (d2, .inr (12, [.int (nI 49152), .int (nI 16)])), (d3, .inr (12, [.int (nI 49152), .int (nI 16)])), (d4, .inr (12, [.int (nI 49152), .int (nI 16)])), (d5, .inr (12, [.int (nI 49152), .int (nI 16)])), (ca, .inl (gyI G, 16, .inl f))] ++ T_5) := subDT hD [0, 1, 2, 3, 4, 5, 6, 7, 8, 9] (by decide) rfl
  subst hQ
  exact W.zret (v := nI 0) hx hb hr (by decide) (fun t ht hW => ⟨⟨nI 0, T_5, rfl, ⟨rfl, (show 96 ≤ wt T_5 by omega)⟩, by rw [ht]; exact hP9, hD9⟩, hS.F ht⟩) hS.2.2 dX8_isTaken_89
set_option maxHeartbeats 4000000 in
set_option maxRecDepth 100000 in
theorem c_taken_hi (l : Launch) (G : GG) (pz : Nat) (gr : Nat) (mr : Nat) (cl : Nat) (mdc : Int32) (edc : Nat) (gd : Nat → Option Nat) (d0 : Nat) (d1 : Nat) (d2 : Nat) (d3 : Nat) (d4 : Nat) (d5 : Nat) (k : Nat) (ca : Nat) (f : Nat → Int32) (rl : Nat) (v : Nat) (hd0 : gd 0 = some d0) (hd1 : gd 1 = some d1) (hd2 : gd 2 = some d2) (hd3 : gd 3 = some d3) (hd4 : gd 4 = some d4) (hd5 : gd 5 = some d5) (hrl : rl = 4) (hk : 14 ≤ k) (hk16 : k < 16) (hv1 : 1 ≤ v) (hv4 : v ≤ 4) : Mi l G yX8_isTaken cX8_isTaken 5 (some .boolean) ({ frames := 18, cells := 2, slots := 20, locals := 485 } : Room) [.ref pz, .int (nI rl), .int (nI k), .int (nI v), .ref ca] [(pz, .inr (13, [.ref gr, .ref mr, .ref cl])), (cl, .inr (4, [.int mdc, .ref edc, .int (nI 6)])), (edc, .inl (gyO G, 10, .inr (.inr (.inr (.inr gd))))), (d0, .inr (12, [.int (nI 49152), .int (nI 16)])), (d1, .inr (12, [.int (nI 49152), .int (nI 16)])), (d2, .inr (12, [.int (nI 49152), .int (nI 16)])), (d3, .inr (12, [.int (nI 49152), .int (nI 16)])), (d4, .inr (12, [.int (nI 49152), .int (nI 16)])), (d5, .inr (12, [.int (nI 49152), .int (nI 16)])), (ca, .inl (gyI G, 16, .inl f))] (fun (r : Int32) (u : Unit) => r = nI 1) (fun (u : Unit) => [(pz, .inr (13, [.ref gr, .ref mr, .ref cl])), (cl, .inr (4, [.int mdc, .ref edc, .int (nI 6)])), (edc, .inl (gyO G, 10, .inr (.inr (.inr (.inr gd))))), (d0, .inr (12, [.int (nI 49152), .int (nI 16)])), (d1, .inr (12, [.int (nI 49152), .int (nI 16)])), (d2, .inr (12, [.int (nI 49152), .int (nI 16)])), (d3, .inr (12, [.int (nI 49152), .int (nI 16)])), (d4, .inr (12, [.int (nI 49152), .int (nI 16)])), (d5, .inr (12, [.int (nI 49152), .int (nI 16)])), (ca, .inl (gyI G, 16, .inl f))]) := by
  intro sz
  refine Met.ofW (cc := cX8_isTaken) (maxL := 5) (ret := (some .boolean)) (by decide) rfl ?_
  intro p e s m args below meth c s₁ B9 hml hv
  obtain ⟨rfl, hsz, hP, hK, hD0, hE⟩ := hv
  have hx := B9.exec
  have hb := B9.bytes
  have hr := B9.returns
  have hts : ∀ w ∈ WW, w.before ([.ref pz, .int (nI rl), .int (nI k), .int (nI v), .ref ca] : List Value).toArray s = true := fun w h => atoms_spec (ws := .code yX8_isTaken cX8_isTaken 5 (some .boolean) :: WW) B9.pre w (List.mem_cons_of_mem _ h)
  have hown : s.vm.findClass RX8 = some m.cls := findClass_of_methodNamed B9.named
  subst hsz
  have hD := hD0.self (sz := s.heap.size)
  generalize hAe : va_A [(pz, .inr (13, [.ref gr, .ref mr, .ref cl])), (cl, .inr (4, [.int mdc, .ref edc, .int (nI 6)])), (edc, .inl (gyO G, 10, .inr (.inr (.inr (.inr gd))))), (d0, .inr (12, [.int (nI 49152), .int (nI 16)])), (d1, .inr (12, [.int (nI 49152), .int (nI 16)])), (d2, .inr (12, [.int (nI 49152), .int (nI 16)])), (d3, .inr (12, [.int (nI 49152), .int (nI 16)])), (d4, .inr (12, [.int (nI 49152), .int (nI 16)])), (d5, .inr (12, [.int (nI 49152), .int (nI 16)])), (ca, .inl (gyI G, 16, .inl f))] s.heap.size = A at hD hE ⊢
  have hA : ∀ q : Nat, s.heap.size ≤ q → A q := fun q h => by rw [← hAe]; exact Or.inr h
  have hl := lv_entry ([.ref pz, .int (nI rl), .int (nI k), .int (nI v), .ref ca]) (n := 5) (Nat.le_of_ble_eq_true rfl)
  rw [lg_entry_eq]
  generalize (lg_sl ([.ref pz, .int (nI rl), .int (nI k), .int (nI v), .ref ca]) ++ List.replicate (5 - (lg_sl ([.ref pz, .int (nI rl), .int (nI k), .int (nI v), .ref ca])).length) Slot.unset).toArray = ls at hl ⊢
  have hl : lv_has ls 5 [(0, .ref pz), (1, .int (nI rl)), (2, .int (nI k)), (3, .int (nI v)), (4, .ref ca)] := hl
  refine qgen (fun Q hQ => ?_)
  refine hgen (fun H locs hP hD hS => ?_) hP hD
  refine lv_iload_n hx hb dX8_isTaken_0 rfl (lv_at hl 1 rfl) ?_
  obtain rfl : rl = 4 := hrl
  refine lv_tableOut (tgt := 81) hx hb dX8_isTaken_1 (by decide) (by decide) ?_
  refine lv_aload_n hx hb dX8_isTaken_81 rfl (lv_at hl 0 rfl) ?_
  refine lv_iload_n hx hb dX8_isTaken_82 rfl (lv_at hl 2 rfl) ?_
  refine lv_iload_n hx hb dX8_isTaken_83 rfl (lv_at hl 3 rfl) ?_
  refine lv_aload hx hb dX8_isTaken_84 (lv_at hl 4 rfl) ?_
  refine fin_i hP hD hS hA [0, 1, 2, 3, 4, 5, 6, 7, 8, 9] [] (wr := []) rfl rfl (by decide) (by decide) (va_runV (As := [.int (nI k), .int (nI v), .ref ca]) (rest := []) ⟨hx, hb, hml, hown, hts⟩ (c_byCage_hi l G pz gr mr cl mdc edc gd d0 d1 d2 d3 d4 d5 k ca f v hd0 hd1 hd2 hd3 hd4 hd5 (by omega) (by omega) (by omega) (by omega) H.size) (cwV 3 hts (gV q1097 q1099 q39 q62 q1100) rfl rfl rfl (by decide +kernel) ⟨Nat.le_of_ble_eq_true rfl, Nat.le_of_ble_eq_true rfl⟩) (preV (q0 := 0) (ci := 13) hK hE hP hD hS hA [0, 1, 2, 3, 4, 5, 6, 7, 8, 9] rfl (by decide) rfl rfl) rfl rfl hl.1 rfl (lv_room (Nat.le_of_ble_eq_true rfl)) dX8_isTaken_86 ⟨Nat.le_of_ble_eq_true rfl, Nat.le_of_ble_eq_true rfl⟩) (fun r_2 u9 hw_1 H locs hP hD hS => ?_)
  subst hw_1
  have hP : va_P (gD G) vwCl [(pz, .inr (13, [.ref gr, .ref mr, .ref cl])), (cl, .inr (4, [.int mdc, .ref edc, .int (nI 6)])), (edc, .inl (gyO G, 10, .inr (.inr (.inr (.inr gd))))), (d0, .inr (12, [.int (nI 49152), .int (nI 16)])), (d1, .inr (12, [.int (nI 49152), .int (nI 16)])), (d2, .inr (12, [.int (nI 49152), .int (nI 16)])), (d3, .inr (12, [.int (nI 49152), .int (nI 16)])), (d4, .inr (12, [.int (nI 49152), .int (nI 16)])), (d5, .inr (12, [.int (nI 49152), .int (nI 16)])), (ca, .inl (gyI G, 16, .inl f))] H := hP
  have hD : va_D A [(pz, .inr (13, [.ref gr, .ref mr, .ref cl])), (cl, .inr (4, [.int mdc, .ref edc, .int (nI 6)])), (edc, .inl (gyO G, 10, .inr (.inr (.inr (.inr gd))))), (d0, .inr (12, [.int (nI 49152), .int (nI 16)])), (d1, .inr (12, [.int (nI 49152), .int (nI 16)])), (d2, .inr (12, [.int (nI 49152), .int (nI 16)])), (d3, .inr (12, [.int (nI 49152), .int (nI 16)])), (d4, .inr (12, [.int (nI 49152), .int (nI 16)])), (d5, .inr (12, [.int (nI 49152), .int (nI 16)])), (ca, .inl (gyI G, 16, .inl f))] := hD
  have hP9 := hP.sub (ws' := [(pz, .inr (13, [.ref gr, .ref mr, .ref cl])), (cl, .inr (4, [.int mdc, .ref edc, .int (nI 6)])), (edc, .inl (gyO G, 10, .inr (.inr (.inr (.inr gd))))), (d0, .inr (12, [.int (nI 49152), .int (nI 16)])), (d1, .inr (12, [.int (nI 49152), .int (nI 16)])), (d2, .inr (12, [.int (nI 49152), .int (nI 16)])), (d3, .inr (12, [.int (nI 49152), .int (nI 16)])), (d4, .inr (12, [.int (nI 49152), .int (nI 16)])), (d5, .inr (12, [.int (nI 49152), .int (nI 16)])), (ca, .inl (gyI G, 16, .inl f))]) [0, 1, 2, 3, 4, 5, 6, 7, 8, 9] rfl
  have hD9 := hD.sub (ws' := [(pz, .inr (13, [.ref gr, .ref mr, .ref cl])), (cl, .inr (4, [.int mdc, .ref edc, .int (nI 6)])), (edc, .inl (gyO G, 10, .inr (.inr (.inr (.inr gd))))), (d0, .inr (12, [.int (nI 49152), .int (nI 16)])), (d1, .inr (12, [.int (nI 49152), .int (nI 16)])), (d2, .inr (12, [.int (nI 49152), .int (nI 16)])), (d3, .inr (12, [.int (nI 49152), .int (nI 16)])), (d4, .inr (12, [.int (nI 49152), .int (nI 16)])), (d5, .inr (12, [.int (nI 49152), .int (nI 16)])), (ca, .inl (gyI G, 16, .inl f))]) [0, 1, 2, 3, 4, 5, 6, 7, 8, 9] (by decide) rfl
  subst hQ
  exact W.zret (v := nI 1) hx hb hr (by decide) (fun t ht hW => ⟨⟨nI 1, (), rfl, rfl, by rw [ht]; exact hP9, hD9⟩, hS.F ht⟩) hS.2.2 dX8_isTaken_89
