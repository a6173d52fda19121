theorem q56 : (Jvm.Cond.initialized "java/lang/IllegalStateException") ∈ WW := inW 56 (by decide +kernel) rfl
theorem q63 : (Jvm.Cond.initialized "java/lang/IndexOutOfBoundsException") ∈ WW := inW 63 (by decide +kernel) rfl
theorem q357 : (Jvm.Cond.classLink "Pegboardry" (49 : Nat) "java/lang/IllegalStateException") ∈ WW := inW 357 (by decide +kernel) rfl
theorem q570 : (Jvm.Cond.classLink "Pegboardry" (250 : Nat) "java/lang/IndexOutOfBoundsException") ∈ WW := inW 570 (by decide +kernel) rfl
theorem dX6_puzzleAt_0 : decode cX6_puzzleAt 0 = .ok (.iload_n 1, 1) := by decide +kernel
theorem dX6_puzzleAt_1 : decode cX6_puzzleAt 1 = .ok (.ifCond .lt 14, 3) := by decide +kernel
theorem dX6_puzzleAt_15 : decode cX6_puzzleAt 15 = .ok (.new 250, 3) := by decide +kernel
theorem dX6_puzzleAt_18 : decode cX6_puzzleAt 18 = .ok (.dup, 1) := by decide +kernel
theorem dX6_puzzleAt_19 : decode cX6_puzzleAt 19 = .ok (.ldc 252, 2) := by decide +kernel
theorem dX6_puzzleAt_21 : decode cX6_puzzleAt 21 = .ok (.invokespecial 254, 3) := by decide +kernel
theorem dX6_puzzleAt_24 : decode cX6_puzzleAt 24 = .ok (.athrow, 1) := by decide +kernel
theorem dX6_puzzleAt_4 : decode cX6_puzzleAt 4 = .ok (.iload_n 1, 1) := by decide +kernel
theorem dX6_puzzleAt_5 : decode cX6_puzzleAt 5 = .ok (.aload_n 0, 1) := by decide +kernel
theorem dX6_puzzleAt_6 : decode cX6_puzzleAt 6 = .ok (.getfield 10, 3) := by decide +kernel
theorem dX6_puzzleAt_9 : decode cX6_puzzleAt 9 = .ok (.invokevirtual 45, 3) := by decide +kernel
theorem dX6_puzzleAt_12 : decode cX6_puzzleAt 12 = .ok (.if_icmp .lt 13, 3) := by decide +kernel
theorem dX6_checkCell_0 : decode cX6_checkCell 0 = .ok (.iload_n 0, 1) := by decide +kernel
theorem dX6_checkCell_1 : decode cX6_checkCell 1 = .ok (.ifCond .lt 9, 3) := by decide +kernel
theorem dX6_checkCell_4 : decode cX6_checkCell 4 = .ok (.iload_n 0, 1) := by decide +kernel
theorem dX6_checkCell_5 : decode cX6_checkCell 5 = .ok (.bipush 16, 2) := by decide +kernel
theorem dX6_checkCell_7 : decode cX6_checkCell 7 = .ok (.if_icmp .lt 13, 3) := by decide +kernel
theorem dX6_checkCell_20 : decode cX6_checkCell 20 = .ok (.return_, 1) := by decide +kernel
theorem dX6_checkCell_10 : decode cX6_checkCell 10 = .ok (.new 250, 3) := by decide +kernel
theorem dX6_checkCell_13 : decode cX6_checkCell 13 = .ok (.dup, 1) := by decide +kernel
theorem dX6_checkCell_14 : decode cX6_checkCell 14 = .ok (.ldc 255, 2) := by decide +kernel
theorem dX6_checkCell_16 : decode cX6_checkCell 16 = .ok (.invokespecial 254, 3) := by decide +kernel
theorem dX6_checkCell_19 : decode cX6_checkCell 19 = .ok (.athrow, 1) := by decide +kernel
theorem dX6_checkProof_0 : decode cX6_checkProof 0 = .ok (.aload_n 0, 1) := by decide +kernel
theorem dX6_checkProof_1 : decode cX6_checkProof 1 = .ok (.getfield 37, 3) := by decide +kernel
theorem dX6_checkProof_4 : decode cX6_checkProof 4 = .ok (.ifnonnull 13, 3) := by decide +kernel
theorem dX6_checkProof_7 : decode cX6_checkProof 7 = .ok (.new 49, 3) := by decide +kernel
theorem dX6_checkProof_10 : decode cX6_checkProof 10 = .ok (.dup, 1) := by decide +kernel
theorem dX6_checkProof_11 : decode cX6_checkProof 11 = .ok (.ldc 183, 2) := by decide +kernel
theorem dX6_checkProof_13 : decode cX6_checkProof 13 = .ok (.invokespecial 53, 3) := by decide +kernel
theorem dX6_checkProof_16 : decode cX6_checkProof 16 = .ok (.athrow, 1) := by decide +kernel
theorem fit254 : Bundle.fit "java/lang/IndexOutOfBoundsException" = true := by decide +kernel
theorem fit53 : Bundle.fit "java/lang/IllegalStateException" = true := by decide +kernel
theorem fit86 : Bundle.fit "java/lang/IllegalArgumentException" = true := by decide +kernel
theorem fit245 : Bundle.fit "java/lang/ArithmeticException" = true := by decide +kernel
theorem fitNM : ∀ n ∈ NMs, Bundle.fit n = true := by decide +kernel
set_option maxHeartbeats 4000000 in
set_option maxRecDepth 100000 in
theorem c_X6_puzzleAt (l : Launch) (G : GG) (ho : Nat) (al : Nat) (ts : Nat) (pb : Nat) (lr : Int32) (sv : Nat) (md : Int32) (v : Int32) (hst : l.stackTraces = false) : Mx l G yX6_puzzleAt cX6_puzzleAt 2 (some (.object "Pegboardry$Puzzle")) ({ frames := 6, cells := 1, slots := 6, locals := 82 } : Room) [.ref ho, .int v] [(ho, .inr (11, [.ref al, .ref sv, .ref ts, .ref pb, .null, .int lr])), (al, .inr (4, [.int md, .ref (gE G), .int (nI 0)]))] "java/lang/IndexOutOfBoundsException" [(ho, .inr (11, [.ref al, .ref sv, .ref ts, .ref pb, .null, .int lr])), (al, .inr (4, [.int md, .ref (gE G), .int (nI 0)]))] := by
  intro sz
  refine vx_ofW (cc := cX6_puzzleAt) (maxL := 2) (ret := (some (.object "Pegboardry$Puzzle"))) (by decide) rfl ?_
  intro p e s m args below meth c s₁ B9 hml htab hv
  obtain ⟨rfl, hsz, hP, hK, hD0, hE⟩ := hv
  have hx := B9.exec
  have hb := B9.bytes
  have hr := B9.returns
  have hts : ∀ w ∈ WW, w.before ([.ref ho, .int v] : List Value).toArray s = true := fun w h => atoms_spec (ws := .code yX6_puzzleAt cX6_puzzleAt 2 (some (.object "Pegboardry$Puzzle")) :: WW) B9.pre w (List.mem_cons_of_mem _ h)
  have hown : s.vm.findClass RX6 = some m.cls := findClass_of_methodNamed B9.named
  subst hsz
  have hD := hD0.self (sz := s.heap.size)
  generalize hAe : va_A [(ho, .inr (11, [.ref al, .ref sv, .ref ts, .ref pb, .null, .int lr])), (al, .inr (4, [.int md, .ref (gE G), .int (nI 0)]))] s.heap.size = A at hD hE ⊢
  have hA : ∀ q : Nat, s.heap.size ≤ q → A q := fun q h => by rw [← hAe]; exact Or.inr h
  have hl := lv_entry ([.ref ho, .int v]) (n := 2) (Nat.le_of_ble_eq_true rfl)
  rw [lg_entry_eq]
  generalize (lg_sl ([.ref ho, .int v]) ++ List.replicate (2 - (lg_sl ([.ref ho, .int v])).length) Slot.unset).toArray = ls at hl ⊢
  have hl : lv_has ls 2 [(0, .ref ho), (1, .int v)] := hl
  refine qgen (fun Q hQ => ?_)
  refine hgen (fun H locs hP hD hS => ?_) hP hD
  refine lv_iload_n hx hb dX6_puzzleAt_0 rfl (lv_at hl 1 rfl) ?_
  refine lv_if_lt (tgt := 15) hx hb dX6_puzzleAt_1 (by decide) (fun c_1 => ?_) (fun c_1 => ?_)
  · skip
    have hP9 := hP.sub (ws' := [(ho, .inr (11, [.ref al, .ref sv, .ref ts, .ref pb, .null, .int lr])), (al, .inr (4, [.int md, .ref (gE G), .int (nI 0)]))]) [0, 1] rfl
    have hD9 := hD.sub (ws' := [(ho, .inr (11, [.ref al, .ref sv, .ref ts, .ref pb, .null, .int lr])), (al, .inr (4, [.int md, .ref (gE G), .int (nI 0)]))]) [0, 1] (by decide) rfl
    subst hQ
    exact vx_throwS (own := RX6) (cls := "java/lang/IndexOutOfBoundsException") (text := "there is no such puzzle") (names := NMs) (ik := 250) (is := 252) (ic := 254) (sa := gS G 252) hx hb hst hown fit254 fitNM (hts _ q570) (hts _ q63) (hE.1.2.2.2.2.2.1 (RX6, 252, "there is no such puzzle") ST0) (atw atW254 atN254 hts hE) atG254 hE.2.2.2.2.2.2.2.1 hE.2.2.2.2.2.2.2.2.1 hS (hml.trans hl.1.symm).symm dX6_puzzleAt_15 dX6_puzzleAt_18 dX6_puzzleAt_19 dX6_puzzleAt_21 dX6_puzzleAt_24 (fun x9 h9 => (htab x9 h9).elim) (Nat.le_of_ble_eq_true rfl) (Nat.le_of_ble_eq_true rfl) (Nat.le_of_ble_eq_true rfl) (Nat.le_of_ble_eq_true rfl) B9.notSynchronized (thrX hP9 hD9 hS) hS.2.2 (Nat.le_of_ble_eq_true rfl) (Nat.le_of_ble_eq_true rfl)
  · skip
    refine lv_iload_n hx hb dX6_puzzleAt_4 rfl (lv_at hl 1 rfl) ?_
    refine lv_aload_n hx hb dX6_puzzleAt_5 rfl (lv_at hl 0 rfl) ?_
    refine va_get (D := gD G) (ci := 11) (v := .ref al) (C := RX6) (T := TX6) (N := 6) hx hb hts fwX6 hown hK hP 0 rfl rfl 0 (by decide) (hts _ q181) (fun _ h9 => h9) rfl dX6_puzzleAt_6 ?_
    refine fin_i hP hD hS hA [1] [0] (wr := [(ho, .inr (11, [.ref al, .ref sv, .ref ts, .ref pb, .null, .int lr]))]) rfl rfl (by decide) (by decide) (va_runV (As := []) (rest := [.int v]) ⟨hx, hb, hml, hown, hts⟩ (c_Jx4a65c_size_8abf5 l G al md (gE G) 0 H.size) (cwV 0 hts (gV q208 q209 q210 q48 q211) rfl rfl rfl (by decide +kernel) ⟨Nat.le_of_ble_eq_true rfl, Nat.le_of_ble_eq_true rfl⟩) (preV (q0 := 1) (ci := 4) hK hE hP hD hS hA [1] rfl (by decide) rfl rfl) rfl rfl hl.1 rfl (lv_room (Nat.le_of_ble_eq_true rfl)) dX6_puzzleAt_9 ⟨Nat.le_of_ble_eq_true rfl, Nat.le_of_ble_eq_true rfl⟩) (fun r_3 u9 hw_2 H locs hP hD hS => ?_)
    subst hw_2
    have hP : va_P (gD G) vwCl [(ho, .inr (11, [.ref al, .ref sv, .ref ts, .ref pb, .null, .int lr])), (al, .inr (4, [.int md, .ref (gE G), .int (nI 0)]))] H := hP
    have hD : va_D A [(ho, .inr (11, [.ref al, .ref sv, .ref ts, .ref pb, .null, .int lr])), (al, .inr (4, [.int md, .ref (gE G), .int (nI 0)]))] := hD
    refine lv_icmp_lt (tgt := 25) hx hb dX6_puzzleAt_12 (by decide) (fun c_4 => ?_) (fun c_4 => ?_)
    · skip
      exact absurd c_4 c_1
    · skip
      have hP9 := hP.sub (ws' := [(ho, .inr (11, [.ref al, .ref sv, .ref ts, .ref pb, .null, .int lr])), (al, .inr (4, [.int md, .ref (gE G), .int (nI 0)]))]) [0, 1] rfl
      have hD9 := hD.sub (ws' := [(ho, .inr (11, [.ref al, .ref sv, .ref ts, .ref pb, .null, .int lr])), (al, .inr (4, [.int md, .ref (gE G), .int (nI 0)]))]) [0, 1] (by decide) rfl
      subst hQ
      exact vx_throwS (own := RX6) (cls := "java/lang/IndexOutOfBoundsException") (text := "there is no such puzzle") (names := NMs) (ik := 250) (is := 252) (ic := 254) (sa := gS G 252) hx hb hst hown fit254 fitNM (hts _ q570) (hts _ q63) (hE.1.2.2.2.2.2.1 (RX6, 252, "there is no such puzzle") ST0) (atw atW254 atN254 hts hE) atG254 hE.2.2.2.2.2.2.2.1 hE.2.2.2.2.2.2.2.2.1 hS (hml.trans hl.1.symm).symm dX6_puzzleAt_15 dX6_puzzleAt_18 dX6_puzzleAt_19 dX6_puzzleAt_21 dX6_puzzleAt_24 (fun x9 h9 => (htab x9 h9).elim) (Nat.le_of_ble_eq_true rfl) (Nat.le_of_ble_eq_true rfl) (Nat.le_of_ble_eq_true rfl) (Nat.le_of_ble_eq_true rfl) B9.notSynchronized (thrX hP9 hD9 hS) hS.2.2 (Nat.le_of_ble_eq_true rfl) (Nat.le_of_ble_eq_true rfl)
set_option maxHeartbeats 4000000 in
set_option maxRecDepth 100000 in
theorem c_checkCell_ok (l : Launch) (G : GG) (k : Nat) (hk : k < 16) : Mv l G yX6_checkCell cX6_checkCell 1 ({ frames := 0, cells := 0, slots := 0, locals := 0 } : Room) [.int (nI k)] [] (fun (u : Unit) => True) (fun (u : Unit) => []) := by
  intro sz
  refine Met.ofW (cc := cX6_checkCell) (maxL := 1) (ret := none) (by decide) rfl ?_
  intro p e s m args below meth c s₁ B9 hml hv
  obtain ⟨rfl, hsz, hP, hK, hD0, hE⟩ := hv
  have hx := B9.exec
  have hb := B9.bytes
  have hr := B9.returns
  have hts : ∀ w ∈ WW, w.before ([.int (nI k)] : List Value).toArray s = true := fun w h => atoms_spec (ws := .code yX6_checkCell cX6_checkCell 1 none :: WW) B9.pre w (List.mem_cons_of_mem _ h)
  have hown : s.vm.findClass RX6 = some m.cls := findClass_of_methodNamed B9.named
  subst hsz
  have hD := hD0.self (sz := s.heap.size)
  generalize hAe : va_A [] s.heap.size = A at hD hE ⊢
  have hA : ∀ q : Nat, s.heap.size ≤ q → A q := fun q h => by rw [← hAe]; exact Or.inr h
  have hl := lv_entry ([.int (nI k)]) (n := 1) (Nat.le_of_ble_eq_true rfl)
  rw [lg_entry_eq]
  generalize (lg_sl ([.int (nI k)]) ++ List.replicate (1 - (lg_sl ([.int (nI k)])).length) Slot.unset).toArray = ls at hl ⊢
  have hl : lv_has ls 1 [(0, .int (nI k))] := hl
  refine qgen (fun Q hQ => ?_)
  refine hgen (fun H locs hP hD hS => ?_) hP hD
  refine lv_iload_n hx hb dX6_checkCell_0 rfl (lv_at hl 0 rfl) ?_
  refine lv_if_lt (tgt := 10) hx hb dX6_checkCell_1 (by decide) (fun c_1 => ?_) (fun c_1 => ?_)
  · skip
    have c_1 : k < 0 := (nI_ltI (a := k) (b := 0) (by omega) (by omega)).mp c_1
    exfalso; omega
  · skip
    have c_1 : ¬ k < 0 := fun z => c_1 ((nI_ltI (a := k) (b := 0) (by omega) (by omega)).mpr z)
    refine lv_iload_n hx hb dX6_checkCell_4 rfl (lv_at hl 0 rfl) ?_
    refine lv_bipush (v := nI 16) hx hb dX6_checkCell_5 (by decide) ?_
    refine lv_icmp_lt (tgt := 20) hx hb dX6_checkCell_7 (by decide) (fun c_2 => ?_) (fun c_2 => ?_)
    · skip
      have c_2 : k < 16 := (nI_ltI (a := k) (b := 16) (by omega) (by omega)).mp c_2
      have hP9 := hP.sub (ws' := []) [] rfl
      have hD9 := hD.sub (ws' := []) [] (by decide) rfl
      subst hQ
      exact W.vret hx hb hr (fun t ht hW => ⟨⟨(), rfl, trivial, by rw [ht]; exact hP9, hD9⟩, hS.F ht⟩) hS.2.2 dX6_checkCell_20
    · skip
      have c_2 : ¬ k < 16 := fun z => c_2 ((nI_ltI (a := k) (b := 16) (by omega) (by omega)).mpr z)
      exfalso; omega
set_option maxHeartbeats 4000000 in
set_option maxRecDepth 100000 in
theorem c_X6_checkCell (l : Launch) (G : GG) (v : Int32) (hst : l.stackTraces = false) (hbad : v < nI 0 ∨ nI 15 < v) : Mx l G yX6_checkCell cX6_checkCell 1 none ({ frames := 6, cells := 1, slots := 6, locals := 82 } : Room) [.int v] [] "java/lang/IndexOutOfBoundsException" [] := by
  intro sz
  refine vx_ofW (cc := cX6_checkCell) (maxL := 1) (ret := none) (by decide) rfl ?_
  intro p e s m args below meth c s₁ B9 hml htab hv
  obtain ⟨rfl, hsz, hP, hK, hD0, hE⟩ := hv
  have hx := B9.exec
  have hb := B9.bytes
  have hr := B9.returns
  have hts : ∀ w ∈ WW, w.before ([.int v] : List Value).toArray s = true := fun w h => atoms_spec (ws := .code yX6_checkCell cX6_checkCell 1 none :: WW) B9.pre w (List.mem_cons_of_mem _ h)
  have hown : s.vm.findClass RX6 = some m.cls := findClass_of_methodNamed B9.named
  subst hsz
  have hD := hD0.self (sz := s.heap.size)
  generalize hAe : va_A [] s.heap.size = A at hD hE ⊢
  have hA : ∀ q : Nat, s.heap.size ≤ q → A q := fun q h => by rw [← hAe]; exact Or.inr h
  have hl := lv_entry ([.int v]) (n := 1) (Nat.le_of_ble_eq_true rfl)
  rw [lg_entry_eq]
  generalize (lg_sl ([.int v]) ++ List.replicate (1 - (lg_sl ([.int v])).length) Slot.unset).toArray = ls at hl ⊢
  have hl : lv_has ls 1 [(0, .int v)] := hl
  refine qgen (fun Q hQ => ?_)
  refine hgen (fun H locs hP hD hS => ?_) hP hD
  refine lv_iload_n hx hb dX6_checkCell_0 rfl (lv_at hl 0 rfl) ?_
  refine lv_if_lt (tgt := 10) hx hb dX6_checkCell_1 (by decide) (fun c_1 => ?_) (fun c_1 => ?_)
  · skip
    have hP9 := hP.sub (ws' := []) [] rfl
    have hD9 := hD.sub (ws' := []) [] (by decide) rfl
    subst hQ
    exact vx_throwS (own := RX6) (cls := "java/lang/IndexOutOfBoundsException") (text := "there is no such cell") (names := NMs) (ik := 250) (is := 255) (ic := 254) (sa := gS G 255) hx hb hst hown fit254 fitNM (hts _ q570) (hts _ q63) (hE.1.2.2.2.2.2.1 (RX6, 255, "there is no such cell") ST1) (atw atW254 atN254 hts hE) atG254 hE.2.2.2.2.2.2.2.1 hE.2.2.2.2.2.2.2.2.1 hS (hml.trans hl.1.symm).symm dX6_checkCell_10 dX6_checkCell_13 dX6_checkCell_14 dX6_checkCell_16 dX6_checkCell_19 (fun x9 h9 => (htab x9 h9).elim) (Nat.le_of_ble_eq_true rfl) (Nat.le_of_ble_eq_true rfl) (Nat.le_of_ble_eq_true rfl) (Nat.le_of_ble_eq_true rfl) B9.notSynchronized (thrX hP9 hD9 hS) hS.2.2 (Nat.le_of_ble_eq_true rfl) (Nat.le_of_ble_eq_true rfl)
  · skip
    refine lv_iload_n hx hb dX6_checkCell_4 rfl (lv_at hl 0 rfl) ?_
    refine lv_bipush (v := nI 16) hx hb dX6_checkCell_5 (by decide) ?_
    refine lv_icmp_lt (tgt := 20) hx hb dX6_checkCell_7 (by decide) (fun c_2 => ?_) (fun c_2 => ?_)
    · skip
      exact (cell_bad hbad c_1 c_2).elim
    · skip
      have hP9 := hP.sub (ws' := []) [] rfl
      have hD9 := hD.sub (ws' := []) [] (by decide) rfl
      subst hQ
      exact vx_throwS (own := RX6) (cls := "java/lang/IndexOutOfBoundsException") (text := "there is no such cell") (names := NMs) (ik := 250) (is := 255) (ic := 254) (sa := gS G 255) hx hb hst hown fit254 fitNM (hts _ q570) (hts _ q63) (hE.1.2.2.2.2.2.1 (RX6, 255, "there is no such cell") ST1) (atw atW254 atN254 hts hE) atG254 hE.2.2.2.2.2.2.2.1 hE.2.2.2.2.2.2.2.2.1 hS (hml.trans hl.1.symm).symm dX6_checkCell_10 dX6_checkCell_13 dX6_checkCell_14 dX6_checkCell_16 dX6_checkCell_19 (fun x9 h9 => (htab x9 h9).elim) (Nat.le_of_ble_eq_true rfl) (Nat.le_of_ble_eq_true rfl) (Nat.le_of_ble_eq_true rfl) (Nat.le_of_ble_eq_true rfl) B9.notSynchronized (thrX hP9 hD9 hS) hS.2.2 (Nat.le_of_ble_eq_true rfl) (Nat.le_of_ble_eq_true rfl)
set_option maxHeartbeats 4000000 in
set_option maxRecDepth 100000 in
theorem c_X6_checkProof (l : Launch) (G : GG) (ho : Nat) (al : Nat) (ts : Nat) (pb : Nat) (lr : Int32) (sv : Nat) (md : Int32) (hst : l.stackTraces = false) : Mx l G yX6_checkProof cX6_checkProof 1 none ({ frames := 6, cells := 1, slots := 6, locals := 82 } : Room) [.ref ho] [(ho, .inr (11, [.ref al, .ref sv, .ref ts, .ref pb, .null, .int lr])), (al, .inr (4, [.int md, .ref (gE G), .int (nI 0)]))] "java/lang/IllegalStateException" [(ho, .inr (11, [.ref al, .ref sv, .ref ts, .ref pb, .null, .int lr])), (al, .inr (4, [.int md, .ref (gE G), .int (nI 0)]))] := by
  intro sz
  refine vx_ofW (cc := cX6_checkProof) (maxL := 1) (ret := none) (by decide) rfl ?_
  intro p e s m args below meth c s₁ B9 hml htab hv
  obtain ⟨rfl, hsz, hP, hK, hD0, hE⟩ := hv
  have hx := B9.exec
  have hb := B9.bytes
  have hr := B9.returns
  have hts : ∀ w ∈ WW, w.before ([.ref ho] : List Value).toArray s = true := fun w h => atoms_spec (ws := .code yX6_checkProof cX6_checkProof 1 none :: WW) B9.pre w (List.mem_cons_of_mem _ h)
  have hown : s.vm.findClass RX6 = some m.cls := findClass_of_methodNamed B9.named
  subst hsz
  have hD := hD0.self (sz := s.heap.size)
  generalize hAe : va_A [(ho, .inr (11, [.ref al, .ref sv, .ref ts, .ref pb, .null, .int lr])), (al, .inr (4, [.int md, .ref (gE G), .int (nI 0)]))] s.heap.size = A at hD hE ⊢
  have hA : ∀ q : Nat, s.heap.size ≤ q → A q := fun q h => by rw [← hAe]; exact Or.inr h
  have hl := lv_entry ([.ref ho]) (n := 1) (Nat.le_of_ble_eq_true rfl)
  rw [lg_entry_eq]
  generalize (lg_sl ([.ref ho]) ++ List.replicate (1 - (lg_sl ([.ref ho])).length) Slot.unset).toArray = ls at hl ⊢
  have hl : lv_has ls 1 [(0, .ref ho)] := hl
  refine qgen (fun Q hQ => ?_)
  refine hgen (fun H locs hP hD hS => ?_) hP hD
  refine lv_aload_n hx hb dX6_checkProof_0 rfl (lv_at hl 0 rfl) ?_
  refine va_get (D := gD G) (ci := 11) (v := .null) (C := RX6) (T := TX6) (N := 6) hx hb hts fwX6 hown hK hP 0 rfl rfl 4 (by decide) (hts _ q185) (fun _ h9 => h9) rfl dX6_checkProof_1 ?_
  refine lv_ifnonnullN hx hb dX6_checkProof_4 ?_
  have hP9 := hP.sub (ws' := [(ho, .inr (11, [.ref al, .ref sv, .ref ts, .ref pb, .null, .int lr])), (al, .inr (4, [.int md, .ref (gE G), .int (nI 0)]))]) [0, 1] rfl
  have hD9 := hD.sub (ws' := [(ho, .inr (11, [.ref al, .ref sv, .ref ts, .ref pb, .null, .int lr])), (al, .inr (4, [.int md, .ref (gE G), .int (nI 0)]))]) [0, 1] (by decide) rfl
  subst hQ
  exact vx_throwS (own := RX6) (cls := "java/lang/IllegalStateException") (text := "no proof was begun") (names := NMs) (ik := 49) (is := 183) (ic := 53) (sa := gS G 183) hx hb hst hown fit53 fitNM (hts _ q357) (hts _ q56) (hE.1.2.2.2.2.2.1 (RX6, 183, "no proof was begun") ST2) (atw atW53 atN53 hts hE) atG53 hE.2.2.2.2.2.2.2.1 hE.2.2.2.2.2.2.2.2.1 hS (hml.trans hl.1.symm).symm dX6_checkProof_7 dX6_checkProof_10 dX6_checkProof_11 dX6_checkProof_13 dX6_checkProof_16 (fun x9 h9 => (htab x9 h9).elim) (Nat.le_of_ble_eq_true rfl) (Nat.le_of_ble_eq_true rfl) (Nat.le_of_ble_eq_true rfl) (Nat.le_of_ble_eq_true rfl) B9.notSynchronized (thrX hP9 hD9 hS) hS.2.2 (Nat.le_of_ble_eq_true rfl) (Nat.le_of_ble_eq_true rfl)
