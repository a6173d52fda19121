theorem q80 : (Jvm.Cond.classLink "PegboardryLaw" (8 : Nat) "Pegboardry") ∈ WW := inW 80 (by decide +kernel) rfl
theorem q81 : (Jvm.Cond.instantiable "Pegboardry" (6 : Nat)) ∈ WW := inW 81 (by decide +kernel) rfl
theorem q82 : (Jvm.Cond.methodLink "PegboardryLaw" (103 : Nat) ({ cls := "Pegboardry", name := "<init>", desc := "()V" } : Jvm.MethodName)) ∈ WW := inW 82 (by decide +kernel) rfl
theorem q83 : (Jvm.Cond.instanceMethod ({ cls := "Pegboardry", name := "<init>", desc := "()V" } : Jvm.MethodName)) ∈ WW := inW 83 (by decide +kernel) rfl
theorem q84 : (Jvm.Cond.code ({ cls := "Pegboardry", name := "<init>", desc := "()V" } : Jvm.MethodName) prog_1_method_1_code (1 : Nat) (Option.none : Option Jvm.ClassFile.FieldType)) ∈ WW := inW 84 (by decide +kernel) rfl
theorem q919 : (Jvm.Cond.classLink "PegboardryLaw" (104 : Nat) "PegboardryModel") ∈ WW := inW 919 (by decide +kernel) rfl
theorem q920 : (Jvm.Cond.instantiable "PegboardryModel" (6 : Nat)) ∈ WW := inW 920 (by decide +kernel) rfl
theorem q921 : (Jvm.Cond.methodLink "PegboardryLaw" (106 : Nat) ({ cls := "PegboardryModel", name := "<init>", desc := "()V" } : Jvm.MethodName)) ∈ WW := inW 921 (by decide +kernel) rfl
theorem q922 : (Jvm.Cond.instanceMethod ({ cls := "PegboardryModel", name := "<init>", desc := "()V" } : Jvm.MethodName)) ∈ WW := inW 922 (by decide +kernel) rfl
theorem q923 : (Jvm.Cond.code ({ cls := "PegboardryModel", name := "<init>", desc := "()V" } : Jvm.MethodName) prog_9_method_1_code (1 : Nat) (Option.none : Option Jvm.ClassFile.FieldType)) ∈ WW := inW 923 (by decide +kernel) rfl
theorem q1374 : (Jvm.Cond.arrayClass Jvm.ClassFile.FieldType.long) ∈ WW := inW 1374 (by decide +kernel) rfl
theorem q1375 : (Jvm.Cond.arrayClass Jvm.ClassFile.FieldType.double) ∈ WW := inW 1375 (by decide +kernel) rfl
theorem dL_law_0 : decode cL_law 0 = .ok (.new 8, 3) := by decide +kernel
theorem dL_law_3 : decode cL_law 3 = .ok (.dup, 1) := by decide +kernel
theorem dL_law_4 : decode cL_law 4 = .ok (.invokespecial 103, 3) := by decide +kernel
theorem dL_law_7 : decode cL_law 7 = .ok (.astore_n 1, 1) := by decide +kernel
theorem dL_law_8 : decode cL_law 8 = .ok (.new 104, 3) := by decide +kernel
theorem dL_law_11 : decode cL_law 11 = .ok (.dup, 1) := by decide +kernel
theorem dL_law_12 : decode cL_law 12 = .ok (.invokespecial 106, 3) := by decide +kernel
theorem dL_law_15 : decode cL_law 15 = .ok (.astore_n 2, 1) := by decide +kernel
theorem dL_law_16 : decode cL_law 16 = .ok (.iconst 1, 1) := by decide +kernel
theorem dL_law_17 : decode cL_law 17 = .ok (.newarray .long, 2) := by decide +kernel
theorem dL_law_19 : decode cL_law 19 = .ok (.astore_n 3, 1) := by decide +kernel
theorem dL_law_20 : decode cL_law 20 = .ok (.iconst 1, 1) := by decide +kernel
theorem dL_law_21 : decode cL_law 21 = .ok (.newarray .double, 2) := by decide +kernel
theorem dL_law_23 : decode cL_law 23 = .ok (.astore 4, 2) := by decide +kernel
theorem dL_law_25 : decode cL_law 25 = .ok (.iconst 0, 1) := by decide +kernel
theorem dL_law_26 : decode cL_law 26 = .ok (.istore 5, 2) := by decide +kernel
theorem dL_law_37 : decode cL_law 37 = .ok (.aload_n 0, 1) := by decide +kernel
theorem dL_law_38 : decode cL_law 38 = .ok (.iload 5, 2) := by decide +kernel
theorem dL_law_40 : decode cL_law 40 = .ok (.iaload, 1) := by decide +kernel
theorem dL_law_41 : decode cL_law 41 = .ok (.bipush 31, 2) := by decide +kernel
theorem dL_law_43 : decode cL_law 43 = .ok (.iand, 1) := by decide +kernel
theorem dL_law_44 : decode cL_law 44 = .ok (.tableswitch 1692 0 26 #[124, 168, 248, 328, 396, 464, 520, 576, 644, 700, 756, 824, 880, 943, 1018, 1074, 1154, 1167, 1223, 1274, 1354, 1422, 1478, 1534, 1548, 1614, 1679], 124) := by decide +kernel
theorem and31 (x : Int32) : ∃ k : Nat, k < 32 ∧ x &&& nI 31 = nI k := by
  refine ⟨(x.toBitVec &&& 31#32).toNat, ?_, ?_⟩
  · rw [BitVec.toNat_and]
    exact Nat.lt_of_le_of_lt Nat.and_le_right (by decide)
  · apply Int32.toBitVec_inj.mp
    show x.toBitVec &&& 31#32 = BitVec.ofNat 32 _
    rw [BitVec.ofNat_toNat, BitVec.setWidth_eq]
theorem cls_i (v : Int32) (lo hi : Nat) (hlo : lo ≤ hi) (hhi : hi < 2 ^ 31) : (∃ n : Nat, lo ≤ n ∧ n ≤ hi ∧ v = nI n) ∨ (v < nI lo ∨ nI hi < v) := by
  by_cases h1 : v < nI lo
  · exact Or.inr (Or.inl h1)
  · by_cases h2 : nI hi < v
    · exact Or.inr (Or.inr h2)
    · rw [Int32.lt_iff_toInt_lt, nI_ti (by omega)] at h1 h2
      refine Or.inl ⟨v.toInt.toNat, by omega, by omega, ?_⟩
      apply Int32.toInt_inj.mp
      rw [nI_ti (by omega)]
      omega
theorem st_off {l : Launch} (h : l.flags = flags0) : l.stackTraces = false := by
  unfold Launch.stackTraces
  rw [h]
  decide
set_option maxHeartbeats 4000000 in
set_option maxRecDepth 100000 in
theorem whole_start {p : Program} {e : Env} {s : State} {m : MethodId} {below : List Frame} {meth : Method} {c : Code} (l : Launch) (hflags : l.flags = flags0) {scr L : Nat} {xs : Nat → Int32} (hL : L ≤ 4) (C0 : lw_At p s m meth c scr L xs) : W p l e room_1 s m #[Value.ref scr] below meth c s.heap [] 0 0 (lw_Z below #[Value.ref scr] s) (entryFrame m ([Value.ref scr] : List Value).toArray 9) := by
  have hst := st_off hflags
  have C1 := C0
  obtain ⟨hx, hb, hr, hml, hown, hts0, hX, hbl, hlocks, hgv⟩ := C0
  have hown : s.vm.findClass "PegboardryLaw" = some m.cls := hown
  have hts : ∀ w ∈ WW, w.before #[Value.ref scr] s = true := fun w hw => hts0 w (List.mem_filter.mp hw).1
  obtain ⟨G, hK, hE0⟩ := ev_start hts0 hgv
  obtain ⟨A, hAe⟩ : ∃ A : Nat → Prop, A = (fun q : Nat => s.heap.size ≤ q) := ⟨_, rfl⟩
  have hE : EV G A s s.heap := by rw [hAe]; exact hE0
  have hA : ∀ q : Nat, s.heap.size ≤ q → A q := fun q h => by rw [hAe]; exact h
  have hA2 : ∀ q : Nat, A q → s.heap.size ≤ q := fun q h => by rw [hAe] at h; exact h
  have hbA : ¬ A scr := fun z => Nat.not_le.mpr hbl (hA2 _ z)
  have hl := lv_entry ([Value.ref scr]) (n := 9) (Nat.le_of_ble_eq_true rfl)
  rw [lg_entry_eq]
  generalize (lg_sl ([Value.ref scr]) ++ List.replicate (9 - (lg_sl ([Value.ref scr])).length) Slot.unset).toArray = ls at hl ⊢
  have hl : lv_has ls 9 [(0, .ref scr)] := hl
  have hP0 : va_P (gD G) vwCl [] s.heap := fun k q h => by simp at h
  have hD0 : va_D A [] := ⟨fun i j x y h => by simp at h, fun k q h => by simp at h⟩
  refine hgen (fun H locs hP hD hS => ?_) hP0 hD0
  refine va_new (D := gD G) (ci := 11) (fs := [.null, .null, .null, .null, .null, .int 0]) (C := RX6) (T := TX6) (N := 6) hx hb hts fwX6 tyX6 tyX6_ok hown (hts _ q80) (hts _ q81) (hts _ q45) hK hP hD hS hA rfl (fun j hj => by rcases (show j = 0 ∨ j = 1 ∨ j = 2 ∨ j = 3 ∨ j = 4 ∨ j = 5 by omega) with rfl | rfl | rfl | rfl | rfl | rfl <;> rfl) (Nat.le_of_ble_eq_true rfl) (Nat.le_of_ble_eq_true rfl) dL_law_0 (fun q_1 H hP hD hS => ?_)
  have hP : va_P (gD G) vwCl [(q_1, .inr (11, [.null, .null, .null, .null, .null, .int (nI 0)]))] H := hP
  have hD : va_D A [(q_1, .inr (11, [.null, .null, .null, .null, .null, .int (nI 0)]))] := hD
  refine lv_dup hx hb dL_law_3 rfl ?_
  refine fin_v hP hD hS hA [0] [] (wr := []) rfl rfl (by decide) (by decide) (va_runI (As := []) (rest := [.ref q_1]) ⟨hx, hb, hml, hown, hts⟩ (c_X6_init l G q_1 H.size) (cwI 0 hts (gI q84) rfl rfl rfl (hts _ q45) (hts _ q82) (hts _ q83) rfl (by decide +kernel) ⟨Nat.le_of_ble_eq_true rfl, Nat.le_of_ble_eq_true rfl⟩) (preS hK hE hP hD hS hA [0] rfl (by decide)) rfl rfl hl.1 rfl (lv_room (Nat.le_of_ble_eq_true rfl)) dL_law_4 ⟨Nat.le_of_ble_eq_true rfl, Nat.le_of_ble_eq_true rfl⟩) (fun u9 hw_13 H locs hP hD hS => ?_)
  obtain ⟨al_2, ts_3, pb_4, sv_5, b_6, mm_7, sr_8, se_9, f_10, g_11, hh_12⟩ := u9
  have hP : va_P (gD G) vwCl [(q_1, .inr (11, [.ref al_2, .ref sv_5, .ref ts_3, .ref pb_4, .null, .int (nI 0)])), (al_2, .inr (4, [.int (nI 0), .ref (gE G), .int (nI 0)])), (sv_5, .inr (10, [.ref b_6, .ref sr_8, .ref se_9, .int (nI 0), .int (nI 0), .int (nI 110)])), (b_6, .inr (5, [.ref mm_7])), (mm_7, .inl (gyI G, 16, .inl f_10)), (sr_8, .inl (gyI G, 64, .inl g_11)), (se_9, .inl (gyI G, 16, .inl hh_12))] H := hP
  have hD : va_D A [(q_1, .inr (11, [.ref al_2, .ref sv_5, .ref ts_3, .ref pb_4, .null, .int (nI 0)])), (al_2, .inr (4, [.int (nI 0), .ref (gE G), .int (nI 0)])), (sv_5, .inr (10, [.ref b_6, .ref sr_8, .ref se_9, .int (nI 0), .int (nI 0), .int (nI 110)])), (b_6, .inr (5, [.ref mm_7])), (mm_7, .inl (gyI G, 16, .inl f_10)), (sr_8, .inl (gyI G, 64, .inl g_11)), (se_9, .inl (gyI G, 16, .inl hh_12))] := hD
  refine lv_astore_n (lv' := [(1, .ref q_1), (0, .ref scr)]) hx hb dL_law_7 rfl hl (by decide) rfl (fun ls hl => ?_)
  refine va_new (D := gD G) (ci := 15) (fs := [.int 0, .null, .long 0, .null, .null, .int 0]) (C := RX10) (T := TX10) (N := 6) hx hb hts fwX10 tyX10 tyX10_ok hown (hts _ q919) (hts _ q920) (hts _ q52) hK hP hD hS hA rfl (fun j hj => by rcases (show j = 0 ∨ j = 1 ∨ j = 2 ∨ j = 3 ∨ j = 4 ∨ j = 5 by omega) with rfl | rfl | rfl | rfl | rfl | rfl <;> rfl) (Nat.le_of_ble_eq_true rfl) (Nat.le_of_ble_eq_true rfl) dL_law_8 (fun q_15 H hP hD hS => ?_)
  have hP : va_P (gD G) vwCl [(q_1, .inr (11, [.ref al_2, .ref sv_5, .ref ts_3, .ref pb_4, .null, .int (nI 0)])), (al_2, .inr (4, [.int (nI 0), .ref (gE G), .int (nI 0)])), (sv_5, .inr (10, [.ref b_6, .ref sr_8, .ref se_9, .int (nI 0), .int (nI 0), .int (nI 110)])), (b_6, .inr (5, [.ref mm_7])), (mm_7, .inl (gyI G, 16, .inl f_10)), (sr_8, .inl (gyI G, 64, .inl g_11)), (se_9, .inl (gyI G, 16, .inl hh_12)), (q_15, .inr (15, [.int (nI 0), .null, .long (lN 0), .null, .null, .int (nI 0)]))] H := hP
  have hD : va_D A [(q_1, .inr (11, [.ref al_2, .ref sv_5, .ref ts_3, .ref pb_4, .null, .int (nI 0)])), (al_2, .inr (4, [.int (nI 0), .ref (gE G), .int (nI 0)])), (sv_5, .inr (10, [.ref b_6, .ref sr_8, .ref se_9, .int (nI 0), .int (nI 0), .int (nI 110)])), (b_6, .inr (5, [.ref mm_7])), (mm_7, .inl (gyI G, 16, .inl f_10)), (sr_8, .inl (gyI G, 64, .inl g_11)), (se_9, .inl (gyI G, 16, .inl hh_12)), (q_15, .inr (15, [.int (nI 0), .null, .long (lN 0), .null, .null, .int (nI 0)]))] := hD
  refine lv_dup hx hb dL_law_11 rfl ?_
  refine fin_v hP hD hS hA [7] [0, 1, 2, 3, 4, 5, 6] (wr := [(q_1, .inr (11, [.ref al_2, .ref sv_5, .ref ts_3, .ref pb_4, .null, .int (nI 0)])), (al_2, .inr (4, [.int (nI 0), .ref (gE G), .int (nI 0)])), (sv_5, .inr (10, [.ref b_6, .ref sr_8, .ref se_9, .int (nI 0), .int (nI 0), .int (nI 110)])), (b_6, .inr (5, [.ref mm_7])), (mm_7, .inl (gyI G, 16, .inl f_10)), (sr_8, .inl (gyI G, 64, .inl g_11)), (se_9, .inl (gyI G, 16, .inl hh_12))]) rfl rfl (by decide) (by decide) (va_runI (As := []) (rest := [.ref q_15]) ⟨hx, hb, hml, hown, hts⟩ (c_X10_init l G q_15 H.size) (cwI 0 hts (gI q923) rfl rfl rfl (hts _ q52) (hts _ q921) (hts _ q922) rfl (by decide +kernel) ⟨Nat.le_of_ble_eq_true rfl, Nat.le_of_ble_eq_true rfl⟩) (preS hK hE hP hD hS hA [7] rfl (by decide)) rfl rfl hl.1 rfl (lv_room (Nat.le_of_ble_eq_true rfl)) dL_law_12 ⟨Nat.le_of_ble_eq_true rfl, Nat.le_of_ble_eq_true rfl⟩) (fun u9 hw_19 H locs hP hD hS => ?_)
  obtain ⟨al_16, pf_17, f_18⟩ := u9
  have hP : va_P (gD G) vwCl [(q_1, .inr (11, [.ref al_2, .ref sv_5, .ref ts_3, .ref pb_4, .null, .int (nI 0)])), (al_2, .inr (4, [.int (nI 0), .ref (gE G), .int (nI 0)])), (sv_5, .inr (10, [.ref b_6, .ref sr_8, .ref se_9, .int (nI 0), .int (nI 0), .int (nI 110)])), (b_6, .inr (5, [.ref mm_7])), (mm_7, .inl (gyI G, 16, .inl f_10)), (sr_8, .inl (gyI G, 64, .inl g_11)), (se_9, .inl (gyI G, 16, .inl hh_12)), (q_15, .inr (15, [.int (nI 0), .ref al_16, .long (lN 0), .null, .ref pf_17, .int (nI 0)])), (al_16, .inr (4, [.int (nI 0), .ref (gE G), .int (nI 0)])), (pf_17, .inl (gyI G, 16, .inl f_18))] H := hP
  have hD : va_D A [(q_1, .inr (11, [.ref al_2, .ref sv_5, .ref ts_3, .ref pb_4, .null, .int (nI 0)])), (al_2, .inr (4, [.int (nI 0), .ref (gE G), .int (nI 0)])), (sv_5, .inr (10, [.ref b_6, .ref sr_8, .ref se_9, .int (nI 0), .int (nI 0), .int (nI 110)])), (b_6, .inr (5, [.ref mm_7])), (mm_7, .inl (gyI G, 16, .inl f_10)), (sr_8, .inl (gyI G, 64, .inl g_11)), (se_9, .inl (gyI G, 16, .inl hh_12)), (q_15, .inr (15, [.int (nI 0), .ref al_16, .long (lN 0), .null, .ref pf_17, .int (nI 0)])), (al_16, .inr (4, [.int (nI 0), .ref (gE G), .int (nI 0)])), (pf_17, .inl (gyI G, 16, .inl f_18))] := hD
  refine lv_astore_n (lv' := [(2, .ref q_15), (1, .ref q_1), (0, .ref scr)]) hx hb dL_law_15 rfl hl (by decide) rfl (fun ls hl => ?_)
  refine lv_iconst (v := nI 1) hx hb dL_law_16 (by decide) ?_
  refine va_newa (D := gD G) (atype := .long) (ty := .long) (a0 := (1, .inr (.inl (fun _ => 0)))) hx hb (hts _ q1374) rfl hK hP hD hS hA (fun _ => rfl) (nI_pos (by omega)) (nI_clamp (by omega)) (Nat.le_of_ble_eq_true rfl) (Nat.le_of_ble_eq_true rfl) (Nat.le_of_ble_eq_true rfl) dL_law_17 (fun q_21 cA_22 H hKn hP hD hS => ?_)
  obtain rfl := ty_one_L hK hKn
  have hP : va_P (gD G) vwCl [(q_1, .inr (11, [.ref al_2, .ref sv_5, .ref ts_3, .ref pb_4, .null, .int (nI 0)])), (al_2, .inr (4, [.int (nI 0), .ref (gE G), .int (nI 0)])), (sv_5, .inr (10, [.ref b_6, .ref sr_8, .ref se_9, .int (nI 0), .int (nI 0), .int (nI 110)])), (b_6, .inr (5, [.ref mm_7])), (mm_7, .inl (gyI G, 16, .inl f_10)), (sr_8, .inl (gyI G, 64, .inl g_11)), (se_9, .inl (gyI G, 16, .inl hh_12)), (q_15, .inr (15, [.int (nI 0), .ref al_16, .long (lN 0), .null, .ref pf_17, .int (nI 0)])), (al_16, .inr (4, [.int (nI 0), .ref (gE G), .int (nI 0)])), (pf_17, .inl (gyI G, 16, .inl f_18)), (q_21, .inl (gyL G, 1, .inr (.inl (fun _ => 0))))] H := hP
  have hD : va_D A [(q_1, .inr (11, [.ref al_2, .ref sv_5, .ref ts_3, .ref pb_4, .null, .int (nI 0)])), (al_2, .inr (4, [.int (nI 0), .ref (gE G), .int (nI 0)])), (sv_5, .inr (10, [.ref b_6, .ref sr_8, .ref se_9, .int (nI 0), .int (nI 0), .int (nI 110)])), (b_6, .inr (5, [.ref mm_7])), (mm_7, .inl (gyI G, 16, .inl f_10)), (sr_8, .inl (gyI G, 64, .inl g_11)), (se_9, .inl (gyI G, 16, .inl hh_12)), (q_15, .inr (15, [.int (nI 0), .ref al_16, .long (lN 0), .null, .ref pf_17, .int (nI 0)])), (al_16, .inr (4, [.int (nI 0), .ref (gE G), .int (nI 0)])), (pf_17, .inl (gyI G, 16, .inl f_18)), (q_21, .inl (gyL G, 1, .inr (.inl (fun _ => 0))))] := hD
  refine lv_astore_n (lv' := [(3, .ref q_21), (2, .ref q_15), (1, .ref q_1), (0, .ref scr)]) hx hb dL_law_19 rfl hl (by decide) rfl (fun ls hl => ?_)
  refine lv_iconst (v := nI 1) hx hb dL_law_20 (by decide) ?_
  refine va_newa (D := gD G) (atype := .double) (ty := .double) (a0 := (1, .inr (.inr (.inr (.inl (fun _ => 0)))))) hx hb (hts _ q1375) rfl hK hP hD hS hA (fun _ => rfl) (nI_pos (by omega)) (nI_clamp (by omega)) (Nat.le_of_ble_eq_true rfl) (Nat.le_of_ble_eq_true rfl) (Nat.le_of_ble_eq_true rfl) dL_law_21 (fun q_23 cA_24 H hKn hP hD hS => ?_)
  obtain rfl := ty_one_D hK hKn
  have hP : va_P (gD G) vwCl [(q_1, .inr (11, [.ref al_2, .ref sv_5, .ref ts_3, .ref pb_4, .null, .int (nI 0)])), (al_2, .inr (4, [.int (nI 0), .ref (gE G), .int (nI 0)])), (sv_5, .inr (10, [.ref b_6, .ref sr_8, .ref se_9, .int (nI 0), .int (nI 0), .int (nI 110)])), (b_6, .inr (5, [.ref mm_7])), (mm_7, .inl (gyI G, 16, .inl f_10)), (sr_8, .inl (gyI G, 64, .inl g_11)), (se_9, .inl (gyI G, 16, .inl hh_12)), (q_15, .inr (15, [.int (nI 0), .ref al_16, .long (lN 0), .null, .ref pf_17, .int (nI 0)])), (al_16, .inr (4, [.int (nI 0), .ref (gE G), .int (nI 0)])), (pf_17, .inl (gyI G, 16, .inl f_18)), (q_21, .inl (gyL G, 1, .inr (.inl (fun _ => 0)))), (q_23, .inl (gyD G, 1, .inr (.inr (.inr (.inl (fun _ => 0))))))] H := hP
  have hD : va_D A [(q_1, .inr (11, [.ref al_2, .ref sv_5, .ref ts_3, .ref pb_4, .null, .int (nI 0)])), (al_2, .inr (4, [.int (nI 0), .ref (gE G), .int (nI 0)])), (sv_5, .inr (10, [.ref b_6, .ref sr_8, .ref se_9, .int (nI 0), .int (nI 0), .int (nI 110)])), (b_6, .inr (5, [.ref mm_7])), (mm_7, .inl (gyI G, 16, .inl f_10)), (sr_8, .inl (gyI G, 64, .inl g_11)), (se_9, .inl (gyI G, 16, .inl hh_12)), (q_15, .inr (15, [.int (nI 0), .ref al_16, .long (lN 0), .null, .ref pf_17, .int (nI 0)])), (al_16, .inr (4, [.int (nI 0), .ref (gE G), .int (nI 0)])), (pf_17, .inl (gyI G, 16, .inl f_18)), (q_21, .inl (gyL G, 1, .inr (.inl (fun _ => 0)))), (q_23, .inl (gyD G, 1, .inr (.inr (.inr (.inl (fun _ => 0))))))] := hD
  refine lv_astore (lv' := [(4, .ref q_23), (3, .ref q_21), (2, .ref q_15), (1, .ref q_1), (0, .ref scr)]) hx hb dL_law_23 hl (by decide) rfl (fun ls hl => ?_)
  refine lv_iconst (v := nI 0) hx hb dL_law_25 (by decide) ?_
  refine lv_istore (lv' := [(5, .int (nI 0)), (4, .ref q_23), (3, .ref q_21), (2, .ref q_15), (1, .ref q_1), (0, .ref scr)]) hx hb dL_law_26 hl (by decide) rfl (fun ls hl => ?_)
  rcases (show L = 4 ∨ L = 0 ∨ L = 1 ∨ L = 2 ∨ L = 3 by omega) with rfl | rfl | rfl | rfl | rfl
  · skip
    refine lv_iload hx hb dL_law_28 (lv_at hl 0 rfl) ?_
    refine lv_aload_n hx hb dL_law_30 rfl (lv_at hl 5 rfl) ?_
    refine va_slen hx hb hX hbl hbA hS dL_law_31 ?_
    refine lv_toe (show Int32.ofNat 4 = nI 4 from rfl) ?_
    refine lv_iconst (v := nI 4) hx hb dL_law_32 (by decide) ?_
    refine lv_isub hx hb dL_law_33 ?_
    refine lv_toe (show _ = nI 0 by decide) ?_
    refine lv_icmp_gt (tgt := 1742) hx hb dL_law_34 (by decide) (fun c_25 => ?_) (fun c_25 => ?_)
    · skip
      have c_25 : 0 < 0 := (nI_ltI (a := 0) (b := 0) (by omega) (by omega)).mp c_25
      exact absurd c_25 (by decide)
    · skip
      have c_25 : ¬ 0 < 0 := fun z => c_25 ((nI_ltI (a := 0) (b := 0) (by omega) (by omega)).mpr z)
      refine lv_aload_n hx hb dL_law_37 rfl (lv_at hl 5 rfl) ?_
      refine lv_iload hx hb dL_law_38 (lv_at hl 0 rfl) ?_
      refine va_sld hx hb hX hbl hbA hS (vp_in_nI (n := 0) (N := 4) (by omega) (by omega)) dL_law_40 ?_
      refine lv_toe (show xs (nI (0)).toNatClampNeg = xs 0 by rw [nI_clamp (by omega)]) ?_
      refine lv_bipush (v := nI 31) hx hb dL_law_41 (by decide) ?_
      refine lv_iand hx hb dL_law_43 ?_
      obtain ⟨k9, hk9, e9⟩ := and31 (xs 0)
      refine lv_toe e9 ?_
      rcases (show k9 = 0 ∨ k9 = 1 ∨ k9 = 2 ∨ k9 = 3 ∨ k9 = 4 ∨ k9 = 5 ∨ k9 = 6 ∨ k9 = 7 ∨ k9 = 8 ∨ k9 = 9 ∨ k9 = 10 ∨ k9 = 11 ∨ k9 = 12 ∨ k9 = 13 ∨ k9 = 14 ∨ k9 = 15 ∨ k9 = 16 ∨ k9 = 17 ∨ k9 = 18 ∨ k9 = 19 ∨ k9 = 20 ∨ k9 = 21 ∨ k9 = 22 ∨ k9 = 23 ∨ k9 = 24 ∨ k9 = 25 ∨ k9 = 26 ∨ k9 = 27 ∨ k9 = 28 ∨ k9 = 29 ∨ k9 = 30 ∨ k9 = 31 by omega) with rfl | rfl | rfl | rfl | rfl | rfl | rfl | rfl | rfl | rfl | rfl | rfl | rfl | rfl | rfl | rfl | rfl | rfl | rfl | rfl | rfl | rfl | rfl | rfl | rfl | rfl | rfl | rfl | rfl | rfl | rfl | rfl
      · skip
        refine lv_tableIn (off := 124) (tgt := 168) hx hb dL_law_44 (by decide) (by decide) (by decide) (by decide) ?_
        exact law_puzzle l hst C1 G A hA hA2 hK hE q_1 al_2 ts_3 pb_4 sv_5 b_6 mm_7 sr_8 se_9 q_15 al_16 pf_17 q_21 q_23 f_10 g_11 hh_12 f_18 H locs (hP.sub [0, 1, 2, 3, 4, 5, 6, 7, 8, 9, 10, 11] rfl) (hD.sub [0, 1, 2, 3, 4, 5, 6, 7, 8, 9, 10, 11] (by decide) rfl) hS ls (lv_sub hl [5, 4, 3, 2, 1, 0] rfl)
      · skip
        refine lv_tableIn (off := 168) (tgt := 212) hx hb dL_law_44 (by decide) (by decide) (by decide) (by decide) ?_
        exact law_give l hst C1 G A hA hA2 hK hE q_1 al_2 ts_3 pb_4 sv_5 b_6 mm_7 sr_8 se_9 q_15 al_16 pf_17 q_21 q_23 f_10 g_11 hh_12 f_18 H locs (hP.sub [0, 1, 2, 3, 4, 5, 6, 7, 8, 9, 10, 11] rfl) (hD.sub [0, 1, 2, 3, 4, 5, 6, 7, 8, 9, 10, 11] (by decide) rfl) hS ls (lv_sub hl [5, 4, 3, 2, 1, 0] rfl)
      · skip
        refine lv_tableIn (off := 248) (tgt := 292) hx hb dL_law_44 (by decide) (by decide) (by decide) (by decide) ?_
        exact law_addCage l hst C1 G A hA hA2 hK hE q_1 al_2 ts_3 pb_4 sv_5 b_6 mm_7 sr_8 se_9 q_15 al_16 pf_17 q_21 q_23 f_10 g_11 hh_12 f_18 H locs (hP.sub [0, 1, 2, 3, 4, 5, 6, 7, 8, 9, 10, 11] rfl) (hD.sub [0, 1, 2, 3, 4, 5, 6, 7, 8, 9, 10, 11] (by decide) rfl) hS ls (lv_sub hl [5, 4, 3, 2, 1, 0] rfl)
      · skip
        refine lv_tableIn (off := 328) (tgt := 372) hx hb dL_law_44 (by decide) (by decide) (by decide) (by decide) ?_
        rcases cls_i (xs 1) 0 9999 (by decide) (by decide) with ⟨sd, -, hsd, hv1⟩ | hbad
        · rcases cls_i (xs 2) 1 3 (by decide) (by decide) with ⟨hi, hh1, hh2, hv2⟩ | hbad
          · exact law_make_ok l hst C1 G A hA hA2 hK hE q_1 al_2 ts_3 pb_4 sv_5 b_6 mm_7 sr_8 se_9 q_15 al_16 pf_17 q_21 q_23 f_10 g_11 hh_12 f_18 sd hi hsd hh1 hh2 hv1 hv2 H locs (hP.sub [0, 1, 2, 3, 4, 5, 6, 7, 8, 9, 10, 11] rfl) (hD.sub [0, 1, 2, 3, 4, 5, 6, 7, 8, 9, 10, 11] (by decide) rfl) hS ls (lv_sub hl [5, 4, 3, 2, 1, 0] rfl)
          · exact law_make_1b l hst C1 G A hA hA2 hK hE q_1 al_2 ts_3 pb_4 sv_5 b_6 mm_7 sr_8 se_9 q_15 al_16 pf_17 q_21 q_23 f_10 g_11 hh_12 f_18 sd hsd hv1 hbad H locs (hP.sub [0, 1, 2, 3, 4, 5, 6, 7, 8, 9, 10, 11] rfl) (hD.sub [0, 1, 2, 3, 4, 5, 6, 7, 8, 9, 10, 11] (by decide) rfl) hS ls (lv_sub hl [5, 4, 3, 2, 1, 0] rfl)
        · exact law_make_1a l hst C1 G A hA hA2 hK hE q_1 al_2 ts_3 pb_4 sv_5 b_6 mm_7 sr_8 se_9 q_15 al_16 pf_17 q_21 q_23 f_10 g_11 hh_12 f_18 hbad H locs (hP.sub [0, 1, 2, 3, 4, 5, 6, 7, 8, 9, 10, 11] rfl) (hD.sub [0, 1, 2, 3, 4, 5, 6, 7, 8, 9, 10, 11] (by decide) rfl) hS ls (lv_sub hl [5, 4, 3, 2, 1, 0] rfl)
      · skip
        refine lv_tableIn (off := 396) (tgt := 440) hx hb dL_law_44 (by decide) (by decide) (by decide) (by decide) ?_
        exact law_given l hst C1 G A hA hA2 hK hE q_1 al_2 ts_3 pb_4 sv_5 b_6 mm_7 sr_8 se_9 q_15 al_16 pf_17 q_21 q_23 f_10 g_11 hh_12 f_18 H locs (hP.sub [0, 1, 2, 3, 4, 5, 6, 7, 8, 9, 10, 11] rfl) (hD.sub [0, 1, 2, 3, 4, 5, 6, 7, 8, 9, 10, 11] (by decide) rfl) hS ls (lv_sub hl [5, 4, 3, 2, 1, 0] rfl)
      · skip
        refine lv_tableIn (off := 464) (tgt := 508) hx hb dL_law_44 (by decide) (by decide) (by decide) (by decide) ?_
        exact law_givens l hst C1 G A hA hA2 hK hE q_1 al_2 ts_3 pb_4 sv_5 b_6 mm_7 sr_8 se_9 q_15 al_16 pf_17 q_21 q_23 f_10 g_11 hh_12 f_18 H locs (hP.sub [0, 1, 2, 3, 4, 5, 6, 7, 8, 9, 10, 11] rfl) (hD.sub [0, 1, 2, 3, 4, 5, 6, 7, 8, 9, 10, 11] (by decide) rfl) hS ls (lv_sub hl [5, 4, 3, 2, 1, 0] rfl)
      · skip
        refine lv_tableIn (off := 520) (tgt := 564) hx hb dL_law_44 (by decide) (by decide) (by decide) (by decide) ?_
        exact law_solutions l hst C1 G A hA hA2 hK hE q_1 al_2 ts_3 pb_4 sv_5 b_6 mm_7 sr_8 se_9 q_15 al_16 pf_17 q_21 q_23 f_10 g_11 hh_12 f_18 H locs (hP.sub [0, 1, 2, 3, 4, 5, 6, 7, 8, 9, 10, 11] rfl) (hD.sub [0, 1, 2, 3, 4, 5, 6, 7, 8, 9, 10, 11] (by decide) rfl) hS ls (lv_sub hl [5, 4, 3, 2, 1, 0] rfl)
      · skip
        refine lv_tableIn (off := 576) (tgt := 620) hx hb dL_law_44 (by decide) (by decide) (by decide) (by decide) ?_
        exact law_solution l hst C1 G A hA hA2 hK hE q_1 al_2 ts_3 pb_4 sv_5 b_6 mm_7 sr_8 se_9 q_15 al_16 pf_17 q_21 q_23 f_10 g_11 hh_12 f_18 H locs (hP.sub [0, 1, 2, 3, 4, 5, 6, 7, 8, 9, 10, 11] rfl) (hD.sub [0, 1, 2, 3, 4, 5, 6, 7, 8, 9, 10, 11] (by decide) rfl) hS ls (lv_sub hl [5, 4, 3, 2, 1, 0] rfl)
      · skip
        refine lv_tableIn (off := 644) (tgt := 688) hx hb dL_law_44 (by decide) (by decide) (by decide) (by decide) ?_
        exact law_solve l hst C1 G A hA hA2 hK hE q_1 al_2 ts_3 pb_4 sv_5 b_6 mm_7 sr_8 se_9 q_15 al_16 pf_17 q_21 q_23 f_10 g_11 hh_12 f_18 H locs (hP.sub [0, 1, 2, 3, 4, 5, 6, 7, 8, 9, 10, 11] rfl) (hD.sub [0, 1, 2, 3, 4, 5, 6, 7, 8, 9, 10, 11] (by decide) rfl) hS ls (lv_sub hl [5, 4, 3, 2, 1, 0] rfl)
      · skip
        refine lv_tableIn (off := 700) (tgt := 744) hx hb dL_law_44 (by decide) (by decide) (by decide) (by decide) ?_
        exact law_steps l hst C1 G A hA hA2 hK hE q_1 al_2 ts_3 pb_4 sv_5 b_6 mm_7 sr_8 se_9 q_15 al_16 pf_17 q_21 q_23 f_10 g_11 hh_12 f_18 H locs (hP.sub [0, 1, 2, 3, 4, 5, 6, 7, 8, 9, 10, 11] rfl) (hD.sub [0, 1, 2, 3, 4, 5, 6, 7, 8, 9, 10, 11] (by decide) rfl) hS ls (lv_sub hl [5, 4, 3, 2, 1, 0] rfl)
      · skip
        refine lv_tableIn (off := 756) (tgt := 800) hx hb dL_law_44 (by decide) (by decide) (by decide) (by decide) ?_
        exact law_stepAt l hst C1 G A hA hA2 hK hE q_1 al_2 ts_3 pb_4 sv_5 b_6 mm_7 sr_8 se_9 q_15 al_16 pf_17 q_21 q_23 f_10 g_11 hh_12 f_18 H locs (hP.sub [0, 1, 2, 3, 4, 5, 6, 7, 8, 9, 10, 11] rfl) (hD.sub [0, 1, 2, 3, 4, 5, 6, 7, 8, 9, 10, 11] (by decide) rfl) hS ls (lv_sub hl [5, 4, 3, 2, 1, 0] rfl)
      · skip
        refine lv_tableIn (off := 824) (tgt := 868) hx hb dL_law_44 (by decide) (by decide) (by decide) (by decide) ?_
        exact law_grade l hst C1 G A hA hA2 hK hE q_1 al_2 ts_3 pb_4 sv_5 b_6 mm_7 sr_8 se_9 q_15 al_16 pf_17 q_21 q_23 f_10 g_11 hh_12 f_18 H locs (hP.sub [0, 1, 2, 3, 4, 5, 6, 7, 8, 9, 10, 11] rfl) (hD.sub [0, 1, 2, 3, 4, 5, 6, 7, 8, 9, 10, 11] (by decide) rfl) hS ls (lv_sub hl [5, 4, 3, 2, 1, 0] rfl)
      · skip
        refine lv_tableIn (off := 880) (tgt := 924) hx hb dL_law_44 (by decide) (by decide) (by decide) (by decide) ?_
        exact law_isMinimal l hst C1 G A hA hA2 hK hE q_1 al_2 ts_3 pb_4 sv_5 b_6 mm_7 sr_8 se_9 q_15 al_16 pf_17 q_21 q_23 f_10 g_11 hh_12 f_18 H locs (hP.sub [0, 1, 2, 3, 4, 5, 6, 7, 8, 9, 10, 11] rfl) (hD.sub [0, 1, 2, 3, 4, 5, 6, 7, 8, 9, 10, 11] (by decide) rfl) hS ls (lv_sub hl [5, 4, 3, 2, 1, 0] rfl)
      · skip
        refine lv_tableIn (off := 943) (tgt := 987) hx hb dL_law_44 (by decide) (by decide) (by decide) (by decide) ?_
        exact law_areAlike l hst C1 G A hA hA2 hK hE q_1 al_2 ts_3 pb_4 sv_5 b_6 mm_7 sr_8 se_9 q_15 al_16 pf_17 q_21 q_23 f_10 g_11 hh_12 f_18 H locs (hP.sub [0, 1, 2, 3, 4, 5, 6, 7, 8, 9, 10, 11] rfl) (hD.sub [0, 1, 2, 3, 4, 5, 6, 7, 8, 9, 10, 11] (by decide) rfl) hS ls (lv_sub hl [5, 4, 3, 2, 1, 0] rfl)
      · skip
        refine lv_tableIn (off := 1018) (tgt := 1062) hx hb dL_law_44 (by decide) (by decide) (by decide) (by decide) ?_
        exact law_begin l hst C1 G A hA hA2 hK hE q_1 al_2 ts_3 pb_4 sv_5 b_6 mm_7 sr_8 se_9 q_15 al_16 pf_17 q_21 q_23 f_10 g_11 hh_12 f_18 H locs (hP.sub [0, 1, 2, 3, 4, 5, 6, 7, 8, 9, 10, 11] rfl) (hD.sub [0, 1, 2, 3, 4, 5, 6, 7, 8, 9, 10, 11] (by decide) rfl) hS ls (lv_sub hl [5, 4, 3, 2, 1, 0] rfl)
      · skip
        refine lv_tableIn (off := 1074) (tgt := 1118) hx hb dL_law_44 (by decide) (by decide) (by decide) (by decide) ?_
        rcases cls_i (xs 2) 0 15 (by decide) (by decide) with ⟨k, -, hk, hv2⟩ | hbad
        · rcases cls_i (xs 1) 0 4 (by decide) (by decide) with ⟨rl, -, hrl, hv1⟩ | hbad
          · rcases cls_i (xs 3) 1 4 (by decide) (by decide) with ⟨x, hx1, hx4, hv3⟩ | hbad
            · exact law_tell_3 l hst C1 G A hA hA2 hK hE q_1 al_2 ts_3 pb_4 sv_5 b_6 mm_7 sr_8 se_9 q_15 al_16 pf_17 q_21 q_23 f_10 g_11 hh_12 f_18 rl k x (by omega) (by omega) hx1 hx4 hv1 hv2 hv3 H locs (hP.sub [0, 1, 2, 3, 4, 5, 6, 7, 8, 9, 10, 11] rfl) (hD.sub [0, 1, 2, 3, 4, 5, 6, 7, 8, 9, 10, 11] (by decide) rfl) hS ls (lv_sub hl [5, 4, 3, 2, 1, 0] rfl)
            · exact law_tell_2b l hst C1 G A hA hA2 hK hE q_1 al_2 ts_3 pb_4 sv_5 b_6 mm_7 sr_8 se_9 q_15 al_16 pf_17 q_21 q_23 f_10 g_11 hh_12 f_18 rl k (by omega) (by omega) hv1 hv2 hbad H locs (hP.sub [0, 1, 2, 3, 4, 5, 6, 7, 8, 9, 10, 11] rfl) (hD.sub [0, 1, 2, 3, 4, 5, 6, 7, 8, 9, 10, 11] (by decide) rfl) hS ls (lv_sub hl [5, 4, 3, 2, 1, 0] rfl)
          · exact law_tell_2a l hst C1 G A hA hA2 hK hE q_1 al_2 ts_3 pb_4 sv_5 b_6 mm_7 sr_8 se_9 q_15 al_16 pf_17 q_21 q_23 f_10 g_11 hh_12 f_18 k (by omega) hv2 hbad H locs (hP.sub [0, 1, 2, 3, 4, 5, 6, 7, 8, 9, 10, 11] rfl) (hD.sub [0, 1, 2, 3, 4, 5, 6, 7, 8, 9, 10, 11] (by decide) rfl) hS ls (lv_sub hl [5, 4, 3, 2, 1, 0] rfl)
        · exact law_tell_1 l hst C1 G A hA hA2 hK hE q_1 al_2 ts_3 pb_4 sv_5 b_6 mm_7 sr_8 se_9 q_15 al_16 pf_17 q_21 q_23 f_10 g_11 hh_12 f_18 hbad H locs (hP.sub [0, 1, 2, 3, 4, 5, 6, 7, 8, 9, 10, 11] rfl) (hD.sub [0, 1, 2, 3, 4, 5, 6, 7, 8, 9, 10, 11] (by decide) rfl) hS ls (lv_sub hl [5, 4, 3, 2, 1, 0] rfl)
      · skip
        refine lv_tableIn (off := 1154) (tgt := 1198) hx hb dL_law_44 (by decide) (by decide) (by decide) (by decide) ?_
        exact law_reason l hst C1 G A hA hA2 hK hE q_1 al_2 ts_3 pb_4 sv_5 b_6 mm_7 sr_8 se_9 q_15 al_16 pf_17 q_21 q_23 f_10 g_11 hh_12 f_18 H locs (hP.sub [0, 1, 2, 3, 4, 5, 6, 7, 8, 9, 10, 11] rfl) (hD.sub [0, 1, 2, 3, 4, 5, 6, 7, 8, 9, 10, 11] (by decide) rfl) hS ls (lv_sub hl [5, 4, 3, 2, 1, 0] rfl)
      · skip
        refine lv_tableIn (off := 1167) (tgt := 1211) hx hb dL_law_44 (by decide) (by decide) (by decide) (by decide) ?_
        rcases cls_i (xs 1) 0 15 (by decide) (by decide) with ⟨k, -, hk, hv1⟩ | hbad
        · exact law_cand_2 l hst C1 G A hA hA2 hK hE q_1 al_2 ts_3 pb_4 sv_5 b_6 mm_7 sr_8 se_9 q_15 al_16 pf_17 q_21 q_23 f_10 g_11 hh_12 f_18 k (by omega) hv1 H locs (hP.sub [0, 1, 2, 3, 4, 5, 6, 7, 8, 9, 10, 11] rfl) (hD.sub [0, 1, 2, 3, 4, 5, 6, 7, 8, 9, 10, 11] (by decide) rfl) hS ls (lv_sub hl [5, 4, 3, 2, 1, 0] rfl)
        · exact law_cand_1 l hst C1 G A hA hA2 hK hE q_1 al_2 ts_3 pb_4 sv_5 b_6 mm_7 sr_8 se_9 q_15 al_16 pf_17 q_21 q_23 f_10 g_11 hh_12 f_18 hbad H locs (hP.sub [0, 1, 2, 3, 4, 5, 6, 7, 8, 9, 10, 11] rfl) (hD.sub [0, 1, 2, 3, 4, 5, 6, 7, 8, 9, 10, 11] (by decide) rfl) hS ls (lv_sub hl [5, 4, 3, 2, 1, 0] rfl)
      · skip
        refine lv_tableIn (off := 1223) (tgt := 1267) hx hb dL_law_44 (by decide) (by decide) (by decide) (by decide) ?_
        exact law_isWhole l hst C1 G A hA hA2 hK hE q_1 al_2 ts_3 pb_4 sv_5 b_6 mm_7 sr_8 se_9 q_15 al_16 pf_17 q_21 q_23 f_10 g_11 hh_12 f_18 H locs (hP.sub [0, 1, 2, 3, 4, 5, 6, 7, 8, 9, 10, 11] rfl) (hD.sub [0, 1, 2, 3, 4, 5, 6, 7, 8, 9, 10, 11] (by decide) rfl) hS ls (lv_sub hl [5, 4, 3, 2, 1, 0] rfl)
      · skip
        refine lv_tableIn (off := 1274) (tgt := 1318) hx hb dL_law_44 (by decide) (by decide) (by decide) (by decide) ?_
        exact law_mark l hst C1 G A hA hA2 hK hE q_1 al_2 ts_3 pb_4 sv_5 b_6 mm_7 sr_8 se_9 q_15 al_16 pf_17 q_21 q_23 f_10 g_11 hh_12 f_18 H locs (hP.sub [0, 1, 2, 3, 4, 5, 6, 7, 8, 9, 10, 11] rfl) (hD.sub [0, 1, 2, 3, 4, 5, 6, 7, 8, 9, 10, 11] (by decide) rfl) hS ls (lv_sub hl [5, 4, 3, 2, 1, 0] rfl)
      · skip
        refine lv_tableIn (off := 1354) (tgt := 1398) hx hb dL_law_44 (by decide) (by decide) (by decide) (by decide) ?_
        exact law_marked l hst C1 G A hA hA2 hK hE q_1 al_2 ts_3 pb_4 sv_5 b_6 mm_7 sr_8 se_9 q_15 al_16 pf_17 q_21 q_23 f_10 g_11 hh_12 f_18 H locs (hP.sub [0, 1, 2, 3, 4, 5, 6, 7, 8, 9, 10, 11] rfl) (hD.sub [0, 1, 2, 3, 4, 5, 6, 7, 8, 9, 10, 11] (by decide) rfl) hS ls (lv_sub hl [5, 4, 3, 2, 1, 0] rfl)
      · skip
        refine lv_tableIn (off := 1422) (tgt := 1466) hx hb dL_law_44 (by decide) (by decide) (by decide) (by decide) ?_
        exact law_wrong l hst C1 G A hA hA2 hK hE q_1 al_2 ts_3 pb_4 sv_5 b_6 mm_7 sr_8 se_9 q_15 al_16 pf_17 q_21 q_23 f_10 g_11 hh_12 f_18 H locs (hP.sub [0, 1, 2, 3, 4, 5, 6, 7, 8, 9, 10, 11] rfl) (hD.sub [0, 1, 2, 3, 4, 5, 6, 7, 8, 9, 10, 11] (by decide) rfl) hS ls (lv_sub hl [5, 4, 3, 2, 1, 0] rfl)
      · skip
        refine lv_tableIn (off := 1478) (tgt := 1522) hx hb dL_law_44 (by decide) (by decide) (by decide) (by decide) ?_
        exact law_hint l hst C1 G A hA hA2 hK hE q_1 al_2 ts_3 pb_4 sv_5 b_6 mm_7 sr_8 se_9 q_15 al_16 pf_17 q_21 q_23 f_10 g_11 hh_12 f_18 H locs (hP.sub [0, 1, 2, 3, 4, 5, 6, 7, 8, 9, 10, 11] rfl) (hD.sub [0, 1, 2, 3, 4, 5, 6, 7, 8, 9, 10, 11] (by decide) rfl) hS ls (lv_sub hl [5, 4, 3, 2, 1, 0] rfl)
      · skip
        refine lv_tableIn (off := 1534) (tgt := 1578) hx hb dL_law_44 (by decide) (by decide) (by decide) (by decide) ?_
        exact law_checksum l hst C1 G A hA hA2 hK hE q_1 al_2 ts_3 pb_4 sv_5 b_6 mm_7 sr_8 se_9 q_15 al_16 pf_17 q_21 q_23 f_10 g_11 hh_12 f_18 H locs (hP.sub [0, 1, 2, 3, 4, 5, 6, 7, 8, 9, 10, 11] rfl) (hD.sub [0, 1, 2, 3, 4, 5, 6, 7, 8, 9, 10, 11] (by decide) rfl) hS ls (lv_sub hl [5, 4, 3, 2, 1, 0] rfl)
      · skip
        refine lv_tableIn (off := 1548) (tgt := 1592) hx hb dL_law_44 (by decide) (by decide) (by decide) (by decide) ?_
        exact law_solvedShare l hst C1 G A hA hA2 hK hE q_1 al_2 ts_3 pb_4 sv_5 b_6 mm_7 sr_8 se_9 q_15 al_16 pf_17 q_21 q_23 f_10 g_11 hh_12 f_18 H locs (hP.sub [0, 1, 2, 3, 4, 5, 6, 7, 8, 9, 10, 11] rfl) (hD.sub [0, 1, 2, 3, 4, 5, 6, 7, 8, 9, 10, 11] (by decide) rfl) hS ls (lv_sub hl [5, 4, 3, 2, 1, 0] rfl)
      · skip
        refine lv_tableIn (off := 1614) (tgt := 1658) hx hb dL_law_44 (by decide) (by decide) (by decide) (by decide) ?_
        exact law_meanGivens l hst C1 G A hA hA2 hK hE q_1 al_2 ts_3 pb_4 sv_5 b_6 mm_7 sr_8 se_9 q_15 al_16 pf_17 q_21 q_23 f_10 g_11 hh_12 f_18 H locs (hP.sub [0, 1, 2, 3, 4, 5, 6, 7, 8, 9, 10, 11] rfl) (hD.sub [0, 1, 2, 3, 4, 5, 6, 7, 8, 9, 10, 11] (by decide) rfl) hS ls (lv_sub hl [5, 4, 3, 2, 1, 0] rfl)
      · skip
        refine lv_tableIn (off := 1679) (tgt := 1723) hx hb dL_law_44 (by decide) (by decide) (by decide) (by decide) ?_
        exact law_isSound l hst C1 G A hA hA2 hK hE q_1 al_2 ts_3 pb_4 sv_5 b_6 mm_7 sr_8 se_9 q_15 al_16 pf_17 q_21 q_23 f_10 g_11 hh_12 f_18 H locs (hP.sub [0, 1, 2, 3, 4, 5, 6, 7, 8, 9, 10, 11] rfl) (hD.sub [0, 1, 2, 3, 4, 5, 6, 7, 8, 9, 10, 11] (by decide) rfl) hS ls (lv_sub hl [5, 4, 3, 2, 1, 0] rfl)
      · skip
        refine lv_tableOut (tgt := 1736) hx hb dL_law_44 (by decide) (by decide) ?_
        refine lv_iinc (v := nI 4) (lv' := [(5, .int (nI 4)), (4, .ref q_23), (3, .ref q_21), (2, .ref q_15), (1, .ref q_1), (0, .ref scr)]) hx hb dL_law_1736 hl (k := 0) rfl (nI_add 0 4) (by decide) rfl (fun ls hl => ?_)
        refine lv_goto (tgt := 28) hx hb dL_law_1739 (by decide) ?_
        refine lv_iload hx hb dL_law_28 (lv_at hl 0 rfl) ?_
        refine lv_aload_n hx hb dL_law_30 rfl (lv_at hl 5 rfl) ?_
        refine va_slen hx hb hX hbl hbA hS dL_law_31 ?_
        refine lv_toe (show Int32.ofNat 4 = nI 4 from rfl) ?_
        refine lv_iconst (v := nI 4) hx hb dL_law_32 (by decide) ?_
        refine lv_isub hx hb dL_law_33 ?_
        refine lv_toe (show _ = nI 0 by decide) ?_
        refine lv_icmp_gt (tgt := 1742) hx hb dL_law_34 (by decide) (fun c_26 => ?_) (fun c_26 => ?_)
        · skip
          have c_26 : 0 < 4 := (nI_ltI (a := 0) (b := 4) (by omega) (by omega)).mp c_26
          refine lv_iconst (v := nI 1) hx hb dL_law_1742 (by decide) ?_
          refine va_forget (fun q hq => hA2 _ (hS.2.2 q hq)) ?_
          refine W.widen (k := 607190) (n := 7280494) (Nat.le_of_ble_eq_true rfl) (Nat.le_of_ble_eq_true rfl) ?_
          exact lw_ret (d0 := s.drawn) (Drawn.sameBut.refl s.drawn lw_cs) hx hb hr hlocks dL_law_1743
        · skip
          have c_26 : ¬ 0 < 4 := fun z => c_26 ((nI_ltI (a := 0) (b := 4) (by omega) (by omega)).mpr z)
          exact absurd c_26 (by decide)
      · skip
        refine lv_tableOut (tgt := 1736) hx hb dL_law_44 (by decide) (by decide) ?_
        refine lv_iinc (v := nI 4) (lv' := [(5, .int (nI 4)), (4, .ref q_23), (3, .ref q_21), (2, .ref q_15), (1, .ref q_1), (0, .ref scr)]) hx hb dL_law_1736 hl (k := 0) rfl (nI_add 0 4) (by decide) rfl (fun ls hl => ?_)
        refine lv_goto (tgt := 28) hx hb dL_law_1739 (by decide) ?_
        refine lv_iload hx hb dL_law_28 (lv_at hl 0 rfl) ?_
        refine lv_aload_n hx hb dL_law_30 rfl (lv_at hl 5 rfl) ?_
        refine va_slen hx hb hX hbl hbA hS dL_law_31 ?_
        refine lv_toe (show Int32.ofNat 4 = nI 4 from rfl) ?_
        refine lv_iconst (v := nI 4) hx hb dL_law_32 (by decide) ?_
        refine lv_isub hx hb dL_law_33 ?_
        refine lv_toe (show _ = nI 0 by decide) ?_
        refine lv_icmp_gt (tgt := 1742) hx hb dL_law_34 (by decide) (fun c_27 => ?_) (fun c_27 => ?_)
        · skip
          have c_27 : 0 < 4 := (nI_ltI (a := 0) (b := 4) (by omega) (by omega)).mp c_27
          refine lv_iconst (v := nI 1) hx hb dL_law_1742 (by decide) ?_
          refine va_forget (fun q hq => hA2 _ (hS.2.2 q hq)) ?_
          refine W.widen (k := 607190) (n := 7280494) (Nat.le_of_ble_eq_true rfl) (Nat.le_of_ble_eq_true rfl) ?_
          exact lw_ret (d0 := s.drawn) (Drawn.sameBut.refl s.drawn lw_cs) hx hb hr hlocks dL_law_1743
        · skip
          have c_27 : ¬ 0 < 4 := fun z => c_27 ((nI_ltI (a := 0) (b := 4) (by omega) (by omega)).mpr z)
          exact absurd c_27 (by decide)
      · skip
        refine lv_tableOut (tgt := 1736) hx hb dL_law_44 (by decide) (by decide) ?_
        refine lv_iinc (v := nI 4) (lv' := [(5, .int (nI 4)), (4, .ref q_23), (3, .ref q_21), (2, .ref q_15), (1, .ref q_1), (0, .ref scr)]) hx hb dL_law_1736 hl (k := 0) rfl (nI_add 0 4) (by decide) rfl (fun ls hl => ?_)
        refine lv_goto (tgt := 28) hx hb dL_law_1739 (by decide) ?_
        refine lv_iload hx hb dL_law_28 (lv_at hl 0 rfl) ?_
        refine lv_aload_n hx hb dL_law_30 rfl (lv_at hl 5 rfl) ?_
        refine va_slen hx hb hX hbl hbA hS dL_law_31 ?_
        refine lv_toe (show Int32.ofNat 4 = nI 4 from rfl) ?_
        refine lv_iconst (v := nI 4) hx hb dL_law_32 (by decide) ?_
        refine lv_isub hx hb dL_law_33 ?_
        refine lv_toe (show _ = nI 0 by decide) ?_
        refine lv_icmp_gt (tgt := 1742) hx hb dL_law_34 (by decide) (fun c_28 => ?_) (fun c_28 => ?_)
        · skip
          have c_28 : 0 < 4 := (nI_ltI (a := 0) (b := 4) (by omega) (by omega)).mp c_28
          refine lv_iconst (v := nI 1) hx hb dL_law_1742 (by decide) ?_
          refine va_forget (fun q hq => hA2 _ (hS.2.2 q hq)) ?_
          refine W.widen (k := 607190) (n := 7280494) (Nat.le_of_ble_eq_true rfl) (Nat.le_of_ble_eq_true rfl) ?_
          exact lw_ret (d0 := s.drawn) (Drawn.sameBut.refl s.drawn lw_cs) hx hb hr hlocks dL_law_1743
        · skip
          have c_28 : ¬ 0 < 4 := fun z => c_28 ((nI_ltI (a := 0) (b := 4) (by omega) (by omega)).mpr z)
          exact absurd c_28 (by decide)
      · skip
        refine lv_tableOut (tgt := 1736) hx hb dL_law_44 (by decide) (by decide) ?_
        refine lv_iinc (v := nI 4) (lv' := [(5, .int (nI 4)), (4, .ref q_23), (3, .ref q_21), (2, .ref q_15), (1, .ref q_1), (0, .ref scr)]) hx hb dL_law_1736 hl (k := 0) rfl (nI_add 0 4) (by decide) rfl (fun ls hl => ?_)
        refine lv_goto (tgt := 28) hx hb dL_law_1739 (by decide) ?_
        refine lv_iload hx hb dL_law_28 (lv_at hl 0 rfl) ?_
        refine lv_aload_n hx hb dL_law_30 rfl (lv_at hl 5 rfl) ?_
        refine va_slen hx hb hX hbl hbA hS dL_law_31 ?_
        refine lv_toe (show Int32.ofNat 4 = nI 4 from rfl) ?_
        refine lv_iconst (v := nI 4) hx hb dL_law_32 (by decide) ?_
        refine lv_isub hx hb dL_law_33 ?_
        refine lv_toe (show _ = nI 0 by decide) ?_
        refine lv_icmp_gt (tgt := 1742) hx hb dL_law_34 (by decide) (fun c_29 => ?_) (fun c_29 => ?_)
        · skip
          have c_29 : 0 < 4 := (nI_ltI (a := 0) (b := 4) (by omega) (by omega)).mp c_29
          refine lv_iconst (v := nI 1) hx hb dL_law_1742 (by decide) ?_
          refine va_forget (fun q hq => hA2 _ (hS.2.2 q hq)) ?_
          refine W.widen (k := 607190) (n := 7280494) (Nat.le_of_ble_eq_true rfl) (Nat.le_of_ble_eq_true rfl) ?_
          exact lw_ret (d0 := s.drawn) (Drawn.sameBut.refl s.drawn lw_cs) hx hb hr hlocks dL_law_1743
        · skip
          have c_29 : ¬ 0 < 4 := fun z => c_29 ((nI_ltI (a := 0) (b := 4) (by omega) (by omega)).mpr z)
          exact absurd c_29 (by decide)
      · skip
        refine lv_tableOut (tgt := 1736) hx hb dL_law_44 (by decide) (by decide) ?_
        refine lv_iinc (v := nI 4) (lv' := [(5, .int (nI 4)), (4, .ref q_23), (3, .ref q_21), (2, .ref q_15), (1, .ref q_1), (0, .ref scr)]) hx hb dL_law_1736 hl (k := 0) rfl (nI_add 0 4) (by decide) rfl (fun ls hl => ?_)
        refine lv_goto (tgt := 28) hx hb dL_law_1739 (by decide) ?_
        refine lv_iload hx hb dL_law_28 (lv_at hl 0 rfl) ?_
        refine lv_aload_n hx hb dL_law_30 rfl (lv_at hl 5 rfl) ?_
        refine va_slen hx hb hX hbl hbA hS dL_law_31 ?_
        refine lv_toe (show Int32.ofNat 4 = nI 4 from rfl) ?_
        refine lv_iconst (v := nI 4) hx hb dL_law_32 (by decide) ?_
        refine lv_isub hx hb dL_law_33 ?_
        refine lv_toe (show _ = nI 0 by decide) ?_
        refine lv_icmp_gt (tgt := 1742) hx hb dL_law_34 (by decide) (fun c_30 => ?_) (fun c_30 => ?_)
        · skip
          have c_30 : 0 < 4 := (nI_ltI (a := 0) (b := 4) (by omega) (by omega)).mp c_30
          refine lv_iconst (v := nI 1) hx hb dL_law_1742 (by decide) ?_
          refine va_forget (fun q hq => hA2 _ (hS.2.2 q hq)) ?_
          refine W.widen (k := 607190) (n := 7280494) (Nat.le_of_ble_eq_true rfl) (Nat.le_of_ble_eq_true rfl) ?_
          exact lw_ret (d0 := s.drawn) (Drawn.sameBut.refl s.drawn lw_cs) hx hb hr hlocks dL_law_1743
        · skip
          have c_30 : ¬ 0 < 4 := fun z => c_30 ((nI_ltI (a := 0) (b := 4) (by omega) (by omega)).mpr z)
          exact absurd c_30 (by decide)
  · skip
    refine lv_iload hx hb dL_law_28 (lv_at hl 0 rfl) ?_
    refine lv_aload_n hx hb dL_law_30 rfl (lv_at hl 5 rfl) ?_
    refine va_slen hx hb hX hbl hbA hS dL_law_31 ?_
    refine lv_toe (show Int32.ofNat 0 = nI 0 from rfl) ?_
    refine lv_iconst (v := nI 4) hx hb dL_law_32 (by decide) ?_
    refine lv_isub hx hb dL_law_33 ?_
    refine lv_toe (show _ = (-4 : Int32) by decide) ?_
    refine lv_icmp_gt (tgt := 1742) hx hb dL_law_34 (by decide) (fun c_31 => ?_) (fun c_31 => ?_)
    · skip
      refine lv_iconst (v := nI 1) hx hb dL_law_1742 (by decide) ?_
      refine va_forget (fun q hq => hA2 _ (hS.2.2 q hq)) ?_
      refine W.widen (k := 607190) (n := 7280494) (Nat.le_of_ble_eq_true rfl) (Nat.le_of_ble_eq_true rfl) ?_
      exact lw_ret (d0 := s.drawn) (Drawn.sameBut.refl s.drawn lw_cs) hx hb hr hlocks dL_law_1743
    · skip
      exact absurd (by decide) c_31
  · skip
    refine lv_iload hx hb dL_law_28 (lv_at hl 0 rfl) ?_
    refine lv_aload_n hx hb dL_law_30 rfl (lv_at hl 5 rfl) ?_
    refine va_slen hx hb hX hbl hbA hS dL_law_31 ?_
    refine lv_toe (show Int32.ofNat 1 = nI 1 from rfl) ?_
    refine lv_iconst (v := nI 4) hx hb dL_law_32 (by decide) ?_
    refine lv_isub hx hb dL_law_33 ?_
    refine lv_toe (show _ = (-3 : Int32) by decide) ?_
    refine lv_icmp_gt (tgt := 1742) hx hb dL_law_34 (by decide) (fun c_32 => ?_) (fun c_32 => ?_)
    · skip
      refine lv_iconst (v := nI 1) hx hb dL_law_1742 (by decide) ?_
      refine va_forget (fun q hq => hA2 _ (hS.2.2 q hq)) ?_
      refine W.widen (k := 607190) (n := 7280494) (Nat.le_of_ble_eq_true rfl) (Nat.le_of_ble_eq_true rfl) ?_
      exact lw_ret (d0 := s.drawn) (Drawn.sameBut.refl s.drawn lw_cs) hx hb hr hlocks dL_law_1743
    · skip
      exact absurd (by decide) c_32
  · skip
    refine lv_iload hx hb dL_law_28 (lv_at hl 0 rfl) ?_
    refine lv_aload_n hx hb dL_law_30 rfl (lv_at hl 5 rfl) ?_
    refine va_slen hx hb hX hbl hbA hS dL_law_31 ?_
    refine lv_toe (show Int32.ofNat 2 = nI 2 from rfl) ?_
    refine lv_iconst (v := nI 4) hx hb dL_law_32 (by decide) ?_
    refine lv_isub hx hb dL_law_33 ?_
    refine lv_toe (show _ = (-2 : Int32) by decide) ?_
    refine lv_icmp_gt (tgt := 1742) hx hb dL_law_34 (by decide) (fun c_33 => ?_) (fun c_33 => ?_)
    · skip
      refine lv_iconst (v := nI 1) hx hb dL_law_1742 (by decide) ?_
      refine va_forget (fun q hq => hA2 _ (hS.2.2 q hq)) ?_
      refine W.widen (k := 607190) (n := 7280494) (Nat.le_of_ble_eq_true rfl) (Nat.le_of_ble_eq_true rfl) ?_
      exact lw_ret (d0 := s.drawn) (Drawn.sameBut.refl s.drawn lw_cs) hx hb hr hlocks dL_law_1743
    · skip
      exact absurd (by decide) c_33
  · skip
    refine lv_iload hx hb dL_law_28 (lv_at hl 0 rfl) ?_
    refine lv_aload_n hx hb dL_law_30 rfl (lv_at hl 5 rfl) ?_
    refine va_slen hx hb hX hbl hbA hS dL_law_31 ?_
    refine lv_toe (show Int32.ofNat 3 = nI 3 from rfl) ?_
    refine lv_iconst (v := nI 4) hx hb dL_law_32 (by decide) ?_
    refine lv_isub hx hb dL_law_33 ?_
    refine lv_toe (show _ = (-1 : Int32) by decide) ?_
    refine lv_icmp_gt (tgt := 1742) hx hb dL_law_34 (by decide) (fun c_34 => ?_) (fun c_34 => ?_)
    · skip
      refine lv_iconst (v := nI 1) hx hb dL_law_1742 (by decide) ?_
      refine va_forget (fun q hq => hA2 _ (hS.2.2 q hq)) ?_
      refine W.widen (k := 607190) (n := 7280494) (Nat.le_of_ble_eq_true rfl) (Nat.le_of_ble_eq_true rfl) ?_
      exact lw_ret (d0 := s.drawn) (Drawn.sameBut.refl s.drawn lw_cs) hx hb hr hlocks dL_law_1743
    · skip
      exact absurd (by decide) c_34
