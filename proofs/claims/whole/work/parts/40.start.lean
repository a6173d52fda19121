theorem nw_of {w : Cond} {args : Array Value} {s : State} (h : nwk w = true) (hz : w.before args s = true) : va_Nw w s := by
  cases w <;> first | exact va_Nw.of rfl hz | exact absurd h (by simp [nwk])
theorem eq_ev {args : Array Value} {s : State} {t u : Term} {v : Value} (h : (Cond.eq t u).before args s = true) (hu : u.eval args s none [] s = some v) : t.eval args s none [] s = some v := by
  unfold Cond.before Cond.holds at h
  exact va_eqI (eq_of_beq h) hu
theorem str_ev {args : Array Value} {s : State} {own : String} {k : Nat} (h : (Cond.exactly (.string own k) "java/lang/String").before args s = true) : ∃ a : Nat, (Term.string own k).eval args s none [] s = some (.ref a) := by
  obtain ⟨a, c, cell, kk, q1, -⟩ := Cond.exactly_spec (args := args) (first := s) (o := none) (s := s) (idx := []) (t := .string own k) (cls := "java/lang/String") h
  exact ⟨a, q1⟩
theorem fwJ0_ : ∀ w ∈ u_ws RJ0 TJ0 2, w ∈ WW := by decide +kernel
theorem fwJx00060_ : ∀ w ∈ u_ws RJx00060 TJx00060 6, w ∈ WW := by decide +kernel
theorem fwX1_ : ∀ w ∈ u_ws RX1 TX1 2, w ∈ WW := by decide +kernel
theorem fwX7_ : ∀ w ∈ u_ws RX7 TX7 2, w ∈ WW := by decide +kernel
set_option maxHeartbeats 4000000 in
theorem known_start {b : Nat} {s : State} (hts0 : ∀ w ∈ lw_tbl, w.before #[Value.ref b] s = true) : ∃ (D : va_G) (yI yO yL yD : ClassId), va_K D vwCl [(yI, .int), (yO, .object "java/lang/Object"), (yL, .long), (yD, .double)] s := by
  have hts : ∀ w ∈ WW, w.before #[Value.ref b] s = true := fun w hw => hts0 w (List.mem_filter.mp hw).1
  obtain ⟨c0, i0, k0⟩ := u_known (C := RJ0) (T := TJ0) (N := 2) hts fwJ0_ (hts0 _ (List.mem_of_getElem? (i := 556) (show lw_tbl[556]? = some ((Jvm.Cond.instantiable "java/lang/String" (4 : Nat))) by decide +kernel)))
  obtain ⟨c1, i1, k1⟩ := u_known (C := RJ6) (T := TJ6) (N := 1) hts fwJ6 (hts0 _ (List.mem_of_getElem? (i := 1184) (show lw_tbl[1184]? = some ((Jvm.Cond.instantiable "java/lang/Integer" (1 : Nat))) by decide +kernel)))
  obtain ⟨c2, i2, k2⟩ := u_known (C := RJx00060) (T := TJx00060) (N := 6) hts fwJx00060_ (hts0 _ (List.mem_of_getElem? (i := 538) (show lw_tbl[538]? = some ((Jvm.Cond.instantiable "java/lang/ArrayIndexOutOfBoundsException" (6 : Nat))) by decide +kernel)))
  obtain ⟨c3, i3, k3⟩ := u_known (C := RJx35411) (T := TJx35411) (N := 4) hts fwJx35411 (hts0 _ (List.mem_of_getElem? (i := 1111) (show lw_tbl[1111]? = some ((Jvm.Cond.instantiable "java/util/ArrayList$Itr" (4 : Nat))) by decide +kernel)))
  obtain ⟨c4, i4, k4⟩ := u_known (C := RJx4a65c) (T := TJx4a65c) (N := 3) hts fwJx4a65c (hts0 _ (List.mem_of_getElem? (i := 89) (show lw_tbl[89]? = some ((Jvm.Cond.instantiable "java/util/ArrayList" (3 : Nat))) by decide +kernel)))
  obtain ⟨c5, i5, k5⟩ := u_known (C := RX0) (T := TX0) (N := 1) hts fwX0 (hts0 _ (List.mem_of_getElem? (i := 124) (show lw_tbl[124]? = some ((Jvm.Cond.instantiable "Pegboardry$Board" (1 : Nat))) by decide +kernel)))
  obtain ⟨c6, i6, k6⟩ := u_known (C := RX1) (T := TX1) (N := 2) hts fwX1_ (hts0 _ (List.mem_of_getElem? (i := 292) (show lw_tbl[292]? = some ((Jvm.Cond.instantiable "Pegboardry$Cage" (2 : Nat))) by decide +kernel)))
  obtain ⟨c7, i7, k7⟩ := u_known (C := RX2) (T := TX2) (N := 1) hts fwX2 (hts0 _ (List.mem_of_getElem? (i := 666) (show lw_tbl[666]? = some ((Jvm.Cond.instantiable "Pegboardry$Draws" (1 : Nat))) by decide +kernel)))
  obtain ⟨c8, i8, k8⟩ := u_known (C := RX3) (T := TX3) (N := 7) hts fwX3 (hts0 _ (List.mem_of_getElem? (i := 235) (show lw_tbl[235]? = some ((Jvm.Cond.instantiable "Pegboardry$Puzzle" (7 : Nat))) by decide +kernel)))
  obtain ⟨c9, i9, k9⟩ := u_known (C := RX4) (T := TX4) (N := 3) hts fwX4 (hts0 _ (List.mem_of_getElem? (i := 162) (show lw_tbl[162]? = some ((Jvm.Cond.instantiable "Pegboardry$Search" (3 : Nat))) by decide +kernel)))
  obtain ⟨c10, i10, k10⟩ := u_known (C := RX5) (T := TX5) (N := 6) hts fwX5 (hts0 _ (List.mem_of_getElem? (i := 118) (show lw_tbl[118]? = some ((Jvm.Cond.instantiable "Pegboardry$Solver" (6 : Nat))) by decide +kernel)))
  obtain ⟨c11, i11, k11⟩ := u_known (C := RX6) (T := TX6) (N := 6) hts fwX6 (hts0 _ (List.mem_of_getElem? (i := 81) (show lw_tbl[81]? = some ((Jvm.Cond.instantiable "Pegboardry" (6 : Nat))) by decide +kernel)))
  obtain ⟨c12, i12, k12⟩ := u_known (C := RX7) (T := TX7) (N := 2) hts fwX7_ (hts0 _ (List.mem_of_getElem? (i := 1026) (show lw_tbl[1026]? = some ((Jvm.Cond.instantiable "PegboardryModel$Cage" (2 : Nat))) by decide +kernel)))
  obtain ⟨c13, i13, k13⟩ := u_known (C := RX8) (T := TX8) (N := 3) hts fwX8 (hts0 _ (List.mem_of_getElem? (i := 967) (show lw_tbl[967]? = some ((Jvm.Cond.instantiable "PegboardryModel$Puzzle" (3 : Nat))) by decide +kernel)))
  obtain ⟨c14, i14, k14⟩ := u_known (C := RX9) (T := TX9) (N := 3) hts fwX9 (hts0 _ (List.mem_of_getElem? (i := 1062) (show lw_tbl[1062]? = some ((Jvm.Cond.instantiable "PegboardryModel$Way" (3 : Nat))) by decide +kernel)))
  obtain ⟨c15, i15, k15⟩ := u_known (C := RX10) (T := TX10) (N := 6) hts fwX10 (hts0 _ (List.mem_of_getElem? (i := 920) (show lw_tbl[920]? = some ((Jvm.Cond.instantiable "PegboardryModel" (6 : Nat))) by decide +kernel)))
  obtain ⟨yI, kkI, ppI, aI1, aI2, aI3⟩ := Cond.arrayClass_spec (hts0 _ (List.mem_of_getElem? (i := 135) (show lw_tbl[135]? = some ((Jvm.Cond.arrayClass Jvm.ClassFile.FieldType.int)) by decide +kernel)))
  obtain ⟨yL, kkL, ppL, aL1, aL2, aL3⟩ := Cond.arrayClass_spec (hts0 _ (List.mem_of_getElem? (i := 1374) (show lw_tbl[1374]? = some ((Jvm.Cond.arrayClass Jvm.ClassFile.FieldType.long)) by decide +kernel)))
  obtain ⟨yD, kkD, ppD, aD1, aD2, aD3⟩ := Cond.arrayClass_spec (hts0 _ (List.mem_of_getElem? (i := 1375) (show lw_tbl[1375]? = some ((Jvm.Cond.arrayClass Jvm.ClassFile.FieldType.double)) by decide +kernel)))
  obtain ⟨pO, yO, kkO, o1, o2, o3, o4, o5⟩ := Cond.arrayOver_spec (hts0 _ (List.mem_of_getElem? (i := 526) (show lw_tbl[526]? = some ((Jvm.Cond.arrayOver (Jvm.ClassFile.FieldType.object "java/lang/Object"))) by decide +kernel)))
  refine ⟨(fun c => match c with | 0 => c0 | 1 => c1 | 2 => c2 | 3 => c3 | 4 => c4 | 5 => c5 | 6 => c6 | 7 => c7 | 8 => c8 | 9 => c9 | 10 => c10 | 11 => c11 | 12 => c12 | 13 => c13 | 14 => c14 | _ => c15, fun c => match c with | 0 => i0 | 1 => i1 | 2 => i2 | 3 => i3 | 4 => i4 | 5 => i5 | 6 => i6 | 7 => i7 | 8 => i8 | 9 => i9 | 10 => i10 | 11 => i11 | 12 => i12 | 13 => i13 | 14 => i14 | _ => i15), yI, yO, yL, yD, fun c q hq => ?_, fun k q hq => ?_⟩
  · rcases (show c = 0 ∨ c = 1 ∨ c = 2 ∨ c = 3 ∨ c = 4 ∨ c = 5 ∨ c = 6 ∨ c = 7 ∨ c = 8 ∨ c = 9 ∨ c = 10 ∨ c = 11 ∨ c = 12 ∨ c = 13 ∨ c = 14 ∨ c = 15 ∨ 16 ≤ c by omega) with rfl | rfl | rfl | rfl | rfl | rfl | rfl | rfl | rfl | rfl | rfl | rfl | rfl | rfl | rfl | rfl | h16
    · obtain rfl := Option.some.inj (show some ((RJ0, TJ0, 2) : vw_C) = some q from hq)
      exact k0
    · obtain rfl := Option.some.inj (show some ((RJ6, TJ6, 1) : vw_C) = some q from hq)
      exact k1
    · obtain rfl := Option.some.inj (show some ((RJx00060, TJx00060, 6) : vw_C) = some q from hq)
      exact k2
    · obtain rfl := Option.some.inj (show some ((RJx35411, TJx35411, 4) : vw_C) = some q from hq)
      exact k3
    · obtain rfl := Option.some.inj (show some ((RJx4a65c, TJx4a65c, 3) : vw_C) = some q from hq)
      exact k4
    · obtain rfl := Option.some.inj (show some ((RX0, TX0, 1) : vw_C) = some q from hq)
      exact k5
    · obtain rfl := Option.some.inj (show some ((RX1, TX1, 2) : vw_C) = some q from hq)
      exact k6
    · obtain rfl := Option.some.inj (show some ((RX2, TX2, 1) : vw_C) = some q from hq)
      exact k7
    · obtain rfl := Option.some.inj (show some ((RX3, TX3, 7) : vw_C) = some q from hq)
      exact k8
    · obtain rfl := Option.some.inj (show some ((RX4, TX4, 3) : vw_C) = some q from hq)
      exact k9
    · obtain rfl := Option.some.inj (show some ((RX5, TX5, 6) : vw_C) = some q from hq)
      exact k10
    · obtain rfl := Option.some.inj (show some ((RX6, TX6, 6) : vw_C) = some q from hq)
      exact k11
    · obtain rfl := Option.some.inj (show some ((RX7, TX7, 2) : vw_C) = some q from hq)
      exact k12
    · obtain rfl := Option.some.inj (show some ((RX8, TX8, 3) : vw_C) = some q from hq)
      exact k13
    · obtain rfl := Option.some.inj (show some ((RX9, TX9, 3) : vw_C) = some q from hq)
      exact k14
    · obtain rfl := Option.some.inj (show some ((RX10, TX10, 6) : vw_C) = some q from hq)
      exact k15
    · have h9 := (List.getElem?_eq_some_iff.mp hq).1
      exact absurd h9 (by show ¬ c < 16; omega)
  · rcases (show k = 0 ∨ k = 1 ∨ k = 2 ∨ k = 3 ∨ 4 ≤ k by omega) with rfl | rfl | rfl | rfl | h4
    · obtain rfl := Option.some.inj (show some ((yI, .int) : ClassId × FieldType) = some q from hq)
      exact ⟨fun n z => ⟨fun k h => (by cases h), kkI, aI2, ppI, aI3⟩, aI1⟩
    · obtain rfl := Option.some.inj (show some ((yO, .object "java/lang/Object") : ClassId × FieldType) = some q from hq)
      exact ⟨fun n z => ⟨fun k h => (by cases h), kkO, o3, pO, o4⟩, kkO, pO, o3, o4, o1, o5⟩
    · obtain rfl := Option.some.inj (show some ((yL, .long) : ClassId × FieldType) = some q from hq)
      exact ⟨fun n z => ⟨fun k h => (by cases h), kkL, aL2, ppL, aL3⟩, aL1⟩
    · obtain rfl := Option.some.inj (show some ((yD, .double) : ClassId × FieldType) = some q from hq)
      exact ⟨fun n z => ⟨fun k h => (by cases h), kkD, aD2, ppD, aD3⟩, aD1⟩
    · have h9 := (List.getElem?_eq_some_iff.mp hq).1
      exact absurd h9 (by show ¬ k < 4; omega)
set_option maxHeartbeats 4000000 in
theorem ev_start {b : Nat} {s : State} (hts0 : ∀ w ∈ lw_tbl, w.before #[Value.ref b] s = true) (hgv : (Jvm.Cond.and given_1 narrow_1).before #[Value.ref b] s = true) : ∃ G : GG, va_K (gD G) vwCl (gT G) s ∧ EV G (fun q => s.heap.size ≤ q) s s.heap := by
  have hs := flat_of_before _ hgv
  have hA : ∀ a : Nat, a < s.heap.size → ¬ (fun q : Nat => s.heap.size ≤ q) a := fun a h => Nat.not_le.mpr h
  obtain ⟨D, yI, yO, yL, yD, hK⟩ := known_start hts0
  have h1 : (Cond.arrayOf (Term.static "java/util/ArrayList" "DEFAULTCAPACITY_EMPTY_ELEMENTDATA" "[Ljava/lang/Object;") (.object "java/lang/Object")).before #[Value.ref b] s = true := hs _ (by decide +kernel)
  have h2 : (Cond.eq (.length (Term.static "java/util/ArrayList" "DEFAULTCAPACITY_EMPTY_ELEMENTDATA" "[Ljava/lang/Object;")) (.int 0)).before #[Value.ref b] s = true := hs _ (by decide +kernel)
  obtain ⟨aE, eE, tE⟩ := va_Tof (N := 0) (f := fun _ => .null) (A := fun q : Nat => s.heap.size ≤ q) (by decide) h1 (eq_ev (v := .int (Int32.ofNat 0)) h2 rfl) (fun j hj => absurd hj (Nat.not_lt_zero j)) hA
  have zE := va_Zof (A := fun q : Nat => s.heap.size ≤ q) (hts0 _ (List.mem_of_getElem? (i := 101) (show lw_tbl[101]? = some ((Jvm.Cond.laysStatic "java/util/ArrayList" "DEFAULTCAPACITY_EMPTY_ELEMENTDATA" "[Ljava/lang/Object;")) by decide +kernel))) (hts0 _ (List.mem_of_getElem? (i := 48) (show lw_tbl[48]? = some ((Jvm.Cond.initialized "java/util/ArrayList")) by decide +kernel))) eE hA
  have h3 : (Cond.eq (.static "java/lang/Integer$IntegerCache" "high" "I") (.int 127)).before #[Value.ref b] s = true := hs _ (by decide +kernel)
  have zH := va_Zof (A := fun q : Nat => s.heap.size ≤ q) (hts0 _ (List.mem_of_getElem? (i := 1180) (show lw_tbl[1180]? = some ((Jvm.Cond.laysStatic "java/lang/Integer$IntegerCache" "high" "I")) by decide +kernel))) (hts0 _ (List.mem_of_getElem? (i := 78) (show lw_tbl[78]? = some ((Jvm.Cond.initialized "java/lang/Integer$IntegerCache")) by decide +kernel))) (eq_ev (v := .int 127) h3 rfl) hA
  have h4 : (Cond.eq (.length (Term.static "java/lang/Integer$IntegerCache" "cache" "[Ljava/lang/Integer;")) (.int 256)).before #[Value.ref b] s = true := hs _ (by decide +kernel)
  have h5 : (Cond.arrayOf (Term.static "java/lang/Integer$IntegerCache" "cache" "[Ljava/lang/Integer;") (.object "java/lang/Integer")).before #[Value.ref b] s = true := hs _ (by decide +kernel)
  have h6 : (Cond.all (Term.static "java/lang/Integer$IntegerCache" "cache" "[Ljava/lang/Integer;") (.and (.exactly (.elem (Term.static "java/lang/Integer$IntegerCache" "cache" "[Ljava/lang/Integer;") (.index 0)) "java/lang/Integer") (.eq (.field (.elem (Term.static "java/lang/Integer$IntegerCache" "cache" "[Ljava/lang/Integer;") (.index 0)) "java/lang/Integer" "value" "I") (.sub (.index 0) (.int 128))))).before #[Value.ref b] s = true := hs _ (by decide +kernel)
  obtain ⟨ad, cB, eB⟩ := vb_Cof (st := (Term.static "java/lang/Integer$IntegerCache" "cache" "[Ljava/lang/Integer;")) (A := fun q : Nat => s.heap.size ≤ q) rfl (eq_ev (v := .int (Int32.ofNat 256)) h4 rfl) h6 hA
  obtain ⟨aC, eC, tC⟩ := va_Tof (N := 256) (f := fun j => .ref (ad j)) (A := fun q : Nat => s.heap.size ≤ q) (by decide) h5 (eq_ev (v := .int (Int32.ofNat 256)) h4 rfl) eB hA
  have zC := va_Zof (A := fun q : Nat => s.heap.size ≤ q) (hts0 _ (List.mem_of_getElem? (i := 1182) (show lw_tbl[1182]? = some ((Jvm.Cond.laysStatic "java/lang/Integer$IntegerCache" "cache" "[Ljava/lang/Integer;")) by decide +kernel))) (hts0 _ (List.mem_of_getElem? (i := 78) (show lw_tbl[78]? = some ((Jvm.Cond.initialized "java/lang/Integer$IntegerCache")) by decide +kernel))) eC hA
  have h7 : (Cond.isRef (.static "java/lang/Throwable" "UNASSIGNED_STACK" "[Ljava/lang/StackTraceElement;")).before #[Value.ref b] s = true := hs _ (by decide +kernel)
  have h8 : (Cond.isRef (.static "java/lang/Throwable" "SUPPRESSED_SENTINEL" "Ljava/util/List;")).before #[Value.ref b] s = true := hs _ (by decide +kernel)
  have qU := vx_Zqof (C := Bundle.tN) (n := "UNASSIGNED_STACK") (d := Bundle.steD) (A := fun q : Nat => s.heap.size ≤ q) (hts0 _ (List.mem_of_getElem? (i := 384) (show lw_tbl[384]? = some ((Jvm.Cond.laysStatic "java/lang/Throwable" "UNASSIGNED_STACK" "[Ljava/lang/StackTraceElement;")) by decide +kernel))) (hts0 _ (List.mem_of_getElem? (i := 53) (show lw_tbl[53]? = some ((Jvm.Cond.initialized "java/lang/Throwable")) by decide +kernel))) h7 hA
  have qN := vx_Zqof (C := Bundle.tN) (n := "SUPPRESSED_SENTINEL") (d := Bundle.listD) (A := fun q : Nat => s.heap.size ≤ q) (hts0 _ (List.mem_of_getElem? (i := 386) (show lw_tbl[386]? = some ((Jvm.Cond.laysStatic "java/lang/Throwable" "SUPPRESSED_SENTINEL" "Ljava/util/List;")) by decide +kernel))) (hts0 _ (List.mem_of_getElem? (i := 53) (show lw_tbl[53]? = some ((Jvm.Cond.initialized "java/lang/Throwable")) by decide +kernel))) h8 hA
  have h9 : (Cond.isRef (.mirror "[Ljava/lang/Object;")).before #[Value.ref b] s = true := hs _ (by decide +kernel)
  obtain ⟨mi, hmi⟩ := va_Mi.of h9
  have s252 : (Cond.exactly (.string "Pegboardry" 252) "java/lang/String").before #[Value.ref b] s = true := hs _ (by decide +kernel)
  obtain ⟨a252, e252⟩ := str_ev s252
  have s255 : (Cond.exactly (.string "Pegboardry" 255) "java/lang/String").before #[Value.ref b] s = true := hs _ (by decide +kernel)
  obtain ⟨a255, e255⟩ := str_ev s255
  have s183 : (Cond.exactly (.string "Pegboardry" 183) "java/lang/String").before #[Value.ref b] s = true := hs _ (by decide +kernel)
  obtain ⟨a183, e183⟩ := str_ev s183
  have s181 : (Cond.exactly (.string "Pegboardry" 181) "java/lang/String").before #[Value.ref b] s = true := hs _ (by decide +kernel)
  obtain ⟨a181, e181⟩ := str_ev s181
  have s112 : (Cond.exactly (.string "Pegboardry" 112) "java/lang/String").before #[Value.ref b] s = true := hs _ (by decide +kernel)
  obtain ⟨a112, e112⟩ := str_ev s112
  have s243 : (Cond.exactly (.string "Pegboardry" 243) "java/lang/String").before #[Value.ref b] s = true := hs _ (by decide +kernel)
  obtain ⟨a243, e243⟩ := str_ev s243
  have n0 : (Cond.not (.castable "java/lang/IllegalArgumentException" "java/lang/IndexOutOfBoundsException")).before #[Value.ref b] s = true := hs _ (by decide +kernel)
  have n1 : (Cond.not (.castable "java/lang/IllegalStateException" "java/lang/IndexOutOfBoundsException")).before #[Value.ref b] s = true := hs _ (by decide +kernel)
  have n2 : (Cond.not (.castable "java/lang/IllegalStateException" "java/lang/IllegalArgumentException")).before #[Value.ref b] s = true := hs _ (by decide +kernel)
  refine ⟨(D, ((yI, yO, yL, yD), ((aE, aC, mi), (ad, ((fun k => if k = 252 then a252 else if k = 255 then a255 else if k = 183 then a183 else if k = 181 then a181 else if k = 112 then a112 else if k = 243 then a243 else 0), fun _ => False))))), hK, ⟨fun w hw => nw_of (List.mem_filter.mp hw).2 (hts0 w (List.mem_filter.mp hw).1), fun f hf => ?_, va_AO.of (A := #[Value.ref b]) (hts0 _ (List.mem_of_getElem? (i := 526) (show lw_tbl[526]? = some ((Jvm.Cond.arrayOver (Jvm.ClassFile.FieldType.object "java/lang/Object"))) by decide +kernel))), hmi, va_Dc.of (hts0 _ (List.mem_of_getElem? (i := 1403) (show lw_tbl[1403]? = some ((Jvm.Cond.declares ({ cls := "java/lang/Object", name := "getClass", desc := "()Ljava/lang/Class;" } : Jvm.MethodName))) by decide +kernel))), fun q hq => ?_, fun q hq => ?_⟩, zE, tE, zH, zC, tC, cB, qU, qN, fun y hy => hy.elim⟩
  · simp only [FWs, List.mem_cons, List.not_mem_nil, or_false] at hf
    rcases hf with rfl | rfl | rfl | rfl | rfl | rfl | rfl
    · exact va_Fw.of (hts0 _ (List.mem_of_getElem? (i := 957) (show lw_tbl[957]? = some ((Jvm.Cond.declares ({ cls := "java/util/List", name := "size", desc := "()I" } : Jvm.MethodName))) by decide +kernel))) (hts0 _ (List.mem_of_getElem? (i := 956) (show lw_tbl[956]? = some ((Jvm.Cond.interfaceMethod "java/util/List" "java/util/List" "size" "()I")) by decide +kernel))) (hts0 _ (List.mem_of_getElem? (i := 961) (show lw_tbl[961]? = some ((Jvm.Cond.publicMethod ({ cls := "java/util/ArrayList", name := "size", desc := "()I" } : Jvm.MethodName))) by decide +kernel))) (hts0 _ (List.mem_of_getElem? (i := 960) (show lw_tbl[960]? = some ((Jvm.Cond.unhidden "java/util/ArrayList" "size" "()I")) by decide +kernel))) (hts0 _ (List.mem_of_getElem? (i := 958) (show lw_tbl[958]? = some ((Jvm.Cond.castable "java/util/ArrayList" "java/util/List")) by decide +kernel)))
    · exact va_Fw.of (hts0 _ (List.mem_of_getElem? (i := 990) (show lw_tbl[990]? = some ((Jvm.Cond.declares ({ cls := "java/util/List", name := "add", desc := "(Ljava/lang/Object;)Z" } : Jvm.MethodName))) by decide +kernel))) (hts0 _ (List.mem_of_getElem? (i := 989) (show lw_tbl[989]? = some ((Jvm.Cond.interfaceMethod "java/util/List" "java/util/List" "add" "(Ljava/lang/Object;)Z")) by decide +kernel))) (hts0 _ (List.mem_of_getElem? (i := 993) (show lw_tbl[993]? = some ((Jvm.Cond.publicMethod ({ cls := "java/util/ArrayList", name := "add", desc := "(Ljava/lang/Object;)Z" } : Jvm.MethodName))) by decide +kernel))) (hts0 _ (List.mem_of_getElem? (i := 992) (show lw_tbl[992]? = some ((Jvm.Cond.unhidden "java/util/ArrayList" "add" "(Ljava/lang/Object;)Z")) by decide +kernel))) (hts0 _ (List.mem_of_getElem? (i := 958) (show lw_tbl[958]? = some ((Jvm.Cond.castable "java/util/ArrayList" "java/util/List")) by decide +kernel)))
    · exact va_Fw.of (hts0 _ (List.mem_of_getElem? (i := 1104) (show lw_tbl[1104]? = some ((Jvm.Cond.declares ({ cls := "java/util/List", name := "iterator", desc := "()Ljava/util/Iterator;" } : Jvm.MethodName))) by decide +kernel))) (hts0 _ (List.mem_of_getElem? (i := 1103) (show lw_tbl[1103]? = some ((Jvm.Cond.interfaceMethod "java/util/List" "java/util/List" "iterator" "()Ljava/util/Iterator;")) by decide +kernel))) (hts0 _ (List.mem_of_getElem? (i := 1108) (show lw_tbl[1108]? = some ((Jvm.Cond.publicMethod ({ cls := "java/util/ArrayList", name := "iterator", desc := "()Ljava/util/Iterator;" } : Jvm.MethodName))) by decide +kernel))) (hts0 _ (List.mem_of_getElem? (i := 1106) (show lw_tbl[1106]? = some ((Jvm.Cond.unhidden "java/util/ArrayList" "iterator" "()Ljava/util/Iterator;")) by decide +kernel))) (hts0 _ (List.mem_of_getElem? (i := 958) (show lw_tbl[958]? = some ((Jvm.Cond.castable "java/util/ArrayList" "java/util/List")) by decide +kernel)))
    · exact va_Fw.of (hts0 _ (List.mem_of_getElem? (i := 1301) (show lw_tbl[1301]? = some ((Jvm.Cond.declares ({ cls := "java/util/List", name := "isEmpty", desc := "()Z" } : Jvm.MethodName))) by decide +kernel))) (hts0 _ (List.mem_of_getElem? (i := 1300) (show lw_tbl[1300]? = some ((Jvm.Cond.interfaceMethod "java/util/List" "java/util/List" "isEmpty" "()Z")) by decide +kernel))) (hts0 _ (List.mem_of_getElem? (i := 1305) (show lw_tbl[1305]? = some ((Jvm.Cond.publicMethod ({ cls := "java/util/ArrayList", name := "isEmpty", desc := "()Z" } : Jvm.MethodName))) by decide +kernel))) (hts0 _ (List.mem_of_getElem? (i := 1303) (show lw_tbl[1303]? = some ((Jvm.Cond.unhidden "java/util/ArrayList" "isEmpty" "()Z")) by decide +kernel))) (hts0 _ (List.mem_of_getElem? (i := 958) (show lw_tbl[958]? = some ((Jvm.Cond.castable "java/util/ArrayList" "java/util/List")) by decide +kernel)))
    · exact va_Fw.of (hts0 _ (List.mem_of_getElem? (i := 1132) (show lw_tbl[1132]? = some ((Jvm.Cond.declares ({ cls := "java/util/Iterator", name := "hasNext", desc := "()Z" } : Jvm.MethodName))) by decide +kernel))) (hts0 _ (List.mem_of_getElem? (i := 1131) (show lw_tbl[1131]? = some ((Jvm.Cond.interfaceMethod "java/util/Iterator" "java/util/Iterator" "hasNext" "()Z")) by decide +kernel))) (hts0 _ (List.mem_of_getElem? (i := 1137) (show lw_tbl[1137]? = some ((Jvm.Cond.publicMethod ({ cls := "java/util/ArrayList$Itr", name := "hasNext", desc := "()Z" } : Jvm.MethodName))) by decide +kernel))) (hts0 _ (List.mem_of_getElem? (i := 1135) (show lw_tbl[1135]? = some ((Jvm.Cond.unhidden "java/util/ArrayList$Itr" "hasNext" "()Z")) by decide +kernel))) (hts0 _ (List.mem_of_getElem? (i := 1133) (show lw_tbl[1133]? = some ((Jvm.Cond.castable "java/util/ArrayList$Itr" "java/util/Iterator")) by decide +kernel)))
    · exact va_Fw.of (hts0 _ (List.mem_of_getElem? (i := 1015) (show lw_tbl[1015]? = some ((Jvm.Cond.declares ({ cls := "java/util/List", name := "get", desc := "(I)Ljava/lang/Object;" } : Jvm.MethodName))) by decide +kernel))) (hts0 _ (List.mem_of_getElem? (i := 1014) (show lw_tbl[1014]? = some ((Jvm.Cond.interfaceMethod "java/util/List" "java/util/List" "get" "(I)Ljava/lang/Object;")) by decide +kernel))) (hts0 _ (List.mem_of_getElem? (i := 1018) (show lw_tbl[1018]? = some ((Jvm.Cond.publicMethod ({ cls := "java/util/ArrayList", name := "get", desc := "(I)Ljava/lang/Object;" } : Jvm.MethodName))) by decide +kernel))) (hts0 _ (List.mem_of_getElem? (i := 1017) (show lw_tbl[1017]? = some ((Jvm.Cond.unhidden "java/util/ArrayList" "get" "(I)Ljava/lang/Object;")) by decide +kernel))) (hts0 _ (List.mem_of_getElem? (i := 958) (show lw_tbl[958]? = some ((Jvm.Cond.castable "java/util/ArrayList" "java/util/List")) by decide +kernel)))
    · exact va_Fw.of (hts0 _ (List.mem_of_getElem? (i := 1142) (show lw_tbl[1142]? = some ((Jvm.Cond.declares ({ cls := "java/util/Iterator", name := "next", desc := "()Ljava/lang/Object;" } : Jvm.MethodName))) by decide +kernel))) (hts0 _ (List.mem_of_getElem? (i := 1141) (show lw_tbl[1141]? = some ((Jvm.Cond.interfaceMethod "java/util/Iterator" "java/util/Iterator" "next" "()Ljava/lang/Object;")) by decide +kernel))) (hts0 _ (List.mem_of_getElem? (i := 1146) (show lw_tbl[1146]? = some ((Jvm.Cond.publicMethod ({ cls := "java/util/ArrayList$Itr", name := "next", desc := "()Ljava/lang/Object;" } : Jvm.MethodName))) by decide +kernel))) (hts0 _ (List.mem_of_getElem? (i := 1144) (show lw_tbl[1144]? = some ((Jvm.Cond.unhidden "java/util/ArrayList$Itr" "next" "()Ljava/lang/Object;")) by decide +kernel))) (hts0 _ (List.mem_of_getElem? (i := 1133) (show lw_tbl[1133]? = some ((Jvm.Cond.castable "java/util/ArrayList$Itr" "java/util/Iterator")) by decide +kernel)))
  · simp only [STs, List.mem_cons, List.not_mem_nil, or_false] at hq
    rcases hq with rfl | rfl | rfl | rfl | rfl | rfl
    · exact vk_R.of (hts0 _ (List.mem_of_getElem? (i := 579) (show lw_tbl[579]? = some ((Jvm.Cond.stringRef "Pegboardry" (252 : Nat) "there is no such puzzle")) by decide +kernel))) e252
    · exact vk_R.of (hts0 _ (List.mem_of_getElem? (i := 586) (show lw_tbl[586]? = some ((Jvm.Cond.stringRef "Pegboardry" (255 : Nat) "there is no such cell")) by decide +kernel))) e255
    · exact vk_R.of (hts0 _ (List.mem_of_getElem? (i := 821) (show lw_tbl[821]? = some ((Jvm.Cond.stringRef "Pegboardry" (183 : Nat) "no proof was begun")) by decide +kernel))) e183
    · exact vk_R.of (hts0 _ (List.mem_of_getElem? (i := 820) (show lw_tbl[820]? = some ((Jvm.Cond.stringRef "Pegboardry" (181 : Nat) "there is no such rule or value")) by decide +kernel))) e181
    · exact vk_R.of (hts0 _ (List.mem_of_getElem? (i := 664) (show lw_tbl[664]? = some ((Jvm.Cond.stringRef "Pegboardry" (112 : Nat) "the seed or the highest rule is out of range")) by decide +kernel))) e112
    · exact vk_R.of (hts0 _ (List.mem_of_getElem? (i := 910) (show lw_tbl[910]? = some ((Jvm.Cond.stringRef "Pegboardry" (243 : Nat) "there are no puzzles")) by decide +kernel))) e243
  · simp only [NCs, List.mem_cons, List.not_mem_nil, or_false] at hq
    rcases hq with rfl | rfl | rfl
    · exact va_Nc.of n0
    · exact va_Nc.of n1
    · exact va_Nc.of n2
