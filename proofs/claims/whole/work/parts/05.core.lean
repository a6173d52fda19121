/-! the words that every method of this claim is given, in one list; the words that a caller hands on; the world's surroundings -/
def WW : List Cond := lw_tbl.filter goodWord
theorem inW {w : Cond} (i : Nat) (h : lw_tbl[i]? = some w) (hg : goodWord w = true) : w ∈ WW := List.mem_filter.mpr ⟨List.mem_of_getElem? h, hg⟩
theorem gWW {w : Cond} (h : w ∈ WW) : (w.onTables && w.keeps) = true ∨ ∃ ty, w = .arrayClass ty := good_of_word (List.mem_filter.mp h).2
theorem gI {w : Cond} (h : w ∈ WW) : GoodIn WW (w :: WW) := fun v hv => by
  rcases List.mem_cons.mp hv with rfl | h2
  · exact ⟨h, gWW h⟩
  · exact ⟨h2, gWW h2⟩
theorem gApp {a : List Cond} {w : Cond} (ha : ∀ u ∈ a, u ∈ WW) (h : w ∈ WW) : GoodIn WW (a ++ (w :: WW)) := fun v hv => by
  rcases List.mem_append.mp hv with h2 | h2
  · exact ⟨ha v h2, gWW (ha v h2)⟩
  · exact gI h v h2
theorem gV {own C : String} {idx : Nat} {y : MethodName} {w : Cond} (h1 : Cond.methodLink own idx y ∈ WW) (h2 : Cond.instanceMethod y ∈ WW) (h3 : Cond.selects C y y ∈ WW) (h4 : Cond.initialized C ∈ WW) (h5 : w ∈ WW) : GoodIn WW (wsV own idx C y (w :: WW)) :=
  gApp (fun u hu => by
    simp only [List.mem_cons, List.not_mem_nil, or_false] at hu
    rcases hu with rfl | rfl | rfl | rfl
    · exact h1
    · exact h2
    · exact h3
    · exact h4) h5
theorem gSt {own : String} {idx : Nat} {y : MethodName} {w : Cond} (h1 : Cond.methodLink own idx y ∈ WW) (h2 : Cond.static y ∈ WW) (h4 : Cond.initialized y.cls ∈ WW) (h5 : w ∈ WW) : GoodIn WW (va_wsS own idx y (w :: WW)) :=
  gApp (fun u hu => by
    simp only [List.mem_cons, List.not_mem_nil, or_false] at hu
    rcases hu with rfl | rfl | rfl
    · exact h1
    · exact h2
    · exact h4) h5
theorem gF {own C : String} {idx : Nat} {x y : MethodName} {w : Cond} (h1 : Cond.methodLink own idx x ∈ WW) (h2 : Cond.selects C x y ∈ WW) (h3 : Cond.instanceMethod y ∈ WW) (h4 : Cond.initialized y.cls ∈ WW) (h5 : w ∈ WW) : GoodIn WW (va_wsF own idx C x y (w :: WW)) :=
  gApp (fun u hu => by
    simp only [List.mem_cons, List.not_mem_nil, or_false] at hu
    rcases hu with rfl | rfl | rfl | rfl
    · exact h1
    · exact h2
    · exact h3
    · exact h4) h5
/-- words that speak of a nest or of casts: they go from a caller to its callee -/
def nwk (w : Cond) : Bool := match w with
  | .fieldLinkNest _ _ _ _ _ _ => true
  | .methodLinkNest _ _ _ _ => true
  | .castable _ _ => true
  | .declares _ => true
  | _ => false
def NWs : List Cond := lw_tbl.filter nwk
theorem inN {w : Cond} (i : Nat) (h : lw_tbl[i]? = some w) (hg : nwk w = true) : w ∈ NWs := List.mem_filter.mpr ⟨List.mem_of_getElem? h, hg⟩
theorem nw_warm {w : Cond} (h : nwk w = true) {s U : State} (hW : s.WarmedH U.vm) (hz : va_Nw w s) : va_Nw w U := by
  cases w <;> first | exact va_Nw.warmF hW hz | exact va_Nw.warmM hW hz | exact va_Nw.warmC hW hz | exact va_Nw.warmD hW hz | exact absurd h (by simp [nwk])
theorem nw_same {w : Cond} (h : nwk w = true) {s U : State} (hv : s.vm = U.vm) (hz : va_Nw w s) : va_Nw w U := by
  refine va_Nw.same ?_ hv hz
  cases w <;> first | rfl | exact absurd h (by simp [nwk])
/-- calls through an interface -/
def FWs : List (String × MethodName × MethodName) := [(RJx4a65c, ⟨"java/util/List", "size", "()I"⟩, yJx4a65c_size_8abf5), (RJx4a65c, ⟨"java/util/List", "add", "(Ljava/lang/Object;)Z"⟩, yJx4a65c_add_9ea2d), (RJx4a65c, ⟨"java/util/List", "iterator", "()Ljava/util/Iterator;"⟩, yJx4a65c_iterator_32c93), (RJx4a65c, ⟨"java/util/List", "isEmpty", "()Z"⟩, yJx4a65c_isEmpty_aae02), (RJx35411, ⟨"java/util/Iterator", "hasNext", "()Z"⟩, yJx35411_hasNext_aae02), (RJx4a65c, ⟨"java/util/List", "get", "(I)Ljava/lang/Object;"⟩, yJx4a65c_get_915e3), (RJx35411, ⟨"java/util/Iterator", "next", "()Ljava/lang/Object;"⟩, yJx35411_next_0502b)]
theorem FWs_ok : ∀ f ∈ FWs, f.2.1.cls ≠ "java/lang/invoke/MethodHandle" ∧ f.2.1.cls ≠ "java/lang/invoke/VarHandle" := by decide +kernel
/-- texts of what is thrown -/
def STs : List (String × Nat × String) := [(RX6, 252, "there is no such puzzle"), (RX6, 255, "there is no such cell"), (RX6, 183, "no proof was begun"), (RX6, 181, "there is no such rule or value"), (RX6, 112, "the seed or the highest rule is out of range"), (RX6, 243, "there are no puzzles")]
/-- a class that is no other -/
def NCs : List (String × String) := [("java/lang/IllegalArgumentException", "java/lang/IndexOutOfBoundsException"), ("java/lang/IllegalStateException", "java/lang/IndexOutOfBoundsException"), ("java/lang/IllegalStateException", "java/lang/IllegalArgumentException")]
/-- the numbers of a run: the classes' and arrays', the addresses of what the JDK's statics hold -/
abbrev GG : Type := va_G × ((ClassId × ClassId × ClassId × ClassId) × ((Nat × Nat × Nat) × ((Nat → Nat) × ((Nat → Nat) × (Nat → Prop)))))
abbrev gD (G : GG) : va_G := G.1
abbrev gyI (G : GG) : ClassId := G.2.1.1
abbrev gyO (G : GG) : ClassId := G.2.1.2.1
abbrev gyL (G : GG) : ClassId := G.2.1.2.2.1
abbrev gyD (G : GG) : ClassId := G.2.1.2.2.2
abbrev gE (G : GG) : Nat := G.2.2.1.1
abbrev gC (G : GG) : Nat := G.2.2.1.2.1
abbrev gM (G : GG) : Nat := G.2.2.1.2.2
abbrev gA (G : GG) : Nat → Nat := G.2.2.2.1
abbrev gS (G : GG) : Nat → Nat := G.2.2.2.2.1
abbrev gOB (G : GG) : Nat → Prop := G.2.2.2.2.2
abbrev gSet (G : GG) (P : Nat → Prop) : GG := (G.1, (G.2.1, (G.2.2.1, (G.2.2.2.1, (G.2.2.2.2.1, P)))))
abbrev gT (G : GG) : List (ClassId × FieldType) := [(gyI G, .int), (gyO G, .object "java/lang/Object"), (gyL G, .long), (gyD G, .double)]
/-- what the tables say that isn't in WW -/
def EVt (G : GG) (U : State) : Prop := (∀ w ∈ NWs, va_Nw w U) ∧ (∀ f ∈ FWs, va_Fw f.1 f.2.1 f.2.2 U) ∧ va_AO "java/lang/Object" U ∧ va_Mi "[Ljava/lang/Object;" (gM G) U ∧ va_Dc U ∧ (∀ q ∈ STs, vk_R q.1 q.2.1 q.2.2 (gS G q.2.1) U) ∧ ∀ q ∈ NCs, va_Nc q.1 q.2 U
/-- what the JDK's statics hold -/
def EVh (G : GG) (A : Nat → Prop) (U : State) (H : Heap) : Prop :=
  va_Z "java/util/ArrayList" "DEFAULTCAPACITY_EMPTY_ELEMENTDATA" "[Ljava/lang/Object;" (.ref (gE G)) A U H ∧ va_T (.object "java/lang/Object") (gE G) 0 (fun _ => .null) A U H ∧
  va_Z "java/lang/Integer$IntegerCache" "high" "I" (.int 127) A U H ∧ va_Z "java/lang/Integer$IntegerCache" "cache" "[Ljava/lang/Integer;" (.ref (gC G)) A U H ∧ va_T (.object "java/lang/Integer") (gC G) 256 (fun j => .ref (gA G j)) A U H ∧ vb_C (gA G) A U H ∧
  vx_Zq Bundle.tN "UNASSIGNED_STACK" Bundle.steD A U H ∧ vx_Zq Bundle.tN "SUPPRESSED_SENTINEL" Bundle.listD A U H ∧ (∀ y : Nat, gOB G y → ¬ A y ∧ va_Any "java/lang/Object" U H y)
def EV (G : GG) (A : Nat → Prop) (U : State) (H : Heap) : Prop := EVt G U ∧ EVh G A U H
theorem EVt.same {G : GG} {s U : State} (hv : s.vm = U.vm) (h : EVt G s) : EVt G U := by
  obtain ⟨h1, h2, h3, h4, h5, h6, h7⟩ := h
  have ha : s.vm.Alike U.vm := by rw [hv]; exact Vm.Alike.refl _
  exact ⟨fun w hw => nw_same (List.mem_filter.mp hw).2 hv (h1 w hw), fun f hf => va_Fw.moved (FWs_ok f hf) ha (h2 f hf), va_AO.moved ha h3, va_Mi.moved ha h4, va_Dc.moved ha h5, fun q hq => vk_R.same hv.symm (h6 q hq), fun q hq => va_Nc.moved ha (h7 q hq)⟩
theorem EVt.warm {G : GG} {s U : State} (hW : s.WarmedH U.vm) (h : EVt G s) : EVt G U := by
  obtain ⟨h1, h2, h3, h4, h5, h6, h7⟩ := h
  have ha := hW.alike
  exact ⟨fun w hw => nw_warm (List.mem_filter.mp hw).2 hW (h1 w hw), fun f hf => va_Fw.moved (FWs_ok f hf) ha (h2 f hf), va_AO.moved ha h3, va_Mi.moved ha h4, va_Dc.moved ha h5, fun q hq => vk_R.warm hW (h6 q hq), fun q hq => va_Nc.moved ha (h7 q hq)⟩
theorem any_moved {E : String} {u U : State} {H : Heap} {y : Nat} (hv : u.vm.Alike U.vm) (h : va_Any E u H y) : va_Any E U H y := by
  obtain ⟨c, h1, h2, ⟨kC, hk⟩, h3⟩ := h
  obtain ⟨k', hk', -⟩ := hv.2.2 _ _ hk
  exact ⟨c, h1, h2, ⟨k', hk'⟩, fun comp hc => by rw [hv.findClass] at hc; rw [hv.assignable]; exact h3 comp hc⟩
theorem any_kept {E : String} {U : State} {H H1 : Heap} {y : Nat} (h : va_Any E U H y) (hq : H1[y]? = H[y]?) : va_Any E U H1 y := by
  obtain ⟨c, h1, h2⟩ := h
  exact ⟨c, by rw [hq]; exact h1, h2⟩
theorem any_lt {E : String} {U : State} {H : Heap} {y : Nat} (h : va_Any E U H y) : y < H.size := by
  obtain ⟨c, h1, -⟩ := h
  exact (Array.getElem?_eq_some_iff.mp h1).1
theorem EVh.moved {G : GG} {A : Nat → Prop} {u U : State} {H : Heap} (hv : u.vm.Alike U.vm) (h : EVh G A u H) : EVh G A U H := by
  obtain ⟨h1, h2, h3, h4, h5, h6, h7, h8, h9⟩ := h
  exact ⟨h1.moved hv, h2.moved hv, h3.moved hv, h4.moved hv, h5.moved hv, h6.moved hv, h7.moved hv, h8.moved hv, fun y hy => ⟨(h9 y hy).1, any_moved hv (h9 y hy).2⟩⟩
theorem EVh.kept {G : GG} {A : Nat → Prop} {U : State} {H H1 : Heap} (h : EVh G A U H) (hq : ∀ a : Nat, a < H.size → ¬ A a → H1[a]? = H[a]?) : EVh G A U H1 := by
  obtain ⟨h1, h2, h3, h4, h5, h6, h7, h8, h9⟩ := h
  exact ⟨h1.kept hq, h2.kept hq, h3.kept hq, h4.kept hq, h5.kept hq, h6.kept hq, h7.kept hq, h8.kept hq, fun y hy => ⟨(h9 y hy).1, any_kept (h9 y hy).2 (hq y (any_lt (h9 y hy).2) (h9 y hy).1)⟩⟩
theorem EVh.narrow {G : GG} {A B : Nat → Prop} {U : State} {H : Heap} (h : EVh G A U H) (hAB : ∀ q, B q → A q) : EVh G B U H := by
  obtain ⟨h1, h2, h3, h4, h5, h6, h7, h8, h9⟩ := h
  exact ⟨h1.narrow hAB, h2.narrow hAB, h3.narrow hAB, h4.narrow hAB, h5.narrow hAB, h6.narrow hAB, h7.narrow hAB, h8.narrow hAB, fun y hy => ⟨fun z => (h9 y hy).1 (hAB y z), (h9 y hy).2⟩⟩
theorem EV.same {G : GG} {A : Nat → Prop} {s U : State} {H : Heap} (hv : s.vm = U.vm) (h : EV G A s H) : EV G A U H := ⟨h.1.same hv, h.2.moved (by rw [hv]; exact Vm.Alike.refl _)⟩
/-- a method's start: what it is given -/
def PW (G : GG) (ws : va_W) (sz : Nat) (U : State) : Prop := U.heap.size = sz ∧ va_P (gD G) vwCl ws U.heap ∧ va_K (gD G) vwCl (gT G) U ∧ va_D (fun _ => True) ws ∧ EV G (va_A ws sz) U U.heap
def QW (G : GG) (A : Nat → Prop) (w1 : va_W) (t : State) : Prop := va_P (gD G) vwCl w1 t.heap ∧ va_D A w1
theorem PW.blind {G : GG} {ws : va_W} {sz : Nat} {As : List Value} : FrameBlind (va_Pc As (PW G ws sz)) := fun a U g mk h => by
  obtain ⟨h0, h1, h2, h3, h4, h5⟩ := h
  exact ⟨h0, h1, h2, va_K.moved (u := U) (U := U.calling g mk a) (Vm.Alike.refl U.vm) h3, h4, EV.same (s := U) (U := U.calling g mk a) rfl h5⟩
/-- contracts: an int, nothing, a reference, a long -/
def Mi (l : Launch) (G : GG) (y : MethodName) (cc : ByteArray) (n : Nat) (ret : Option FieldType) (rm : Room) (As : List Value) (ws : va_W) {S : Type} (post : Int32 → S → Prop) (w1 : S → va_W) : Prop :=
  ∀ sz : Nat, Met l y (.code y cc n ret :: WW) rm (va_Pc As (PW G ws sz)) (va_Qi post (fun u t => QW G (va_A ws sz) (w1 u) t) (va_A ws sz)) rm.cells rm.slots (va_A ws sz)
def Mv (l : Launch) (G : GG) (y : MethodName) (cc : ByteArray) (n : Nat) (rm : Room) (As : List Value) (ws : va_W) {S : Type} (post : S → Prop) (w1 : S → va_W) : Prop :=
  ∀ sz : Nat, Met l y (.code y cc n none :: WW) rm (va_Pc As (PW G ws sz)) (va_Qv post (fun u t => QW G (va_A ws sz) (w1 u) t) (va_A ws sz)) rm.cells rm.slots (va_A ws sz)
def Mr (l : Launch) (G : GG) (y : MethodName) (cc : ByteArray) (n : Nat) (ret : Option FieldType) (rm : Room) (As : List Value) (ws : va_W) {S : Type} (post : S → Nat → Prop) (w1 : S → Nat → va_W) : Prop :=
  ∀ sz : Nat, Met l y (.code y cc n ret :: WW) rm (va_Pc As (PW G ws sz)) (va_Qr (fun _ : S => True) (fun u a t => post u a ∧ QW G (va_A ws sz) (w1 u a) t) (va_A ws sz)) rm.cells rm.slots (va_A ws sz)
def Ml (l : Launch) (G : GG) (y : MethodName) (cc : ByteArray) (n : Nat) (rm : Room) (As : List Value) (ws : va_W) {S : Type} (post : Int64 → S → Prop) (w1 : S → va_W) : Prop :=
  ∀ sz : Nat, Met l y (.code y cc n (some .long) :: WW) rm (va_Pc As (PW G ws sz)) (va_Ql post (fun u t => QW G (va_A ws sz) (w1 u) t) (va_A ws sz)) rm.cells rm.slots (va_A ws sz)
theorem map_fm {α : Type} {l : List Nat} {f : Nat → Option α} {w : List α} (h : l.map f = w.map some) : l.filterMap f = w := by
  have h1 : l.filterMap f = (l.map f).filterMap id := by rw [List.filterMap_map]; rfl
  rw [h1, h, List.filterMap_map]
  exact List.filterMap_some
section CORE
variable {p : Program} {l : Launch} {e : Env} {R : Room} {s : State} {m : MethodId} {args : Array Value} {below : List Frame} {meth : Method} {c : Code} {H : Heap} {locs : List Loc} {cells slots : Nat} {Q : State → Prop}
variable {G : GG} {A : Nat → Prop} {ws wc wr : va_W} {pc mc ms : Nat} {ls : Array Slot} {rest st0 : List Value} {a : Array Value}
theorem preS {As : List Value} (hK : va_K (gD G) vwCl (gT G) s) (hE : EV G A s s.heap) (hP : va_P (gD G) vwCl ws H) (hD : va_D A ws) (hS : va_S A s.heap H locs) (hA : ∀ q : Nat, s.heap.size ≤ q → A q) (isC : List Nat) (hC : isC.map (fun i => ws[i]?) = wc.map some) (hn : va_nd isC = true) : PreS s H (va_Pc As (PW G wc H.size)) As := by
  refine ⟨PW.blind, fun U hU hW => ⟨rfl, by rw [hU], by rw [hU]; exact hP.sub isC (map_fm hC), va_K.moved hW.alike hK, (hD.sub isC hn hC).weaken (fun _ _ _ _ => trivial), hE.1.warm hW, ?_⟩⟩
  rw [hU]
  exact ((hE.2.kept hS.2.1).moved hW.alike).narrow (va_free hD hS hA isC hC)
theorem preV {As : List Value} {b q0 ci : Nat} {q : vw_C} {fs : List Value} (hK : va_K (gD G) vwCl (gT G) s) (hE : EV G A s s.heap) (hP : va_P (gD G) vwCl ws H) (hD : va_D A ws) (hS : va_S A s.heap H locs) (hA : ∀ q : Nat, s.heap.size ≤ q → A q) (isC : List Nat) (hC : isC.map (fun i => ws[i]?) = wc.map some) (hn : va_nd isC = true) (hc : vwCl[ci]? = some q) (he : ws[q0]? = some (b, .inr (ci, fs))) : PreV s H q.1 b (va_Pc (.ref b :: As) (PW G wc H.size)) As :=
  ⟨PW.blind, va_recv hK hP hc he, (preS hK hE hP hD hS hA isC hC hn).2⟩
theorem EVh.set {G : GG} {A : Nat → Prop} {U : State} {H : Heap} {P : Nat → Prop} (h : EVh G A U H) (hob : ∀ y : Nat, P y → ¬ A y ∧ va_Any "java/lang/Object" U H y) : EVh (gSet G P) A U H := by
  obtain ⟨h1, h2, h3, h4, h5, h6, h7, h8, h9⟩ := h
  exact ⟨h1, h2, h3, h4, h5, h6, h7, h8, hob⟩
/-- the same with other objects outside -/
theorem preSG {As : List Value} {P : Nat → Prop} (hob : ∀ y : Nat, P y → ¬ va_A wc H.size y ∧ va_Any "java/lang/Object" s H y) (hK : va_K (gD G) vwCl (gT G) s) (hE : EV G A s s.heap) (hP : va_P (gD G) vwCl ws H) (hD : va_D A ws) (hS : va_S A s.heap H locs) (hA : ∀ q : Nat, s.heap.size ≤ q → A q) (isC : List Nat) (hC : isC.map (fun i => ws[i]?) = wc.map some) (hn : va_nd isC = true) : PreS s H (va_Pc As (PW (gSet G P) wc H.size)) As := by
  refine ⟨PW.blind, fun U hU hW => ⟨rfl, by rw [hU], by rw [hU]; exact hP.sub isC (map_fm hC), va_K.moved hW.alike hK, (hD.sub isC hn hC).weaken (fun _ _ _ _ => trivial), hE.1.warm hW, ?_⟩⟩
  rw [hU]
  exact EVh.set (((hE.2.kept hS.2.1).moved hW.alike).narrow (va_free hD hS hA isC hC)) (fun y hy => ⟨(hob y hy).1, any_moved hW.alike (hob y hy).2⟩)
theorem preVG {As : List Value} {P : Nat → Prop} {b q0 ci : Nat} {q : vw_C} {fs : List Value} (hob : ∀ y : Nat, P y → ¬ va_A wc H.size y ∧ va_Any "java/lang/Object" s H y) (hK : va_K (gD G) vwCl (gT G) s) (hE : EV G A s s.heap) (hP : va_P (gD G) vwCl ws H) (hD : va_D A ws) (hS : va_S A s.heap H locs) (hA : ∀ q : Nat, s.heap.size ≤ q → A q) (isC : List Nat) (hC : isC.map (fun i => ws[i]?) = wc.map some) (hn : va_nd isC = true) (hc : vwCl[ci]? = some q) (he : ws[q0]? = some (b, .inr (ci, fs))) : PreV s H q.1 b (va_Pc (.ref b :: As) (PW (gSet G P) wc H.size)) As :=
  ⟨PW.blind, va_recv hK hP hc he, (preSG hob hK hE hP hD hS hA isC hC hn).2⟩
theorem ob_any {v : Nat} (hE : EV G A s s.heap) (hS : va_S A s.heap H locs) (hob : gOB G v) : va_Any "java/lang/Object" s H v := by
  obtain ⟨-, -, -, -, -, -, -, -, -, h9⟩ := hE
  exact any_kept (h9 v hob).2 (hS.2.1 v (any_lt (h9 v hob).2) (h9 v hob).1)
theorem arr_recv {o n : Nat} {f : Nat → Option Nat} (hK : va_K (gD G) vwCl (gT G) s) (hP : va_P (gD G) vwCl ws H) (q1 : Nat) (he : ws[q1]? = some (o, .inl (gyO G, n, .inr (.inr (.inr (.inr f)))))) : ∃ cell : Cell, H[o]? = some cell ∧ cell.vm.isStatics = false ∧ s.vm.findClass "[Ljava/lang/Object;" = some cell.cls :=
  ⟨_, hP q1 _ he, rfl, va_nmO (hK.2 1 _ rfl).2 rfl⟩
/-- an object of the world that the callee isn't given -/
theorem ob_cell {v q0 ci : Nat} {fs : List Value} {r : vw_C} (hK : va_K (gD G) vwCl (gT G) s) (hP : va_P (gD G) vwCl ws H) (hD : va_D A ws) (he : ws[q0]? = some (v, .inr (ci, fs))) (hc : vwCl[ci]? = some r) (hasg : ∀ comp c0 : ClassId, s.vm.findClass "java/lang/Object" = some comp → s.vm.findClass r.1 = some c0 → s.vm.assignable c0 comp = true) (isC : List Nat) (hC : isC.map (fun i => ws[i]?) = wc.map some) (hq : q0 ∉ isC) : ∀ y : Nat, y = v → ¬ va_A wc H.size y ∧ va_Any "java/lang/Object" s H y := by
  rintro y rfl
  refine ⟨fun z => ?_, va_rAny hK hP he hc hasg⟩
  rcases z with ⟨k, e, hk⟩ | hk
  · have h1 : (isC.map (fun i => ws[i]?))[k]? = some (some (y, e)) := by rw [hC, List.getElem?_map, hk]; rfl
    rw [List.getElem?_map] at h1
    cases hi : isC[k]? with
    | none => rw [hi] at h1; cases h1
    | some i =>
      rw [hi] at h1
      have h2 := hD.1 q0 i _ _ he (Option.some.inj h1) rfl
      subst h2
      exact hq (List.mem_of_getElem? hi)
  · have := (hP q0 _ he).lt
    exact absurd hk (Nat.not_le.mpr this)
/-- the objects outside stay outside -/
theorem ob_in (hE : EV G A s s.heap) (hS : va_S A s.heap H locs) (hF : ∀ q, va_A wc H.size q → A q) : ∀ y : Nat, gOB G y → ¬ va_A wc H.size y ∧ va_Any "java/lang/Object" s H y := fun y hy => by
  have h9 := ob_any hE hS hy
  obtain ⟨-, -, -, -, -, -, -, -, -, h8⟩ := hE
  exact ⟨fun z => (h8 y hy).1 (hF y z), h9⟩
theorem fin_i {S : Type} {post : Int32 → S → Prop} {w1 : S → va_W} (hP : va_P (gD G) vwCl ws H) (hD : va_D A ws) (hS : va_S A s.heap H locs) (hA : ∀ q : Nat, s.heap.size ≤ q → A q) (isC isR : List Nat) (hC : isC.map (fun i => ws[i]?) = wc.map some) (hR : isR.map (fun i => ws[i]?) = wr.map some) (hn : va_nd isR = true) (hdis : ∀ i ∈ isR, i ∉ isC)
    (hr : va_Run p l e R s m args below meth c H locs cells slots mc ms (F0 m pc ls st0) rest (va_Qi post (fun u t => QW G (va_A wc H.size) (w1 u) t) (va_A wc H.size) a) (va_A wc H.size))
    (kk : ∀ (r : Int32) (u : S), post r u → ∀ (H1 : Heap) (locs1 : List Loc), va_P (gD G) vwCl (wr ++ w1 u) H1 → va_D A (wr ++ w1 u) → va_S A s.heap H1 locs1 → W p l e R s m args below meth c H1 locs1 (cells + mc) (slots + ms) Q (F0 m (pc + 3) ls (.int r :: rest))) : W p l e R s m args below meth c H locs cells slots Q (F0 m pc ls st0) := by
  have hF := va_free hD hS hA isC hC
  refine va_calli hr hS (fun q _ h => hF q h) hF (fun r u t H1 locs1 ht hvm hw hB hz1 hk1 hS1 => ?_)
  obtain ⟨hP1, hD1⟩ := hB
  rw [ht] at hP1
  obtain ⟨hP2, hD2⟩ := va_join hP hD isC isR hC hR hn hdis hk1 hF hP1 hD1
  exact kk r u hw H1 locs1 hP2 hD2 hS1
theorem fin_v {S : Type} {post : S → Prop} {w1 : S → va_W} (hP : va_P (gD G) vwCl ws H) (hD : va_D A ws) (hS : va_S A s.heap H locs) (hA : ∀ q : Nat, s.heap.size ≤ q → A q) (isC isR : List Nat) (hC : isC.map (fun i => ws[i]?) = wc.map some) (hR : isR.map (fun i => ws[i]?) = wr.map some) (hn : va_nd isR = true) (hdis : ∀ i ∈ isR, i ∉ isC)
    (hr : va_Run p l e R s m args below meth c H locs cells slots mc ms (F0 m pc ls st0) rest (va_Qv post (fun u t => QW G (va_A wc H.size) (w1 u) t) (va_A wc H.size) a) (va_A wc H.size))
    (kk : ∀ (u : S), post u → ∀ (H1 : Heap) (locs1 : List Loc), va_P (gD G) vwCl (wr ++ w1 u) H1 → va_D A (wr ++ w1 u) → va_S A s.heap H1 locs1 → W p l e R s m args below meth c H1 locs1 (cells + mc) (slots + ms) Q (F0 m (pc + 3) ls rest)) : W p l e R s m args below meth c H locs cells slots Q (F0 m pc ls st0) := by
  have hF := va_free hD hS hA isC hC
  refine va_callv hr hS (fun q _ h => hF q h) hF (fun u t H1 locs1 ht hvm hw hB hz1 hk1 hS1 => ?_)
  obtain ⟨hP1, hD1⟩ := hB
  rw [ht] at hP1
  obtain ⟨hP2, hD2⟩ := va_join hP hD isC isR hC hR hn hdis hk1 hF hP1 hD1
  exact kk u hw H1 locs1 hP2 hD2 hS1
theorem fin_r {S : Type} {post : S → Nat → Prop} {w1 : S → Nat → va_W} (hP : va_P (gD G) vwCl ws H) (hD : va_D A ws) (hS : va_S A s.heap H locs) (hA : ∀ q : Nat, s.heap.size ≤ q → A q) (isC isR : List Nat) (hC : isC.map (fun i => ws[i]?) = wc.map some) (hR : isR.map (fun i => ws[i]?) = wr.map some) (hn : va_nd isR = true) (hdis : ∀ i ∈ isR, i ∉ isC)
    (hr : va_Run p l e R s m args below meth c H locs cells slots mc ms (F0 m pc ls st0) rest (va_Qr (fun _ : S => True) (fun u ra t => post u ra ∧ QW G (va_A wc H.size) (w1 u ra) t) (va_A wc H.size) a) (va_A wc H.size))
    (kk : ∀ (u : S) (ra : Nat), post u ra → ∀ (H1 : Heap) (locs1 : List Loc), va_P (gD G) vwCl (wr ++ w1 u ra) H1 → va_D A (wr ++ w1 u ra) → va_S A s.heap H1 locs1 → W p l e R s m args below meth c H1 locs1 (cells + mc) (slots + ms) Q (F0 m (pc + 3) ls (.ref ra :: rest))) : W p l e R s m args below meth c H locs cells slots Q (F0 m pc ls st0) := by
  have hF := va_free hD hS hA isC hC
  refine va_callr hr hS (fun q _ h => hF q h) hF (fun u ra t H1 locs1 ht hvm hw hB hz1 hk1 hS1 => ?_)
  obtain ⟨hp, hP1, hD1⟩ := hB
  rw [ht] at hP1
  obtain ⟨hP2, hD2⟩ := va_join hP hD isC isR hC hR hn hdis hk1 hF hP1 hD1
  exact kk u ra hp H1 locs1 hP2 hD2 hS1
theorem qgen {g : JFrame} {Q0 : State → Prop} (k : ∀ Q : State → Prop, Q = Q0 → W p l e R s m args below meth c H locs cells slots Q g) : W p l e R s m args below meth c H locs cells slots Q0 g := k Q0 rfl
theorem hgen {g : JFrame} {w : va_W} (k : ∀ (H : Heap) (locs : List Loc), va_P (gD G) vwCl w H → va_D A w → va_S A s.heap H locs → W p l e R s m args below meth c H locs cells slots Q g) (hP : va_P (gD G) vwCl w s.heap) (hD : va_D A w) : W p l e R s m args below meth c s.heap [] cells slots Q g := k s.heap [] hP hD va_S.rf
theorem lv_toe {x y : Int32} (h : x = y) (k : W p l e R s m args below meth c H locs cells slots Q (F0 m pc ls (.int y :: rest))) : W p l e R s m args below meth c H locs cells slots Q (F0 m pc ls (.int x :: rest)) := h ▸ k
theorem lv_tol {x y : Int64} (h : x = y) (k : W p l e R s m args below meth c H locs cells slots Q (F0 m pc ls (.long y :: rest))) : W p l e R s m args below meth c H locs cells slots Q (F0 m pc ls (.long x :: rest)) := h ▸ k
end CORE
/-- rows of small numbers -/
def inB (N B : Nat) (f : Nat → Int32) : Prop := ∀ j, j < N → ∃ n, n < B ∧ f j = nI n
theorem inB.upd {N B : Nat} {f : Nat → Int32} (h : inB N B f) {k : Nat} {x : Int32} {n : Nat} (hn : n < B) (hx : x = nI n) : inB N B (upd f k x) := fun j hj => by
  by_cases e : j = k
  · subst e; exact ⟨n, hn, by rw [pk_us]; exact hx⟩
  · obtain ⟨n2, h2, h3⟩ := h j hj
    exact ⟨n2, h2, by rw [pk_un e]; exact h3⟩
theorem inB.mono {N B B2 : Nat} {f : Nat → Int32} (h : inB N B f) (hB : B ≤ B2) : inB N B2 f := fun j hj => by
  obtain ⟨n, h1, h2⟩ := h j hj
  exact ⟨n, by omega, h2⟩
theorem inB.zero {N B : Nat} (hB : 0 < B) : inB N B (fun _ => 0) := fun _ _ => ⟨0, hB, rfl⟩
/-- a row of references to objects that lie outside -/
def obR (P : Nat → Prop) (f : Nat → Option Nat) : Prop := ∀ i y, f i = some y → P y
theorem obR.none {P : Nat → Prop} : obR P (fun _ => none) := fun _ _ h => nomatch h
theorem obR.up {P : Nat → Prop} {f : Nat → Option Nat} (h : obR P f) {k v : Nat} (hv : P v) : obR P (va_up f k (some v)) := fun i y hy => by
  by_cases e : i = k
  · subst e
    rw [show va_up f i (some v) i = some v by simp [va_up]] at hy
    cases hy
    exact hv
  · rw [show va_up f k (some v) i = f i by simp [va_up, e]] at hy
    exact h i y hy
theorem obR.cpy {P : Nat → Prop} {f g : Nat → Option Nat} (hf : obR P f) (hg : obR P g) {a b n : Nat} : obR P (va_cpy f g a b n) := fun i y hy => by
  unfold va_cpy at hy
  by_cases e : b ≤ i ∧ i < b + n
  · rw [if_pos e] at hy; exact hf _ y hy
  · rw [if_neg e] at hy; exact hg _ y hy
theorem nI_max {a b : Nat} (ha : a < 2 ^ 31) (hb : b < 2 ^ 31) : (if nI a < nI b then nI b else nI a) = nI (max a b) := by
  by_cases h : a < b
  · rw [if_pos ((nI_ltI ha hb).mpr h), Nat.max_eq_right (Nat.le_of_lt h)]
  · rw [if_neg (fun z => h ((nI_ltI ha hb).mp z)), Nat.max_eq_left (Nat.not_lt.mp h)]
theorem nI_min {a b : Nat} (ha : a < 2 ^ 31) (hb : b < 2 ^ 31) : (if nI b < nI a then nI b else nI a) = nI (min a b) := by
  by_cases h : b < a
  · rw [if_pos ((nI_ltI hb ha).mpr h), Nat.min_eq_right (Nat.le_of_lt h)]
  · rw [if_neg (fun z => h ((nI_ltI hb ha).mp z)), Nat.min_eq_left (Nat.not_lt.mp h)]
theorem dec1 {n : Nat} (h : 0 < n) : nI n + Int32.ofInt (-1) = nI (n - 1) := by
  obtain ⟨k, rfl⟩ : ∃ k, n = k + 1 := ⟨n - 1, by omega⟩
  rw [Nat.add_sub_cancel]
  exact pk_m1 k
theorem lN_ne0 {n : Nat} (h0 : 0 < n) (h : n < 2 ^ 63) : ¬ lN n = 0 := fun z => by
  have := (pk_lEQ (a := n) (b := 0) h (by decide)).mp z
  omega
theorem ty_one_I {D : va_G} {cl : List vw_C} {G : GG} {s : State} {cA : ClassId} (hK : va_K D cl (gT G) s) (hKn : va_K D cl (gT G ++ [(cA, .int)]) s) : cA = gyI G :=
  Option.some.inj ((hKn.2 4 _ rfl).2.symm.trans (hK.2 0 _ rfl).2)
theorem ty_one_L {D : va_G} {cl : List vw_C} {G : GG} {s : State} {cA : ClassId} (hK : va_K D cl (gT G) s) (hKn : va_K D cl (gT G ++ [(cA, .long)]) s) : cA = gyL G :=
  Option.some.inj ((hKn.2 4 _ rfl).2.symm.trans (hK.2 2 _ rfl).2)
theorem ty_one_D {D : va_G} {cl : List vw_C} {G : GG} {s : State} {cA : ClassId} (hK : va_K D cl (gT G) s) (hKn : va_K D cl (gT G ++ [(cA, .double)]) s) : cA = gyD G :=
  Option.some.inj ((hKn.2 4 _ rfl).2.symm.trans (hK.2 3 _ rfl).2)
theorem ty_one_O {D : va_G} {cl : List vw_C} {G : GG} {s : State} {cA : ClassId} (hK : va_K D cl (gT G) s) (hKn : va_K D cl (gT G ++ [(cA, .object "java/lang/Object")]) s) : cA = gyO G := by
  obtain ⟨-, -, -, -, -, h1⟩ := (hKn.2 4 _ rfl).2
  obtain ⟨-, -, -, -, -, h2⟩ := (hK.2 1 _ rfl).2
  exact Option.some.inj (h1.symm.trans h2)
theorem fwX0 : ∀ w ∈ u_ws RX0 TX0 1, w ∈ WW := by decide +kernel
theorem fwX2 : ∀ w ∈ u_ws RX2 TX2 1, w ∈ WW := by decide +kernel
theorem fwX3 : ∀ w ∈ u_ws RX3 TX3 7, w ∈ WW := by decide +kernel
theorem fwX4 : ∀ w ∈ u_ws RX4 TX4 3, w ∈ WW := by decide +kernel
theorem fwX5 : ∀ w ∈ u_ws RX5 TX5 6, w ∈ WW := by decide +kernel
theorem fwX6 : ∀ w ∈ u_ws RX6 TX6 6, w ∈ WW := by decide +kernel
theorem fwX8 : ∀ w ∈ u_ws RX8 TX8 3, w ∈ WW := by decide +kernel
theorem fwX9 : ∀ w ∈ u_ws RX9 TX9 3, w ∈ WW := by decide +kernel
theorem fwX10 : ∀ w ∈ u_ws RX10 TX10 6, w ∈ WW := by decide +kernel
theorem fwJ6 : ∀ w ∈ u_ws RJ6 TJ6 1, w ∈ WW := by decide +kernel
theorem fwJx35411 : ∀ w ∈ u_ws RJx35411 TJx35411 4, w ∈ WW := by decide +kernel
theorem fwJx4a65c : ∀ w ∈ u_ws RJx4a65c TJx4a65c 3, w ∈ WW := by decide +kernel
