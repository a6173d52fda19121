/-! the walk as the machine has it, a start with the script, the refutation -/
def lw_PB (b : Addr) (xs : List Int32) (args : Array Value) (s : State) : Prop := args = #[.ref b] ∧ s.IntsAt b xs ∧ (Jvm.Cond.and given_1 narrow_1).before args s = true
set_option maxHeartbeats 4000000 in
theorem lw_walkB (l : Launch) (hflags : l.flags = flags0) (b : Addr) (xs : List Int32) (hxl : xs.length = 2048) (hxv : ∀ j, j < 2048 → xs.getD j 0 = nI (scrN j)) : MetFree l x (headSpec (Jvm.Cond.code x code maxLocals ret :: tables_1) roomB) (lw_PB b xs) (fun _ _ _ _ _ => True) lw_QB := by
  refine MetFree.of_bodyS (code := code) (maxLocals := maxLocals) (ret := ret) (by decide) ?_ ?_
  · intro args s m h hn
    obtain ⟨meth, c, h1, h2, h3, h4, h5, h6, -, -⟩ := Cond.code_spec hn (atoms_spec (ws := Jvm.Cond.code x code maxLocals ret :: tables_1) h _ List.mem_cons_self)
    exact ⟨meth, c, h1, h2, h3, h4, h5, h6⟩
  · intro p e s m args below meth c s₁ B hml0 hP _
    obtain ⟨rfl, hx, hgv⟩ := hP
    obtain ⟨scr, harrAt, hlist, hof, hsmall⟩ := hx
    obtain ⟨hcb, hkn, -, -⟩ := State.arrayAt?_spec harrAt
    have hown : s.vm.findClass R_law = some m.cls := findClass_of_methodNamed B.named
    have hts0 : ∀ c ∈ (Jvm.Cond.code x code maxLocals ret :: tables_1), c.before #[Value.ref b] s = true := atoms_spec (ws := Jvm.Cond.code x code maxLocals ret :: tables_1) B.pre
    have hts : ∀ w ∈ lw_tbl, w.before #[Value.ref b] s = true := k2_hts_sels lw_privs (fun w hw => hts0 w (List.mem_cons_of_mem _ hw)) lw_privs_ok
    have hml : c.maxLocals = 9 := B.maxLocals_eq (hts0 _ List.mem_cons_self)
    have X₀ : Stand p l e roomB s m #[Value.ref b] below meth c s₁ [] 0 0 := Stand.of_body B
    have hh0 : s₁.heap = s.heap := by rw [B.state]; rfl
    have hsz : scr.slots.size = xs.length := by rw [← Array.length_toList, hlist, List.length_map]
    have hval : ∀ j : Nat, j < xs.length → scr.slots[j]? = some (.int (xs.getD j 0)) := fun j hj => by
      rw [← Array.getElem?_toList, hlist]
      simp [hj]
    have hbl : b < s.heap.size := (Array.getElem?_eq_some_iff.mp hcb).1
    have hX : va_X b xs.length (fun j => xs.getD j 0) s s.heap := ⟨scr, hcb, hof, hkn, hsz, hval⟩
    have K : W p l e roomB s m #[Value.ref b] below meth c s₁.heap [] 0 0 (lw_ZB below #[Value.ref b] s) (entryFrame m ([Value.ref b] : List Value).toArray 9) := by
      rw [hh0]
      rw [hxl] at hX
      exact whole_start l hflags hxv ⟨B.exec, B.bytes, B.returns, hml, hown, hts, hX, hbl, B.notSynchronized, hgv⟩
    obtain ⟨t, a1, o, b1, b2, b3⟩ := K s₁ rfl X₀
    exact ⟨t, o, a1, b1, b2, b3⟩
def scrL : List Int32 := (List.range 2048).map fun j => nI (scrN j)
def scrA : Array Value := ⟨scrL.map .int⟩
theorem scrL_len : scrL.length = 2048 := by unfold scrL; rw [List.length_map, List.length_range]
theorem scrL_get (j : Nat) (h : j < 2048) : scrL.getD j 0 = nI (scrN j) := by
  unfold scrL
  rw [List.getD_eq_getElem?_getD, List.getElem?_map, List.getElem?_range h]
  rfl
/-- the witness's start, with the script in its cell 0 -/
def bigS : State := start1.aboutOf scrA
def bigE : Env := launch0.env 0 200000000 3000000000 0
theorem ab_vm (A B : Array Value) : (start1.aboutOf A).vm = (start1.aboutOf B).vm := rfl
theorem ab_tail (A : Array Value) : (start1.aboutOf A).heap.toList = { cls := 49, slots := A, vm := .none } :: (start1.aboutOf #[]).heap.toList.tail := rfl
theorem ab_cell (A : Array Value) : (start1.aboutOf A).heap[0]? = some { cls := 49, slots := A, vm := .none } := by
  rw [← Array.getElem?_toList, ab_tail]
  exact List.getElem?_cons_zero
theorem scrA_list : scrA.toList = scrL.map Value.int := by rw [scrA]
theorem cellFits_vm {s t : State} (h : s.vm = t.vm) (c : Cell) : cellFits s c = cellFits t c := by
  unfold cellFits State.fitsSlot State.slotType?
  rw [h]
theorem ab_fits0 : ((start1.aboutOf #[]).heap.toList.tail).all (cellFits (start1.aboutOf #[])) = true := by decide +kernel
theorem ab_kind : ((start1.aboutOf #[]).vm.classes[49]?).map (·.kind) = some (.array 48 .int) := by rfl
theorem ab_fitsInt (i : Nat) (x : Int32) : (start1.aboutOf #[]).fitsSlot 49 .none i (.int x) = true := by
  obtain ⟨k, hk, hkind⟩ := Option.map_eq_some_iff.mp ab_kind
  simp [State.fitsSlot, State.slotType?, hk, hkind, fits]
theorem big_fits : heapFits bigS = true := by
  unfold heapFits
  rw [← Array.all_toList, show bigS.heap.toList = _ from ab_tail scrA, List.all_cons, Bool.and_eq_true]
  constructor
  · rw [cellFits_vm (show bigS.vm = (start1.aboutOf #[]).vm from ab_vm scrA #[])]
    unfold cellFits
    refine List.all_eq_true.mpr fun i _ => ?_
    cases hv : scrA[i]? with
    | none => rfl
    | some v =>
      have h1 : v ∈ scrL.map Value.int := by
        have h2 : (scrL.map Value.int)[i]? = some v := by rw [← hv, ← Array.getElem?_toList, scrA_list]
        exact List.mem_of_getElem? h2
      obtain ⟨z, -, rfl⟩ := List.mem_map.mp h1
      exact ab_fitsInt i z
  · refine List.all_eq_true.mpr fun c hc => ?_
    rw [cellFits_vm (show bigS.vm = (start1.aboutOf #[]).vm from ab_vm scrA #[])]
    exact List.all_eq_true.mp ab_fits0 c hc
theorem tabs_on : (Jvm.Cond.code x code maxLocals ret :: tables_1).all (fun c => c.onTables || c.before start1.args0 bigS) = true := by decide +kernel
theorem big_words : ∀ c ∈ (Jvm.Cond.code x code maxLocals ret :: tables_1), c.before start1.args0 bigS = true := fun c hc => by
  have h0 : (c.onTables || c.before start1.args0 bigS) = true := List.all_eq_true.mp tabs_on c hc
  rw [Bool.or_eq_true] at h0
  rcases h0 with h0 | h0
  · have h1 := start1.words c hc
    have h2 := Cond.onTables_vm (A := start1.args0) (A' := start1.args0) (U := bigS) (U' := start1.about) start1.about.vm c h0
    have e1 : bigS.setVm start1.about.vm = bigS := rfl
    have e2 : start1.about.setVm start1.about.vm = start1.about := rfl
    rw [e1, e2] at h2
    rw [h2]
    exact h1
  · exact h0
set_option maxRecDepth 100000 in
theorem big_given : (Jvm.Cond.and given_1 narrow_1).before start1.args0 bigS = true := by decide +kernel
theorem ab_arr (A : Array Value) : (start1.aboutOf A).arrayAt? 0 = some { cls := 49, slots := A, vm := .none } := by
  obtain ⟨k, hk, hkind⟩ := Option.map_eq_some_iff.mp ab_kind
  have hk2 : (start1.aboutOf A).vm.classes[49]? = some k := hk
  simp [State.arrayAt?, ab_cell, hk2, hkind, VmData.isStatics]
theorem ab_of (A : Array Value) : (start1.aboutOf A).isArrayOf { cls := 49, slots := A, vm := .none } .int := by
  obtain ⟨k, hk, hkind⟩ := Option.map_eq_some_iff.mp ab_kind
  exact ⟨by simp, k, hk, 48, hkind⟩
theorem big_ints : bigS.IntsAt 0 scrL := ⟨{ cls := 49, slots := scrA, vm := .none }, ab_arr scrA, by rw [scrA], ab_of scrA, by rw [scrL_len]; decide⟩
theorem big_arg : (Term.arg 0).eval start1.args0 bigS none [] bigS = some (.ref 0) := rfl
theorem big_rest : rest_1_c.before start1.args0 bigS = true := by
  unfold rest_1_c
  rw [Cond.before_and, Bool.and_eq_true]
  refine ⟨Cond.before_iff.mpr (Cond.isInt_int (big_ints.length_eval big_arg)), Cond.before_iff.mpr (big_ints.all_value big_arg fun k hk => ?_)⟩
  exact Cond.isInt_int (big_ints.elem_nat (k := k) rfl rfl hk)
theorem big_args : argsFit bigS.vm ⟨0, 0⟩ start1.args0 = true := by decide +kernel
set_option maxRecDepth 100000 in
theorem big_true : bigS.slotsTrue = true := by decide +kernel
theorem big_room (r : Room) (h1 : bigS.frames.length + r.frames ≤ bigE.platform.maxFrames) (h4 : bigS.localsInUse + r.locals ≤ bigE.platform.maxStackSlots) (h2 : bigS.heap.size + r.cells ≤ bigE.platform.maxCells) (h3 : bigS.slotsUsed + r.slots ≤ bigE.platform.maxSlots)
    (h5 : bigS.localsInUse + r.locals + stackMargin ≤ realStackBytes / 8) : bigS.hasRoom bigE.platform r = true := State.hasRoom_of rfl h1 h4 h2 h3 big_true h5
theorem big_applies (r : Room) (hr : bigS.hasRoom bigE.platform r = true) : (headSpec (Jvm.Cond.code x code maxLocals ret :: tables_1) r).applies x bigE.platform bigS = true :=
  (Spec.applies_iff rfl).mpr ⟨rfl, rfl, rfl, by decide +kernel, by decide +kernel, by decide +kernel, hr, atoms_intro big_words⟩
theorem big_room1 : bigS.hasRoom bigE.platform room_1 = true := big_room room_1 (by decide +kernel) (by decide +kernel) (by decide +kernel) (by decide +kernel) (by decide +kernel)
theorem big_roomB : bigS.hasRoom bigE.platform roomB = true := big_room roomB (by decide +kernel) (by decide +kernel) (by decide +kernel) (by decide +kernel) (by decide +kernel)
/-- THE REFUTATION: what is owed isn't so -/
theorem whole_refuted : ¬ (Claimed_1_1 ∧ Claimed_1_2) := by
  rintro ⟨-, h⟩
  obtain ⟨k, o, h1, -, hend, hpost⟩ := h launch0 rfl lists_1 trivial start1.p0 bigE (launch0.admits_env 0 200000000 3000000000 0) fairChoices_fair.cas fairChoices_fair.clock bigS ⟨0, 0⟩ start1.args0 Lib.HandBits.below0 rfl big_args big_fits (big_applies room_1 big_room1) ⟨trivial, big_rest, big_given⟩
  obtain ⟨n, o2, g1, -, gend, v, hv, hn⟩ := lw_walkB launch0 rfl 0 scrL scrL_len scrL_get start1.p0 bigE (launch0.admits_env 0 200000000 3000000000 0) fairChoices_fair.cas fairChoices_fair.clock bigS ⟨0, 0⟩ start1.args0 Lib.HandBits.below0 rfl ((Spec.applies_iff_loose rfl).mp (big_applies roomB big_roomB)).1 ⟨rfl, big_ints, big_given⟩ trivial
  have hnk : n = k := by
    rcases Nat.lt_trichotomy n k with z | z | z
    · exact absurd (h1 n z) gend.not_within
    · exact z
    · exact absurd (g1 k z) hend.not_within
  subst hnk
  have hoq := gend.outcome_unique hend
  subst hoq
  subst hv
  obtain ⟨hl, ⟨-, -, hsame⟩, -⟩ := hpost
  have h3 : limb_1_2.after start1.args0 bigS (.returned (some (.int v))) (stepsAlone start1.p0.tables bigE n bigS) = true := hl
  have h4 := Cond.after_iff.mp h3
  rw [show limb_1_2 = Cond.eq .result (.int 1) from rfl, Cond.eq_ints (x := v) (y := 1) rfl rfl] at h4
  have h5 : v = 1 := of_decide_eq_true (Option.some.inj h4)
  have h6 := hn h5
  have h7 : newS bigS.heap.size (stepsAlone start1.p0.tables bigE n bigS).heap ≤ 6686820 := hsame.2.2.2.2.1
  exact absurd h7 (Nat.not_le.mpr h6)
