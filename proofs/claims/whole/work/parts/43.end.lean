/-! the walk as the machine has it, a start with the script, the refutation -/
def lw_PB (b : Addr) (xs : List Int32) (args : Array Value) (s : State) : Prop := args = #[.ref b] ∧ s.IntsAt b xs ∧ (Jvm.Cond.and given_1 narrow_1).before args s = true
set_option maxHeartbeats 4000000 in
theorem lw_walkB (l : Launch) (hflags : l.flags = flags0) (b : Addr) (xs : List Int32) (hxl : xs.length = 2048) (hxv : ∀ j, j < 2048 → xs.getD j 0 = nI (scrN j)) : MetFree l x (headSpec (Jvm.Cond.code x code maxLocals ret :: tables_1) roomB) (lw_PB b xs) (fun _ _ _ _ _ => True) lw_QB := by
  refine MetFree.of_bodyS (code := code) (maxLocals := maxLocals) (ret := ret) (by decide) ?_ ?_
  · intro args s m h hn
    obtain ⟨meth, c, h1, h2, h3, h4, h5, h6, -, -⟩ := Cond.code_spec hn (atoms_spec (ws := Jvm.Cond.code x code maxLocals ret :: tables_1) h _ List.mem_cons_self)
    exact ⟨meth, c, h1, h2, h3, h4, h5, h6⟩
  · intro p e s m args below meth c s₁ B hml0 hP _
    obtain ⟨rfl, hx, hgv⟩ := hP
    obtain ⟨scr, harrAt, hlist, hof, hsmall⟩ := hx
    obtain ⟨hcb, hkn, -, -⟩ := State.arrayAt?_spec harrAt
    have hown : s.vm.findClass R_law = some m.cls := findClass_of_methodNamed B.named
    have hts0 : ∀ c ∈ (Jvm.Cond.code x code maxLocals ret :: tables_1), c.before #[Value.ref b] s = true := atoms_spec (ws := Jvm.Cond.code x code maxLocals ret :: tables_1) B.pre
    have hts : ∀ w ∈ lw_tbl, w.before #[Value.ref b] s = true := k2_hts_sels lw_privs (fun w hw => hts0 w (List.mem_cons_of_mem _ hw)) lw_privs_ok
    have hml : c.maxLocals = 9 := B.maxLocals_eq (hts0 _ List.mem_cons_self)
    have X₀ : Stand p l e roomB s m #[Value.ref b] below meth c s₁ [] 0 0 := Stand.of_body B
    have hh0 : s₁.heap = s.heap := by rw [B.state]; rfl
    have hsz : scr.slots.size = xs.length := by rw [← Array.length_toList, hlist, List.length_map]
    have hval : ∀ j : Nat, j < xs.length → scr.slots[j]? = some (.int (xs.getD j 0)) := fun j hj => by
      rw [← Array.getElem?_toList, hlist]
      simp [hj]
    have hbl : b < s.heap.size := (Array.getElem?_eq_some_iff.mp hcb).1
    have hX : va_X b xs.length (fun j => xs.getD j 0) s s.heap := ⟨scr, hcb, hof, hkn, hsz, hval⟩
    have K : W p l e roomB s m #[Value.ref b] below meth c s₁.heap [] 0 0 (lw_ZB below #[Value.ref b] s) (entryFrame m ([Value.ref b] : List Value).toArray 9) := by
      rw [hh0]
      rw [hxl] at hX
      exact whole_start l hflags hxv ⟨B.exec, B.bytes, B.returns, hml, hown, hts, hX, hbl, B.notSynchronized, hgv⟩
    obtain ⟨t, a1, o, b1, b2, b3⟩ := K s₁ rfl X₀
    exact ⟨t, o, a1, b1, b2, b3⟩
def scrL : List Int32 := (List.range 2048).map fun j => nI (scrN j)
def scrA : Array Value := ⟨scrL.map .int⟩
theorem scrL_len : scrL.length = 2048 := by unfold scrL; rw [List.length_map, List.length_range]
theorem scrL_get (j : Nat) (h : j < 2048) : scrL.getD j 0 = nI (scrN j) := by
  unfold scrL
  rw [List.getD_eq_getElem?_getD, List.getElem?_map, List.getElem?_range h]
  rfl
/-- the witness's start, with the script in its cell 0 -/
def bigS : State := start1.aboutOf scrA
def bigE : Env := launch0.env 0 200000000 3000000000 0
theorem tabs_on : (Jvm.Cond.code x code maxLocals ret :: tables_1).all (fun c => c.onTables) = true := by decide +kernel
theorem bigS_vm : bigS.vm = start1.about.vm := rfl
theorem big_words : ∀ c ∈ (Jvm.Cond.code x code maxLocals ret :: tables_1), c.before start1.args0 bigS = true := fun c hc => by
  have h1 := start1.words c hc
  have h2 := Cond.onTables_vm (A := start1.args0) (A' := start1.args0) (U := bigS) (U' := start1.about) start1.about.vm c (List.all_eq_true.mp tabs_on c hc)
  have e1 : bigS.setVm start1.about.vm = bigS := rfl
  have e2 : start1.about.setVm start1.about.vm = start1.about := rfl
  rw [e1, e2] at h2
  rw [h2]
  exact h1
