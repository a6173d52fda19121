/-! the law's entry (as the kit's skeleton has it, without its room), and the law's ends where the claim's room is passed -/
def R_law : String := "PegboardryLaw"
def lw_At (p : Program) (s : State) (m : MethodId) (meth : Method) (c : Code) (b L : Nat) (xs : Nat → Int32) : Prop :=
  p.tables.exec = Jvm.exec ∧ c.code = code ∧ meth.sig.returnType = ret ∧ c.maxLocals = 9 ∧ s.vm.findClass R_law = some m.cls ∧ (∀ w ∈ lw_tbl, w.before #[Value.ref b] s = true) ∧ va_X b L xs s s.heap ∧ b < s.heap.size ∧ meth.locks = false ∧ (Jvm.Cond.and given_1 narrow_1).before #[Value.ref b] s = true
/-- the slots of the cells behind the first sz -/
def newS (sz : Nat) (H : Heap) : Nat := ((H.toList.drop sz).map (·.slots.size)).sum
/-- the law returns, and an answer 1 comes with more slots than the claim's room -/
def lw_QB (_ : Array Value) (s : State) (o : Outcome) (t : State) : Prop := ∃ v : Int32, o = .returned (some (.int v)) ∧ (v = 1 → 6686820 < newS s.heap.size t.heap)
def lw_ZB (below : List Frame) (a : Array Value) (s : State) : State → Prop := fun t => ∃ o, t.status = .running ∧ Ended t below o ∧ lw_QB a s o t
theorem sum_set0 : ∀ (l : List Nat) (i : Nat), i < l.length → (l.set i 0).sum + l.getD i 0 = l.sum
  | [], i, h => absurd h (Nat.not_lt_zero i)
  | a :: l, 0, _ => by
    show (0 + l.sum) + a = a + l.sum
    omega
  | a :: l, i + 1, h => by
    have h2 := sum_set0 l i (Nat.lt_of_succ_lt_succ h)
    show (a + (l.set i 0).sum) + l.getD i 0 = a + l.sum
    omega
theorem getD_set0 (l : List Nat) (i j : Nat) (h : i ≠ j) : (l.set i 0).getD j 0 = l.getD j 0 := by
  rw [List.getD_eq_getElem?_getD, List.getD_eq_getElem?_getD, List.getElem?_set_ne h]
theorem sum_pick : ∀ (is l : List Nat), is.Nodup → (∀ i ∈ is, i < l.length) → (is.map fun i => l.getD i 0).sum ≤ l.sum
  | [], l, _, _ => Nat.zero_le _
  | i :: is, l, hn, hl => by
    have h1 := sum_set0 l i (hl i List.mem_cons_self)
    have h2 := sum_pick is (l.set i 0) (List.nodup_cons.mp hn).2 (fun j hj => by rw [List.length_set]; exact hl j (List.mem_cons_of_mem _ hj))
    have h3 : (is.map fun j => (l.set i 0).getD j 0) = is.map fun j => l.getD j 0 := List.map_congr_left (fun j hj => getD_set0 l i j (fun z => (List.nodup_cons.mp hn).1 (by rw [z]; exact hj)))
    rw [h3] at h2
    show l.getD i 0 + (is.map fun j => l.getD j 0).sum ≤ l.sum
    omega
theorem nd_addr {A : Nat → Prop} {T : va_W} {sz : Nat} (hD : va_D A T) (hA : ∀ q : Nat, A q → sz ≤ q) : (T.map fun q => q.1 - sz).Nodup := by
  rw [List.nodup_iff_pairwise_ne, List.pairwise_map, List.pairwise_iff_getElem]
  intro i j hi hj hij h
  have e1 := List.getElem?_eq_getElem hi
  have e2 := List.getElem?_eq_getElem hj
  have h1 := hA _ (hD.2 i _ e1)
  have h2 := hA _ (hD.2 j _ e2)
  have := hD.1 i j _ _ e1 e2 (by omega)
  omega
theorem wt_le {D : va_G} {cl : List vw_C} {sz : Nat} {H : Heap} : ∀ {T : va_W}, (∀ q ∈ T, va_at D cl q H ∧ sz ≤ q.1) → wt T ≤ ((T.map fun q => q.1 - sz).map fun i => ((H.toList.drop sz).map (·.slots.size)).getD i 0).sum
  | [], _ => Nat.le_refl _
  | q :: T, h => by
    have h2 := wt_le (T := T) (fun z hz => h z (List.mem_cons_of_mem _ hz))
    obtain ⟨h3, h4⟩ := h q List.mem_cons_self
    have h5 : (match q.2 with
      | .inl a => a.2.1
      | .inr _ => 0) ≤ ((H.toList.drop sz).map (·.slots.size)).getD (q.1 - sz) 0 := by
      obtain ⟨a, e⟩ := q
      cases e with
      | inr o => exact Nat.zero_le _
      | inl v =>
        have h6 : H[a]? = some (vp_cell v.1 v.2) := h3
        have h7 : ((H.toList.drop sz).map (·.slots.size))[a - sz]? = some (vp_cell v.1 v.2).slots.size := by
          have h4' : sz ≤ a := h4
          rw [List.getElem?_map, List.getElem?_drop, show sz + (a - sz) = a by omega, Array.getElem?_toList, h6]
          rfl
        have h8 : (vp_cell v.1 v.2).slots.size = v.2.1 := by
          obtain ⟨c, n, f | f | f | f | f⟩ := v <;> exact arrV_size _ _ _
        show v.2.1 ≤ ((H.toList.drop sz).map (·.slots.size)).getD (a - sz) 0
        rw [List.getD_eq_getElem?_getD, h7, h8]
        exact Nat.le_refl _
    show (match q.2 with
      | .inl a => a.2.1
      | .inr _ => 0) + wt T ≤ ((H.toList.drop sz).map (·.slots.size)).getD (q.1 - sz) 0 + ((T.map fun q => q.1 - sz).map fun i => ((H.toList.drop sz).map (·.slots.size)).getD i 0).sum
    omega
theorem used_ge {D : va_G} {cl : List vw_C} {A : Nat → Prop} {T : va_W} {sz : Nat} {H : Heap} (hP : va_P D cl T H) (hD : va_D A T) (hA : ∀ q : Nat, A q → sz ≤ q) : wt T ≤ newS sz H := by
  refine Nat.le_trans (wt_le (D := D) (cl := cl) (sz := sz) (H := H) fun q hq => ?_) (sum_pick _ _ (nd_addr hD hA) fun i hi => ?_)
  · obtain ⟨k, hk⟩ := List.mem_iff_getElem?.mp hq
    exact ⟨hP k q hk, hA _ (hD.2 k q hk)⟩
  · obtain ⟨q, hq, rfl⟩ := List.mem_map.mp hi
    obtain ⟨k, hk⟩ := List.mem_iff_getElem?.mp hq
    have h1 := (hP k q hk).lt
    have h2 := hA _ (hD.2 k q hk)
    rw [List.length_map, List.length_drop, Array.length_toList]
    omega
section LWB
variable {p : Program} {l : Launch} {e : Env} {R : Room} {s : State} {m : MethodId} {below : List Frame} {meth : Method} {c : Code} {b : Nat} {H : Heap} {ls : Array Slot} {k n pc : Nat}
theorem lw_ret1 (hn : 6686820 < newS s.heap.size H) (hx : p.tables.exec = Jvm.exec) (hb : c.code = code) (hr : meth.sig.returnType = ret) (hlocks : meth.locks = false) (hdg : decode code pc = .ok (.ireturn, 1)) : W p l e R s m #[Value.ref b] below meth c H [] k n (lw_ZB below #[Value.ref b] s) (F0 m pc ls [.int 1]) := by
  intro T hT X
  obtain ⟨fs, hret, hrun, hended, hW, hframe⟩ := X.leave (v := some (.int 1)) (hlocks := hlocks) (fun h => by rw [hr] at h; cases h)
  have hmeth' : T.vm.method? m = some meth := X.method'
  refine ⟨T.setFrames fs, ?_, .returned (some (.int 1)), hrun, hended, 1, rfl, fun _ => ?_⟩
  · jvm_step X.here [X.here.top, hx, hb, hdg, hmeth', hr, ret, narrow_b1]
    (try refine ⟨rfl, ?_⟩); (try refine ⟨rfl, ?_⟩)
    first | (intro acts; rw [hret _ acts rfl rfl rfl]) | rw [hret _ _ rfl rfl rfl]
    exact Steps.refl _
  · show 6686820 < newS s.heap.size T.heap
    rw [hT]
    exact hn
theorem lw_ret0 (hx : p.tables.exec = Jvm.exec) (hb : c.code = code) (hr : meth.sig.returnType = ret) (hlocks : meth.locks = false) (hdg : decode code pc = .ok (.ireturn, 1)) : W p l e R s m #[Value.ref b] below meth c H [] k n (lw_ZB below #[Value.ref b] s) (F0 m pc ls [.int 0]) := by
  intro T hT X
  obtain ⟨fs, hret, hrun, hended, hW, hframe⟩ := X.leave (v := some (.int 0)) (hlocks := hlocks) (fun h => by rw [hr] at h; cases h)
  have hmeth' : T.vm.method? m = some meth := X.method'
  refine ⟨T.setFrames fs, ?_, .returned (some (.int 0)), hrun, hended, 0, rfl, fun z => absurd z (by decide)⟩
  jvm_step X.here [X.here.top, hx, hb, hdg, hmeth', hr, ret, narrow_b0]
  (try refine ⟨rfl, ?_⟩); (try refine ⟨rfl, ?_⟩)
  first | (intro acts; rw [hret _ acts rfl rfl rfl]) | rw [hret _ _ rfl rfl rfl]
  exact Steps.refl _
end LWB
