theorem NQIO : (Jvm.Cond.castable "java/lang/Integer" "java/lang/Object") ∈ NWs := inN 1378 (by decide +kernel) rfl
theorem allLt {is : List Nat} {n : Nat} (h : is.all (fun i => decide (i < n)) = true) : ∀ i ∈ is, i < n := fun i hi => of_decide_eq_true (List.all_eq_true.mp h i hi)
theorem FW0 : (RJx4a65c, (⟨"java/util/List", "size", "()I"⟩ : MethodName), yJx4a65c_size_8abf5) ∈ FWs := List.mem_of_getElem? (i := 0) rfl
theorem FW1 : (RJx4a65c, (⟨"java/util/List", "add", "(Ljava/lang/Object;)Z"⟩ : MethodName), yJx4a65c_add_9ea2d) ∈ FWs := List.mem_of_getElem? (i := 1) rfl
theorem FW2 : (RJx4a65c, (⟨"java/util/List", "iterator", "()Ljava/util/Iterator;"⟩ : MethodName), yJx4a65c_iterator_32c93) ∈ FWs := List.mem_of_getElem? (i := 2) rfl
theorem FW3 : (RJx4a65c, (⟨"java/util/List", "isEmpty", "()Z"⟩ : MethodName), yJx4a65c_isEmpty_aae02) ∈ FWs := List.mem_of_getElem? (i := 3) rfl
theorem FW4 : (RJx35411, (⟨"java/util/Iterator", "hasNext", "()Z"⟩ : MethodName), yJx35411_hasNext_aae02) ∈ FWs := List.mem_of_getElem? (i := 4) rfl
/-- a tail of boxes -/
def tI (T : va_W) : Prop := ∀ (k : Nat) (q : Nat × va_E), T[k]? = some q → ∃ v : Int32, q.2 = .inr (1, [.int v])
def okI (G : GG) (T : va_W) (y : Nat) : Prop := (∃ (k : Nat) (q : Nat × va_E), T[k]? = some q ∧ q.1 = y) ∨ ∃ k : Nat, k < 256 ∧ y = gA G k
/-- what a boxing gives: a cached box, or a new one -/
def bxI (G : GG) (u : va_W) (r : Nat) : Prop := (u = [] ∧ ∃ k : Nat, k < 256 ∧ r = gA G k) ∨ ∃ v : Int32, u = [(r, .inr (1, [.int v]))]
theorem tI.nil : tI [] := fun k q h => by simp at h
theorem tI.app {G : GG} {T u : va_W} {r : Nat} (h : tI T) (hu : bxI G u r) : tI (u ++ T) := fun k q hq => by
  rcases hu with ⟨rfl, -⟩ | ⟨v, rfl⟩
  · exact h k q hq
  · cases k with
    | zero => exact ⟨v, by cases hq; rfl⟩
    | succ k => exact h k q hq
theorem okI.old {G : GG} {T u : va_W} {r y : Nat} (hu : bxI G u r) (h : okI G T y) : okI G (u ++ T) y := by
  rcases h with ⟨k, q, h1, h2⟩ | h
  · rcases hu with ⟨rfl, -⟩ | ⟨v, rfl⟩
    · exact Or.inl ⟨k, q, h1, h2⟩
    · exact Or.inl ⟨k + 1, q, h1, h2⟩
  · exact Or.inr h
theorem okI.new {G : GG} {T u : va_W} {r : Nat} (hu : bxI G u r) : okI G (u ++ T) r := by
  rcases hu with ⟨rfl, k, hk, rfl⟩ | ⟨v, rfl⟩
  · exact Or.inr ⟨k, hk, rfl⟩
  · exact Or.inl ⟨0, _, rfl, rfl⟩
theorem obR.old {G : GG} {T u : va_W} {r : Nat} {f : Nat → Option Nat} (hu : bxI G u r) (h : obR (okI G T) f) : obR (okI G (u ++ T)) f := fun i y hy => okI.old hu (h i y hy)
theorem okI_ob {s : State} {G : GG} {A : Nat → Prop} {X T wc : va_W} {H : Heap} {locs : List Loc} (hK : va_K (gD G) vwCl (gT G) s) (hE : EV G A s s.heap) (hP : va_P (gD G) vwCl (X ++ T) H) (hD : va_D A (X ++ T)) (hS : va_S A s.heap H locs) (hA : ∀ q : Nat, s.heap.size ≤ q → A q) (hti : tI T) (isC : List Nat) (hC : isC.map (fun i => X[i]?) = wc.map some) : ∀ y : Nat, okI G T y → ¬ va_A wc H.size y ∧ va_Any "java/lang/Object" s H y := by
  intro y hy
  have hca : va_Nw (.castable "java/lang/Integer" "java/lang/Object") s := hE.1.1 _ NQIO
  rcases hy with ⟨k, q, hk, rfl⟩ | ⟨k, hk, rfl⟩
  · obtain ⟨v, hv⟩ := hti k q hk
    have he : (X ++ T)[X.length + k]? = some (q.1, .inr (1, [.int v])) := by
      rw [List.getElem?_append_right (by omega), Nat.add_sub_cancel_left, hk, ← hv]
    refine ⟨fun z => ?_, va_rAny hK hP he (r := (RJ6, TJ6, 1)) rfl (vb_asgC hca)⟩
    rcases z with ⟨j, e, hj⟩ | hj
    · have h1 : (isC.map (fun i => X[i]?))[j]? = some (some (q.1, e)) := by rw [hC, List.getElem?_map, hj]; rfl
      rw [List.getElem?_map] at h1
      cases hi : isC[j]? with
      | none => rw [hi] at h1; cases h1
      | some i =>
        rw [hi] at h1
        exact hD.split.2.2 i k _ q (Option.some.inj h1) hk rfl
    · have := (hP _ _ he).lt
      exact absurd hj (Nat.not_le.mpr this)
  · obtain ⟨cell, c1, c2, c3, c4⟩ := hE.2.2.2.2.2.2.1.1 k hk
    have hF := freeT hD hS hA isC hC
    refine ⟨fun z => c4 (hF _ z), cell, (hS.2.1 _ (Array.getElem?_eq_some_iff.mp c1).1 c4).trans c1, c2, ?_, fun comp hcomp => vb_asgC hca comp _ hcomp c3⟩
    obtain ⟨f1, kC, f2, -⟩ := (hK.1 1 (RJ6, TJ6, 1) rfl).2
    have e := Option.some.inj (f1.symm.trans c3)
    rw [e] at f2
    exact ⟨kC, f2⟩
theorem nI_ti {n : Nat} (h : n < 2 ^ 31) : (nI n).toInt = n := Int32.toInt_ofNat_small h
theorem noneg {v : Int32} (h1 : ¬ v < nI 0) (h2 : ¬ (-1 : Int32) < v) : False := by
  rw [Int32.lt_iff_toInt_lt] at h1 h2
  have e0 : (nI 0).toInt = 0 := by decide
  have e1 : (-1 : Int32).toInt = -1 := by decide
  omega
