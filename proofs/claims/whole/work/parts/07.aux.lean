theorem NQIO : (Jvm.Cond.castable "java/lang/Integer" "java/lang/Object") ∈ NWs := inN 1378 (by decide +kernel) rfl
theorem allLt {is : List Nat} {n : Nat} (h : is.all (fun i => decide (i < n)) = true) : ∀ i ∈ is, i < n := fun i hi => of_decide_eq_true (List.all_eq_true.mp h i hi)
theorem FW0 : (RJx4a65c, (⟨"java/util/List", "size", "()I"⟩ : MethodName), yJx4a65c_size_8abf5) ∈ FWs := List.mem_of_getElem? (i := 0) rfl
theorem FW1 : (RJx4a65c, (⟨"java/util/List", "add", "(Ljava/lang/Object;)Z"⟩ : MethodName), yJx4a65c_add_9ea2d) ∈ FWs := List.mem_of_getElem? (i := 1) rfl
theorem FW2 : (RJx4a65c, (⟨"java/util/List", "iterator", "()Ljava/util/Iterator;"⟩ : MethodName), yJx4a65c_iterator_32c93) ∈ FWs := List.mem_of_getElem? (i := 2) rfl
theorem FW3 : (RJx4a65c, (⟨"java/util/List", "isEmpty", "()Z"⟩ : MethodName), yJx4a65c_isEmpty_aae02) ∈ FWs := List.mem_of_getElem? (i := 3) rfl
theorem FW4 : (RJx35411, (⟨"java/util/Iterator", "hasNext", "()Z"⟩ : MethodName), yJx35411_hasNext_aae02) ∈ FWs := List.mem_of_getElem? (i := 4) rfl
theorem FW5 : (RJx4a65c, (⟨"java/util/List", "get", "(I)Ljava/lang/Object;"⟩ : MethodName), yJx4a65c_get_915e3) ∈ FWs := List.mem_of_getElem? (i := 5) rfl
theorem FW6 : (RJx35411, (⟨"java/util/Iterator", "next", "()Ljava/lang/Object;"⟩ : MethodName), yJx35411_next_0502b) ∈ FWs := List.mem_of_getElem? (i := 6) rfl
/-- boxes of a tail, and the cached ones -/
def okI (G : GG) (T : va_W) (y : Nat) : Prop := (∃ (k : Nat) (v : Int32), T[k]? = some (y, .inr (1, [.int v]))) ∨ ∃ k : Nat, k < 256 ∧ y = gA G k
/-- what a boxing gives: a cached box, or a new one -/
def bxI (G : GG) (u : va_W) (r : Nat) : Prop := (u = [] ∧ ∃ k : Nat, k < 256 ∧ r = gA G k) ∨ ∃ v : Int32, u = [(r, .inr (1, [.int v]))]
theorem okI.app {G : GG} {T u : va_W} {y : Nat} (h : okI G T y) : okI G (u ++ T) y := by
  rcases h with ⟨k, v, h1⟩ | h
  · exact Or.inl ⟨u.length + k, v, by rw [List.getElem?_append_right (by omega), Nat.add_sub_cancel_left]; exact h1⟩
  · exact Or.inr h
theorem okI.new {G : GG} {T u : va_W} {r : Nat} (hu : bxI G u r) : okI G (u ++ T) r := by
  rcases hu with ⟨rfl, k, hk, rfl⟩ | ⟨v, rfl⟩
  · exact Or.inr ⟨k, hk, rfl⟩
  · exact Or.inl ⟨0, v, rfl⟩
theorem obR.app {G : GG} {T u : va_W} {f : Nat → Option Nat} (h : obR (okI G T) f) : obR (okI G (u ++ T)) f := fun i y hy => okI.app (h i y hy)
theorem okI_ob {s : State} {G : GG} {A : Nat → Prop} {X T wc : va_W} {H : Heap} {locs : List Loc} (hK : va_K (gD G) vwCl (gT G) s) (hE : EV G A s s.heap) (hP : va_P (gD G) vwCl (X ++ T) H) (hD : va_D A (X ++ T)) (hS : va_S A s.heap H locs) (hA : ∀ q : Nat, s.heap.size ≤ q → A q) (isC : List Nat) (hC : isC.map (fun i => X[i]?) = wc.map some) : ∀ y : Nat, okI G T y → ¬ va_A wc H.size y ∧ va_Any "java/lang/Object" s H y := by
  intro y hy
  have hca : va_Nw (.castable "java/lang/Integer" "java/lang/Object") s := hE.1.1 _ NQIO
  rcases hy with ⟨k, v, hk⟩ | ⟨k, hk, rfl⟩
  · have he : (X ++ T)[X.length + k]? = some (y, .inr (1, [.int v])) := by
      rw [List.getElem?_append_right (by omega), Nat.add_sub_cancel_left, hk]
    refine ⟨fun z => ?_, va_rAny hK hP he (r := (RJ6, TJ6, 1)) rfl (vb_asgC hca)⟩
    rcases z with ⟨j, e, hj⟩ | hj
    · have h1 : (isC.map (fun i => X[i]?))[j]? = some (some (y, e)) := by rw [hC, List.getElem?_map, hj]; rfl
      rw [List.getElem?_map] at h1
      cases hi : isC[j]? with
      | none => rw [hi] at h1; cases h1
      | some i =>
        rw [hi] at h1
        exact hD.split.2.2 i k _ _ (Option.some.inj h1) hk rfl
    · have := (hP _ _ he).lt
      exact absurd hj (Nat.not_le.mpr this)
  · obtain ⟨cell, c1, c2, c3, c4⟩ := hE.2.2.2.2.2.2.1.1 k hk
    have hF := freeT hD hS hA isC hC
    refine ⟨fun z => c4 (hF _ z), cell, (hS.2.1 _ (Array.getElem?_eq_some_iff.mp c1).1 c4).trans c1, c2, ?_, fun comp hcomp => vb_asgC hca comp _ hcomp c3⟩
    obtain ⟨f1, kC, f2, -⟩ := (hK.1 1 (RJ6, TJ6, 1) rfl).2
    have e := Option.some.inj (f1.symm.trans c3)
    rw [e] at f2
    exact ⟨kC, f2⟩
theorem nI_ti {n : Nat} (h : n < 2 ^ 31) : (nI n).toInt = n := Int32.toInt_ofNat_small h
/-- how many places the rows of a tail have -/
def wt (T : va_W) : Nat := (T.map fun q => match q.2 with
  | .inl a => a.2.1
  | .inr _ => 0).sum
theorem wt_app (a b : va_W) : wt (a ++ b) = wt a + wt b := by unfold wt; rw [List.map_append, List.sum_append]
theorem wt_nil : wt [] = 0 := rfl
/-- a row whose one cell 14 holds another number than 15 -/
def Fx (x j : Nat) : Nat := if j = 14 then x else 15
theorem fx_or (x j : Nat) : (j ≠ 14 ∧ Fx x j = 15) ∨ (j = 14 ∧ Fx x j = x) := by
  unfold Fx
  by_cases h : j = 14
  · exact Or.inr ⟨h, if_pos h⟩
  · exact Or.inl ⟨h, if_neg h⟩
def inX (x : Nat) (f : Nat → Int32) : Prop := ∀ j, j < 16 → f j = nI (Fx x j)
theorem inX.b {x : Nat} {f : Nat → Int32} (h : inX x f) (hx : x < 16) : inB 16 16 f := fun j hj => ⟨Fx x j, by have := fx_or x j; omega, h j hj⟩
theorem inX.upd {x y : Nat} {f : Nat → Int32} (h : inX x f) : inX y (upd f 14 (nI y)) := fun j hj => by
  by_cases e : j = 14
  · subst e; rw [pk_us]; rfl
  · rw [pk_un e, h j hj]
    unfold Fx
    rw [if_neg e, if_neg e]
/-- cell 14's numbers before the first three steps -/
def xv (v : Nat) : Nat := match v with
  | 1 => 15
  | 2 => 14
  | _ => 12
theorem xv_or : ∀ v, v < 4 → 1 ≤ v → xv v = 15 ∨ xv v = 14 ∨ xv v = 12 := by decide
theorem xv_bit (v0 : Nat) (h : v0 < 4) (h1 : 1 ≤ v0) (v : Nat) (h2 : v < 5) (h3 : 1 ≤ v) (h4 : v ≤ v0) : (xv v0 / pw v % 2 = 1 ∧ v = v0) ∨ (xv v0 / pw v % 2 = 0 ∧ v ≠ v0) := by
  have hv0 : v0 = 1 ∨ v0 = 2 ∨ v0 = 3 := by omega
  have hv : v = 1 ∨ v = 2 ∨ v = 3 := by omega
  rcases hv0 with rfl | rfl | rfl <;> rcases hv with rfl | rfl | rfl <;> first | exact Or.inl ⟨by decide, rfl⟩ | exact Or.inr ⟨by decide, by decide⟩ | (exfalso; omega)
theorem f_bit : ∀ v, v < 5 → 1 ≤ v → 15 / pw v % 2 = 1 := by decide
theorem or16 : ∀ a, a < 16 → ∀ b, b < 16 → nI a ||| nI b = nI (a ||| b) ∧ (a ||| b) < 16 ∧ (a = 15 ∨ b = 15 → (a ||| b) = 15) := by decide +kernel
theorem or16' {a b : Nat} (ha : a < 16) (hb : b < 16) : ∃ r, nI a ||| nI b = nI r ∧ r < 16 ∧ (a = 15 ∨ b = 15 → r = 15) := ⟨_, or16 a ha b hb⟩
theorem m16 : ∀ a, a < 16 → nI a &&& (-16 : Int32) = nI 0 := by decide +kernel
theorem and16 {a : Nat} (h : a < 16) (w : Int32) : (nI a &&& w) &&& (-16 : Int32) = nI 0 := by
  rw [Int32.and_assoc, Int32.and_comm w, ← Int32.and_assoc, m16 a h]
  exact Int32.zero_and
theorem rowmate : ∀ k, k < 16 → ∃ j, j < 16 ∧ j ≠ k ∧ j ≠ 14 ∧ j / 4 = k / 4 := fun k hk => by
  by_cases h : k % 4 = 0
  · exact ⟨k + 1, by omega, by omega, by omega, by omega⟩
  · exact ⟨4 * (k / 4), by omega, by omega, by omega, by omega⟩
theorem colmate : ∀ k, k < 16 → ∃ j, j < 16 ∧ j ≠ k ∧ j ≠ 14 ∧ j % 4 = k % 4 := fun k hk => by
  by_cases h : k / 4 = 0
  · exact ⟨k + 4, by omega, by omega, by omega, by omega⟩
  · exact ⟨k % 4, by omega, by omega, by omega, by omega⟩
/-- the two numbers that a share of one puzzle can be -/
def fl0 : UInt32 := FP.fdiv (FP.i2f (nI 0)) (FP.i2f (nI 1))
def fl1 : UInt32 := FP.fdiv (FP.i2f (nI 1)) (FP.i2f (nI 1))
theorem fl_n : vf_n32 (FP.fdiv (FP.i2f (nI 0)) (FP.i2f (nI 1))) ∧ vf_n32 (FP.fdiv (FP.i2f (nI 1)) (FP.i2f (nI 1))) := by unfold vf_n32; decide +kernel
theorem fd_n : vf_n64 (FP.f2d fl0) ∧ vf_n64 (FP.f2d fl1) := by unfold vf_n64 fl0 fl1; decide +kernel
theorem fd_c : Op.cmpValue (FP.dcmp (FP.f2d fl0) (FP.f2d fl0)) .l = nI 0 ∧ Op.cmpValue (FP.dcmp (FP.f2d fl1) (FP.f2d fl1)) .l = nI 0 := by unfold fl0 fl1; decide +kernel
