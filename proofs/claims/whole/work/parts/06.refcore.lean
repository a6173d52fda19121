-- from kit/laws/COUNTS (a starting text): sums
def fb_sm (f : Nat → Nat) : Nat → Nat
  | 0 => 0
  | n + 1 => fb_sm f n + f n
theorem fb_sm_succ (f : Nat → Nat) (n : Nat) : fb_sm f (n + 1) = fb_sm f n + f n := rfl
theorem fb_sm_cong {f g : Nat → Nat} : ∀ {n : Nat}, (∀ k, k < n → f k = g k) → fb_sm f n = fb_sm g n
  | 0, _ => rfl
  | n + 1, h => by rw [fb_sm_succ, fb_sm_succ, fb_sm_cong (fun k hk => h k (by omega)), h n (by omega)]
theorem fb_sm_out (f : Nat → Nat) (v : Nat) {i n : Nat} (h : n ≤ i) : fb_sm (fun k => if k = i then v else f k) n = fb_sm f n :=
  fb_sm_cong fun k hk => if_neg (by omega)
theorem fb_sm_upd (f : Nat → Nat) (v : Nat) {i : Nat} : ∀ {n : Nat}, i < n → fb_sm (fun k => if k = i then v else f k) n + f i = fb_sm f n + v
  | 0, h => absurd h (Nat.not_lt_zero i)
  | n + 1, h => by
    rw [fb_sm_succ, fb_sm_succ]
    rcases Nat.lt_or_ge i n with q | q
    · have := fb_sm_upd f v q
      have e : (if n = i then v else f n) = f n := if_neg (by omega)
      rw [e]
      omega
    · have e : i = n := by omega
      subst e
      rw [fb_sm_out f v (Nat.le_refl _)]
      simp only [if_true]
      omega
theorem fb_sm_le {f g : Nat → Nat} : ∀ {n : Nat}, (∀ k, k < n → f k ≤ g k) → fb_sm f n ≤ fb_sm g n
  | 0, _ => Nat.le_refl _
  | n + 1, h => by
    have h1 := fb_sm_le (n := n) (f := f) (g := g) (fun k hk => h k (by omega))
    have h2 := h n (by omega)
    rw [fb_sm_succ, fb_sm_succ]
    omega
theorem fb_sm_const (c : Nat) : ∀ n, fb_sm (fun _ => c) n = n * c
  | 0 => by rw [Nat.zero_mul]; rfl
  | n + 1 => by rw [fb_sm_succ, fb_sm_const c n, Nat.succ_mul]
theorem fb_sm_bound {f : Nat → Nat} {c n : Nat} (h : ∀ k, k < n → f k ≤ c) : fb_sm f n ≤ n * c := by
  rw [← fb_sm_const c n]
  exact fb_sm_le h
theorem s_l : ∀ n, n < 32 → ((nI n &&& 31).toBitVec.smod 32).toNat = n := by decide +kernel
/-- rows of numbers between two bounds -/
def inC (N L B : Nat) (f : Nat → Int32) : Prop := ∀ j, j < N → ∃ n, (L ≤ n ∧ n < B) ∧ f j = nI n
theorem inC.upd {N L B : Nat} {f : Nat → Int32} (h : inC N L B f) {k : Nat} {x : Int32} {n : Nat} (hl : L ≤ n) (hn : n < B) (hx : x = nI n) : inC N L B (upd f k x) := fun j hj => by
  by_cases e : j = k
  · subst e; exact ⟨n, ⟨hl, hn⟩, by rw [pk_us]; exact hx⟩
  · obtain ⟨n2, h2, h3⟩ := h j hj
    exact ⟨n2, h2, by rw [pk_un e]; exact h3⟩
/-- 2 to the power v - 1, for the values 1 to 4 -/
def pw (v : Nat) : Nat := match v with
  | 1 => 1
  | 2 => 2
  | 3 => 4
  | _ => 8
/-- how many of the four lowest bits are set -/
def pcn (n : Nat) : Nat := n % 2 + n / 2 % 2 + n / 4 % 2 + n / 8 % 2
theorem clr : ∀ n, n < 16 → ∀ v, v < 5 → 1 ≤ v → n / pw v % 2 = 1 → nI n &&& ((nI 1 <<< (nI (v - 1) &&& 31)) ^^^ (-1)) = nI (n - pw v) ∧ pcn (n - pw v) < pcn n := by decide +kernel
theorem pcn_le (n : Nat) : pcn n ≤ 4 := by unfold pcn; omega
/-- how many candidates there are in a row -/
def mu (f : Nat → Int32) : Nat := fb_sm (fun j => pcn (f j).toNatClampNeg) 16
theorem mu_le (f : Nat → Int32) : mu f ≤ 64 := fb_sm_bound (c := 4) (n := 16) (fun _ _ => pcn_le _)
theorem mu_upd {f : Nat → Int32} {k n n2 : Nat} (hk : k < 16) (hf : f k = nI n) (hn : n < 16) (hn2 : n2 < 16) (h2 : pcn n2 < pcn n) : mu (upd f k (nI n2)) < mu f := by
  have h := fb_sm_upd (fun j => pcn (f j).toNatClampNeg) (pcn n2) (i := k) (n := 16) hk
  have e : (fun j => pcn (upd f k (nI n2) j).toNatClampNeg) = fun j => if j = k then pcn n2 else pcn (f j).toNatClampNeg := by
    funext j
    by_cases q : j = k
    · subst q
      rw [pk_us, if_pos rfl, nI_clamp (by omega)]
    · rw [pk_un q, if_neg q]
  unfold mu
  rw [e]
  have h3 : (f k).toNatClampNeg = n := by rw [hf]; exact nI_clamp (by omega)
  simp only [h3] at h
  omega
theorem bor0 {a : Nat} (h : a ≤ 1) : nI a ||| nI 0 = nI a := by rcases (show a = 0 ∨ a = 1 by omega) with rfl | rfl <;> decide
theorem bor1 {a : Nat} (h : a ≤ 1) : nI a ||| nI 1 = nI 1 := by rcases (show a = 0 ∨ a = 1 by omega) with rfl | rfl <;> decide
theorem band0 {a : Nat} (h : a ≤ 1) : nI a &&& nI 0 = nI 0 := by rcases (show a = 0 ∨ a = 1 by omega) with rfl | rfl <;> decide
theorem band1 {a : Nat} (h : a ≤ 1) : nI a &&& nI 1 = nI a := by rcases (show a = 0 ∨ a = 1 by omega) with rfl | rfl <;> decide
theorem andm : ∀ a, a < 16 → nI a &&& nI 1 = nI (a % 2) := by decide +kernel
theorem nar_b {a : Nat} (h : a ≤ 1) : narrow .boolean (.int (nI a)) = .int (nI a) := by rcases (show a = 0 ∨ a = 1 by omega) with rfl | rfl <;> decide
theorem inC.nil {L B : Nat} {f : Nat → Int32} : inC 0 L B f := fun j hj => absurd hj (Nat.not_lt_zero j)
theorem inC_snoc {k L B : Nat} {f : Nat → Int32} (h : inC k L B f) {x : Int32} {n : Nat} (hl : L ≤ n) (hn : n < B) (hx : x = nI n) : inC (k + 1) L B (upd f k x) := fun j hj => by
  by_cases e : j = k
  · subst e; exact ⟨n, ⟨hl, hn⟩, by rw [pk_us]; exact hx⟩
  · obtain ⟨n2, h2, h3⟩ := h j (by omega)
    exact ⟨n2, h2, by rw [pk_un e]; exact h3⟩
theorem inB.nil {B : Nat} {f : Nat → Int32} : inB 0 B f := fun j hj => absurd hj (Nat.not_lt_zero j)
theorem inB_snoc {k B : Nat} {f : Nat → Int32} (h : inB k B f) {x : Int32} {n : Nat} (hn : n < B) (hx : x = nI n) : inB (k + 1) B (upd f k x) := fun j hj => by
  by_cases e : j = k
  · subst e; exact ⟨n, hn, by rw [pk_us]; exact hx⟩
  · obtain ⟨n2, h2, h3⟩ := h j (by omega)
    exact ⟨n2, h2, by rw [pk_un e]; exact h3⟩
theorem va_D.split {A : Nat → Prop} {a b : va_W} (h : va_D A (a ++ b)) : va_D A a ∧ va_D A b ∧ ∀ (i j : Nat) (p q : Nat × va_E), a[i]? = some p → b[j]? = some q → p.1 ≠ q.1 := by
  have ea : ∀ {i : Nat} {p : Nat × va_E}, a[i]? = some p → (a ++ b)[i]? = some p := fun {i p} hp => by
    rw [List.getElem?_append_left (List.getElem?_eq_some_iff.mp hp).1]; exact hp
  have eb : ∀ {j : Nat} {q : Nat × va_E}, b[j]? = some q → (a ++ b)[a.length + j]? = some q := fun {j q} hq => by
    rw [List.getElem?_append_right (by omega), Nat.add_sub_cancel_left]; exact hq
  refine ⟨⟨fun i j x y hi hj hxy => h.1 i j x y (ea hi) (ea hj) hxy, fun k q hq => h.2 k q (ea hq)⟩, ⟨fun i j x y hi hj hxy => ?_, fun k q hq => h.2 _ q (eb hq)⟩, fun i j x y hi hj hxy => ?_⟩
  · have := h.1 _ _ x y (eb hi) (eb hj) hxy
    omega
  · have h1 := h.1 _ _ x y (ea hi) (eb hj) hxy
    have h2 := (List.getElem?_eq_some_iff.mp hi).1
    omega
theorem va_P.split {D : va_G} {cl : List vw_C} {a b : va_W} {H : Heap} (h : va_P D cl (a ++ b) H) : va_P D cl a H ∧ va_P D cl b H :=
  ⟨fun k q hq => h k q (by rw [List.getElem?_append_left (List.getElem?_eq_some_iff.mp hq).1]; exact hq), fun k q hq => h (a.length + k) q (by rw [List.getElem?_append_right (by omega), Nat.add_sub_cancel_left]; exact hq)⟩
/-- parts of a world with a tail -/
theorem subPT {D : va_G} {cl : List vw_C} {X X2 T : va_W} {H : Heap} (h : va_P D cl (X ++ T) H) (is : List Nat) (hs : is.filterMap (fun i => X[i]?) = X2) : va_P D cl (X2 ++ T) H := (h.split.1.sub is hs).app h.split.2
theorem subDT {A : Nat → Prop} {X X2 T : va_W} (h : va_D A (X ++ T)) (is : List Nat) (hn : va_nd is = true) (hs : is.map (fun i => X[i]?) = X2.map some) : va_D A (X2 ++ T) := by
  obtain ⟨h1, h2, h3⟩ := h.split
  refine (h1.sub is hn hs).app h2 (fun i j p q hp hq => ?_)
  have h4 : (is.map (fun i => X[i]?))[i]? = some (some p) := by rw [hs, List.getElem?_map, hp]; rfl
  rw [List.getElem?_map] at h4
  cases hi : is[i]? with
  | none => rw [hi] at h4; cases h4
  | some k => rw [hi] at h4; exact h3 k j p q (Option.some.inj h4) hq
theorem nd_iff : ∀ l : List Nat, va_nd l = true ↔ l.Nodup
  | [] => by simp [va_nd]
  | a :: l => by simp [va_nd, nd_iff l]
section TAIL
variable {p : Program} {l : Launch} {e : Env} {R : Room} {s : State} {m : MethodId} {args : Array Value} {below : List Frame} {meth : Method} {c : Code} {H : Heap} {locs : List Loc} {cells slots : Nat} {Q : State → Prop}
variable {G : GG} {A : Nat → Prop} {X T wc wr : va_W} {pc mc ms : Nat} {ls : Array Slot} {rest st0 : List Value} {a : Array Value}
theorem joinT {D : va_G} {cl : List vw_C} {w1 : va_W} {H1 : Heap} (hP : va_P D cl (X ++ T) H) (hD : va_D A (X ++ T)) (isC isR : List Nat) (hC : isC.map (fun i => X[i]?) = wc.map some) (hR : isR.map (fun i => X[i]?) = wr.map some) (hn : va_nd isR = true) (hlC : ∀ i ∈ isC, i < X.length) (hlR : ∀ i ∈ isR, i < X.length) (hdis : ∀ i ∈ isR, i ∉ isC)
    (hk : ∀ q : Nat, q < H.size → ¬ va_A wc H.size q → H1[q]? = H[q]?) (hF : ∀ q, va_A wc H.size q → A q) (hP1 : va_P D cl w1 H1) (hD1 : va_D (va_A wc H.size) w1) : va_P D cl ((wr ++ w1) ++ T) H1 ∧ va_D A ((wr ++ w1) ++ T) := by
  have eX : ∀ i, i < X.length → (X ++ T)[i]? = X[i]? := fun i hi => List.getElem?_append_left hi
  have h := va_join (wr := wr ++ T) hP hD isC (isR ++ (List.range T.length).map (· + X.length)) (by rw [← hC]; exact List.map_congr_left (fun i hi => eX i (hlC i hi)))
    (by
      rw [List.map_append, List.map_append, ← hR, List.map_congr_left (fun i hi => eX i (hlR i hi)), List.map_map]
      congr 1
      apply List.ext_getElem?
      intro k
      rw [List.getElem?_map, List.getElem?_map]
      by_cases hk2 : k < T.length
      · rw [List.getElem?_range hk2]
        show some ((X ++ T)[k + X.length]?) = _
        rw [List.getElem?_append_right (by omega), Nat.add_sub_cancel, List.getElem?_eq_getElem hk2]
        rfl
      · rw [List.getElem?_eq_none (by simpa using hk2), List.getElem?_eq_none (by simpa using hk2)]
        rfl)
    (by
      rw [nd_iff, List.nodup_append]
      refine ⟨(nd_iff _).mp hn, ?_, ?_⟩
      · rw [List.nodup_iff_pairwise_ne, List.pairwise_map]
        exact (List.nodup_iff_pairwise_ne.mp List.nodup_range).imp (fun h z => h (by omega))
      · intro x hx y hy z
        obtain ⟨k, -, rfl⟩ := List.mem_map.mp hy
        have := hlR x hx
        omega)
    (by
      intro i hi hc
      rcases List.mem_append.mp hi with h1 | h1
      · exact hdis i h1 hc
      · obtain ⟨k, -, rfl⟩ := List.mem_map.mp h1
        have := hlC _ hc
        omega) hk hF hP1 hD1
  exact ⟨h.1.swap, h.2.swap⟩
theorem freeT {locs : List Loc} {H0 : Heap} (hD : va_D A (X ++ T)) (hS : va_S A H0 H locs) (hA : ∀ q : Nat, H0.size ≤ q → A q) (isC : List Nat) (hC : isC.map (fun i => X[i]?) = wc.map some) : ∀ q, va_A wc H.size q → A q := va_free hD.split.1 hS hA isC hC
theorem fin_iT {S : Type} {post : Int32 → S → Prop} {w1 : S → va_W} (hP : va_P (gD G) vwCl (X ++ T) H) (hD : va_D A (X ++ T)) (hS : va_S A s.heap H locs) (hA : ∀ q : Nat, s.heap.size ≤ q → A q) (isC isR : List Nat) (hC : isC.map (fun i => X[i]?) = wc.map some) (hR : isR.map (fun i => X[i]?) = wr.map some) (hn : va_nd isR = true) (hlC : ∀ i ∈ isC, i < X.length) (hlR : ∀ i ∈ isR, i < X.length) (hdis : ∀ i ∈ isR, i ∉ isC)
    (hr : va_Run p l e R s m args below meth c H locs cells slots mc ms (F0 m pc ls st0) rest (va_Qi post (fun u t => QW G (va_A wc H.size) (w1 u) t) (va_A wc H.size) a) (va_A wc H.size))
    (kk : ∀ (r : Int32) (u : S), post r u → ∀ (H1 : Heap) (locs1 : List Loc), va_P (gD G) vwCl ((wr ++ w1 u) ++ T) H1 → va_D A ((wr ++ w1 u) ++ T) → va_S A s.heap H1 locs1 → W p l e R s m args below meth c H1 locs1 (cells + mc) (slots + ms) Q (F0 m (pc + 3) ls (.int r :: rest))) : W p l e R s m args below meth c H locs cells slots Q (F0 m pc ls st0) := by
  have hF := freeT hD hS hA isC hC
  refine va_calli hr hS (fun q _ h => hF q h) hF (fun r u t H1 locs1 ht hvm hw hB hz1 hk1 hS1 => ?_)
  obtain ⟨hP1, hD1⟩ := hB
  rw [ht] at hP1
  obtain ⟨hP2, hD2⟩ := joinT hP hD isC isR hC hR hn hlC hlR hdis hk1 hF hP1 hD1
  exact kk r u hw H1 locs1 hP2 hD2 hS1
theorem fin_i5T {S : Type} {post : Int32 → S → Prop} {w1 : S → va_W} (hP : va_P (gD G) vwCl (X ++ T) H) (hD : va_D A (X ++ T)) (hS : va_S A s.heap H locs) (hA : ∀ q : Nat, s.heap.size ≤ q → A q) (isC isR : List Nat) (hC : isC.map (fun i => X[i]?) = wc.map some) (hR : isR.map (fun i => X[i]?) = wr.map some) (hn : va_nd isR = true) (hlC : ∀ i ∈ isC, i < X.length) (hlR : ∀ i ∈ isR, i < X.length) (hdis : ∀ i ∈ isR, i ∉ isC)
    (hr : va_Run5 p l e R s m args below meth c H locs cells slots mc ms (F0 m pc ls st0) rest (va_Qi post (fun u t => QW G (va_A wc H.size) (w1 u) t) (va_A wc H.size) a) (va_A wc H.size))
    (kk : ∀ (r : Int32) (u : S), post r u → ∀ (H1 : Heap) (locs1 : List Loc), va_P (gD G) vwCl ((wr ++ w1 u) ++ T) H1 → va_D A ((wr ++ w1 u) ++ T) → va_S A s.heap H1 locs1 → W p l e R s m args below meth c H1 locs1 (cells + mc) (slots + ms) Q (F0 m (pc + 5) ls (.int r :: rest))) : W p l e R s m args below meth c H locs cells slots Q (F0 m pc ls st0) := by
  have hF := freeT hD hS hA isC hC
  refine va_callFi hr hS (fun q _ h => hF q h) hF (fun r u t H1 locs1 ht hvm hw hB hz1 hk1 hS1 => ?_)
  obtain ⟨hP1, hD1⟩ := hB
  rw [ht] at hP1
  obtain ⟨hP2, hD2⟩ := joinT hP hD isC isR hC hR hn hlC hlR hdis hk1 hF hP1 hD1
  exact kk r u hw H1 locs1 hP2 hD2 hS1
theorem fin_rT {S : Type} {post : S → Nat → Prop} {w1 : S → Nat → va_W} (hP : va_P (gD G) vwCl (X ++ T) H) (hD : va_D A (X ++ T)) (hS : va_S A s.heap H locs) (hA : ∀ q : Nat, s.heap.size ≤ q → A q) (isC isR : List Nat) (hC : isC.map (fun i => X[i]?) = wc.map some) (hR : isR.map (fun i => X[i]?) = wr.map some) (hn : va_nd isR = true) (hlC : ∀ i ∈ isC, i < X.length) (hlR : ∀ i ∈ isR, i < X.length) (hdis : ∀ i ∈ isR, i ∉ isC)
    (hr : va_Run p l e R s m args below meth c H locs cells slots mc ms (F0 m pc ls st0) rest (va_Qr (fun _ : S => True) (fun u ra t => post u ra ∧ QW G (va_A wc H.size) (w1 u ra) t) (va_A wc H.size) a) (va_A wc H.size))
    (kk : ∀ (u : S) (ra : Nat), post u ra → ∀ (H1 : Heap) (locs1 : List Loc), va_P (gD G) vwCl ((wr ++ w1 u ra) ++ T) H1 → va_D A ((wr ++ w1 u ra) ++ T) → va_S A s.heap H1 locs1 → W p l e R s m args below meth c H1 locs1 (cells + mc) (slots + ms) Q (F0 m (pc + 3) ls (.ref ra :: rest))) : W p l e R s m args below meth c H locs cells slots Q (F0 m pc ls st0) := by
  have hF := freeT hD hS hA isC hC
  refine va_callr hr hS (fun q _ h => hF q h) hF (fun u ra t H1 locs1 ht hvm hw hB hz1 hk1 hS1 => ?_)
  obtain ⟨hp, hP1, hD1⟩ := hB
  rw [ht] at hP1
  obtain ⟨hP2, hD2⟩ := joinT hP hD isC isR hC hR hn hlC hlR hdis hk1 hF hP1 hD1
  exact kk u ra hp H1 locs1 hP2 hD2 hS1
theorem fin_i5 {ws : va_W} {S : Type} {post : Int32 → S → Prop} {w1 : S → va_W} (hP : va_P (gD G) vwCl ws H) (hD : va_D A ws) (hS : va_S A s.heap H locs) (hA : ∀ q : Nat, s.heap.size ≤ q → A q) (isC isR : List Nat) (hC : isC.map (fun i => ws[i]?) = wc.map some) (hR : isR.map (fun i => ws[i]?) = wr.map some) (hn : va_nd isR = true) (hdis : ∀ i ∈ isR, i ∉ isC)
    (hr : va_Run5 p l e R s m args below meth c H locs cells slots mc ms (F0 m pc ls st0) rest (va_Qi post (fun u t => QW G (va_A wc H.size) (w1 u) t) (va_A wc H.size) a) (va_A wc H.size))
    (kk : ∀ (r : Int32) (u : S), post r u → ∀ (H1 : Heap) (locs1 : List Loc), va_P (gD G) vwCl (wr ++ w1 u) H1 → va_D A (wr ++ w1 u) → va_S A s.heap H1 locs1 → W p l e R s m args below meth c H1 locs1 (cells + mc) (slots + ms) Q (F0 m (pc + 5) ls (.int r :: rest))) : W p l e R s m args below meth c H locs cells slots Q (F0 m pc ls st0) := by
  have hF := va_free hD hS hA isC hC
  refine va_callFi hr hS (fun q _ h => hF q h) hF (fun r u t H1 locs1 ht hvm hw hB hz1 hk1 hS1 => ?_)
  obtain ⟨hP1, hD1⟩ := hB
  rw [ht] at hP1
  obtain ⟨hP2, hD2⟩ := va_join hP hD isC isR hC hR hn hdis hk1 hF hP1 hD1
  exact kk r u hw H1 locs1 hP2 hD2 hS1
theorem fin_r5 {ws : va_W} {S : Type} {post : S → Nat → Prop} {w1 : S → Nat → va_W} (hP : va_P (gD G) vwCl ws H) (hD : va_D A ws) (hS : va_S A s.heap H locs) (hA : ∀ q : Nat, s.heap.size ≤ q → A q) (isC isR : List Nat) (hC : isC.map (fun i => ws[i]?) = wc.map some) (hR : isR.map (fun i => ws[i]?) = wr.map some) (hn : va_nd isR = true) (hdis : ∀ i ∈ isR, i ∉ isC)
    (hr : va_Run5 p l e R s m args below meth c H locs cells slots mc ms (F0 m pc ls st0) rest (va_Qr (fun _ : S => True) (fun u ra t => post u ra ∧ QW G (va_A wc H.size) (w1 u ra) t) (va_A wc H.size) a) (va_A wc H.size))
    (kk : ∀ (u : S) (ra : Nat), post u ra → ∀ (H1 : Heap) (locs1 : List Loc), va_P (gD G) vwCl (wr ++ w1 u ra) H1 → va_D A (wr ++ w1 u ra) → va_S A s.heap H1 locs1 → W p l e R s m args below meth c H1 locs1 (cells + mc) (slots + ms) Q (F0 m (pc + 5) ls (.ref ra :: rest))) : W p l e R s m args below meth c H locs cells slots Q (F0 m pc ls st0) := by
  have hF := va_free hD hS hA isC hC
  refine va_callFr hr hS (fun q _ h => hF q h) hF (fun u ra t H1 locs1 ht hvm hw hB hz1 hk1 hS1 => ?_)
  obtain ⟨hp, hP1, hD1⟩ := hB
  rw [ht] at hP1
  obtain ⟨hP2, hD2⟩ := va_join hP hD isC isR hC hR hn hdis hk1 hF hP1 hD1
  exact kk u ra hp H1 locs1 hP2 hD2 hS1
theorem fin_vT {S : Type} {post : S → Prop} {w1 : S → va_W} (hP : va_P (gD G) vwCl (X ++ T) H) (hD : va_D A (X ++ T)) (hS : va_S A s.heap H locs) (hA : ∀ q : Nat, s.heap.size ≤ q → A q) (isC isR : List Nat) (hC : isC.map (fun i => X[i]?) = wc.map some) (hR : isR.map (fun i => X[i]?) = wr.map some) (hn : va_nd isR = true) (hlC : ∀ i ∈ isC, i < X.length) (hlR : ∀ i ∈ isR, i < X.length) (hdis : ∀ i ∈ isR, i ∉ isC)
    (hr : va_Run p l e R s m args below meth c H locs cells slots mc ms (F0 m pc ls st0) rest (va_Qv post (fun u t => QW G (va_A wc H.size) (w1 u) t) (va_A wc H.size) a) (va_A wc H.size))
    (kk : ∀ (u : S), post u → ∀ (H1 : Heap) (locs1 : List Loc), va_P (gD G) vwCl ((wr ++ w1 u) ++ T) H1 → va_D A ((wr ++ w1 u) ++ T) → va_S A s.heap H1 locs1 → W p l e R s m args below meth c H1 locs1 (cells + mc) (slots + ms) Q (F0 m (pc + 3) ls rest)) : W p l e R s m args below meth c H locs cells slots Q (F0 m pc ls st0) := by
  have hF := freeT hD hS hA isC hC
  refine va_callv hr hS (fun q _ h => hF q h) hF (fun u t H1 locs1 ht hvm hw hB hz1 hk1 hS1 => ?_)
  obtain ⟨hP1, hD1⟩ := hB
  rw [ht] at hP1
  obtain ⟨hP2, hD2⟩ := joinT hP hD isC isR hC hR hn hlC hlR hdis hk1 hF hP1 hD1
  exact kk u hw H1 locs1 hP2 hD2 hS1
theorem fin_fT {S : Type} {post : UInt32 → S → Prop} {w1 : S → va_W} (hP : va_P (gD G) vwCl (X ++ T) H) (hD : va_D A (X ++ T)) (hS : va_S A s.heap H locs) (hA : ∀ q : Nat, s.heap.size ≤ q → A q) (isC isR : List Nat) (hC : isC.map (fun i => X[i]?) = wc.map some) (hR : isR.map (fun i => X[i]?) = wr.map some) (hn : va_nd isR = true) (hlC : ∀ i ∈ isC, i < X.length) (hlR : ∀ i ∈ isR, i < X.length) (hdis : ∀ i ∈ isR, i ∉ isC)
    (hr : va_Run p l e R s m args below meth c H locs cells slots mc ms (F0 m pc ls st0) rest (va_Qf post (fun u t => QW G (va_A wc H.size) (w1 u) t) (va_A wc H.size) a) (va_A wc H.size))
    (kk : ∀ (r : UInt32) (u : S), post r u → ∀ (H1 : Heap) (locs1 : List Loc), va_P (gD G) vwCl ((wr ++ w1 u) ++ T) H1 → va_D A ((wr ++ w1 u) ++ T) → va_S A s.heap H1 locs1 → W p l e R s m args below meth c H1 locs1 (cells + mc) (slots + ms) Q (F0 m (pc + 3) ls (.float r :: rest))) : W p l e R s m args below meth c H locs cells slots Q (F0 m pc ls st0) := by
  have hF := freeT hD hS hA isC hC
  refine va_callf hr hS (fun q _ h => hF q h) hF (fun r u t H1 locs1 ht hvm hw hB hz1 hk1 hS1 => ?_)
  obtain ⟨hP1, hD1⟩ := hB
  rw [ht] at hP1
  obtain ⟨hP2, hD2⟩ := joinT hP hD isC isR hC hR hn hlC hlR hdis hk1 hF hP1 hD1
  exact kk r u hw H1 locs1 hP2 hD2 hS1
theorem fin_r5T {S : Type} {post : S → Nat → Prop} {w1 : S → Nat → va_W} (hP : va_P (gD G) vwCl (X ++ T) H) (hD : va_D A (X ++ T)) (hS : va_S A s.heap H locs) (hA : ∀ q : Nat, s.heap.size ≤ q → A q) (isC isR : List Nat) (hC : isC.map (fun i => X[i]?) = wc.map some) (hR : isR.map (fun i => X[i]?) = wr.map some) (hn : va_nd isR = true) (hlC : ∀ i ∈ isC, i < X.length) (hlR : ∀ i ∈ isR, i < X.length) (hdis : ∀ i ∈ isR, i ∉ isC)
    (hr : va_Run5 p l e R s m args below meth c H locs cells slots mc ms (F0 m pc ls st0) rest (va_Qr (fun _ : S => True) (fun u ra t => post u ra ∧ QW G (va_A wc H.size) (w1 u ra) t) (va_A wc H.size) a) (va_A wc H.size))
    (kk : ∀ (u : S) (ra : Nat), post u ra → ∀ (H1 : Heap) (locs1 : List Loc), va_P (gD G) vwCl ((wr ++ w1 u ra) ++ T) H1 → va_D A ((wr ++ w1 u ra) ++ T) → va_S A s.heap H1 locs1 → W p l e R s m args below meth c H1 locs1 (cells + mc) (slots + ms) Q (F0 m (pc + 5) ls (.ref ra :: rest))) : W p l e R s m args below meth c H locs cells slots Q (F0 m pc ls st0) := by
  have hF := freeT hD hS hA isC hC
  refine va_callFr hr hS (fun q _ h => hF q h) hF (fun u ra t H1 locs1 ht hvm hw hB hz1 hk1 hS1 => ?_)
  obtain ⟨hp, hP1, hD1⟩ := hB
  rw [ht] at hP1
  obtain ⟨hP2, hD2⟩ := joinT hP hD isC isR hC hR hn hlC hlR hdis hk1 hF hP1 hD1
  exact kk u ra hp H1 locs1 hP2 hD2 hS1
theorem fin_f {ws : va_W} {S : Type} {post : UInt32 → S → Prop} {w1 : S → va_W} (hP : va_P (gD G) vwCl ws H) (hD : va_D A ws) (hS : va_S A s.heap H locs) (hA : ∀ q : Nat, s.heap.size ≤ q → A q) (isC isR : List Nat) (hC : isC.map (fun i => ws[i]?) = wc.map some) (hR : isR.map (fun i => ws[i]?) = wr.map some) (hn : va_nd isR = true) (hdis : ∀ i ∈ isR, i ∉ isC)
    (hr : va_Run p l e R s m args below meth c H locs cells slots mc ms (F0 m pc ls st0) rest (va_Qf post (fun u t => QW G (va_A wc H.size) (w1 u) t) (va_A wc H.size) a) (va_A wc H.size))
    (kk : ∀ (r : UInt32) (u : S), post r u → ∀ (H1 : Heap) (locs1 : List Loc), va_P (gD G) vwCl (wr ++ w1 u) H1 → va_D A (wr ++ w1 u) → va_S A s.heap H1 locs1 → W p l e R s m args below meth c H1 locs1 (cells + mc) (slots + ms) Q (F0 m (pc + 3) ls (.float r :: rest))) : W p l e R s m args below meth c H locs cells slots Q (F0 m pc ls st0) := by
  have hF := va_free hD hS hA isC hC
  refine va_callf hr hS (fun q _ h => hF q h) hF (fun r u t H1 locs1 ht hvm hw hB hz1 hk1 hS1 => ?_)
  obtain ⟨hP1, hD1⟩ := hB
  rw [ht] at hP1
  obtain ⟨hP2, hD2⟩ := va_join hP hD isC isR hC hR hn hdis hk1 hF hP1 hD1
  exact kk r u hw H1 locs1 hP2 hD2 hS1
theorem lv_tov {x y : Value} (h : x = y) (k : W p l e R s m args below meth c H locs cells slots Q (F0 m pc ls (y :: rest))) : W p l e R s m args below meth c H locs cells slots Q (F0 m pc ls (x :: rest)) := h ▸ k
theorem lv_ter {x y : Nat} (h : x = y) (k : W p l e R s m args below meth c H locs cells slots Q (F0 m pc ls (.ref y :: rest))) : W p l e R s m args below meth c H locs cells slots Q (F0 m pc ls (.ref x :: rest)) := h ▸ k
end TAIL
