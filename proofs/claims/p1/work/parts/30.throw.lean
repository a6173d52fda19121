/-! methods that always throw -/
def NMs : List String := ["java/lang/RuntimeException", "java/lang/Exception"]
def XW (G : GG) (A : Nat → Prop) (E : String) (w1 : va_W) : String → State → State → Prop := vx_X (fun _ : Unit => True) (fun E' _ t => E' = E ∧ QW G A w1 t) A
def Mx (l : Launch) (G : GG) (y : MethodName) (cc : ByteArray) (n : Nat) (ret : Option FieldType) (rm : Room) (As : List Value) (ws : va_W) (E : String) (w1 : va_W) : Prop :=
  ∀ sz : Nat, vx_Met l y (.code y cc n ret :: WW) rm (va_Pc As (PW G ws sz)) (fun _ _ _ _ => False) (XW G (va_A ws sz) E w1) rm.cells rm.slots (va_A ws sz)
theorem nw_use {w : Cond} {args : Array Value} {s : State} (h : nwk w = true) (hz : va_Nw w s) : w.before args s = true := by
  cases w <;> first | exact va_Nw.use rfl hz | exact absurd h (by simp [nwk])
section THROWS
variable {p : Program} {l : Launch} {e : Env} {R : Room} {s : State} {m : MethodId} {args : Array Value} {below : List Frame} {meth : Method} {c : Code} {H : Heap} {locs : List Loc} {cells slots : Nat} {Q : State → Prop}
variable {G : GG} {A : Nat → Prop} {ws wc wr w1 : va_W} {pc mc ms : Nat} {ls : Array Slot} {rest st0 : List Value} {E : String}
theorem atw {own cls : String} {ic : Nat} (hW : ∀ w ∈ (vx_atS own ic cls NMs).filter goodWord, w ∈ WW) (hN : ∀ w ∈ (vx_atS own ic cls NMs).filter (fun w => !goodWord w), w ∈ NWs) (hts : ∀ w ∈ WW, w.before args s = true) (hE : EV G A s s.heap) : ∀ w ∈ vx_atS own ic cls NMs, w.before args s = true :=
  vx_hat (fun w h => hts w (hW w h)) hN (fun w h => nw_use (List.mem_filter.mp h).2 (hE.1.1 w h))
theorem thrX (hP : va_P (gD G) vwCl w1 H) (hD : va_D A w1) (hS : va_S A s.heap H locs) : ∀ t : State, s.vm.Alike t.vm → H.size ≤ t.heap.size → (∀ q : Nat, q < H.size → t.heap[q]? = H[q]?) → XW G A E w1 E s t :=
  fun t _ hz hk => ⟨(), trivial, ⟨rfl, hP.kept (fun k q hq => hk q.1 (hP k q hq).lt), hD⟩, Nat.le_trans hS.1 hz, fun q hq hA => (hk q (Nat.lt_of_lt_of_le hq hS.1)).trans (hS.2.1 q hq hA)⟩
theorem outX (hP : va_P (gD G) vwCl w1 H) (hD : va_D A w1) (hS : va_S A s.heap H locs) : ∀ t : State, t.heap = H → s.vm.Alike t.vm → XW G A E w1 E s t :=
  fun t ht _ => ⟨(), trivial, ⟨rfl, by rw [ht]; exact hP, hD⟩, hS.F ht⟩
theorem finx (hP : va_P (gD G) vwCl ws H) (hD : va_D A ws) (hS : va_S A s.heap H locs) (hA : ∀ q : Nat, s.heap.size ≤ q → A q) (isC isR : List Nat) (hC : isC.map (fun i => ws[i]?) = wc.map some) (hR : isR.map (fun i => ws[i]?) = wr.map some) (hn : va_nd isR = true) (hdis : ∀ i ∈ isR, i ∉ isC)
    (hr : vx_Run p l e R s m args below meth c H locs cells slots mc ms (F0 m pc ls st0) rest (fun _ _ _ => False) (XW G (va_A wc H.size) E w1) (va_A wc H.size))
    (kk : ∀ (ce : Cell) (q9 : Addr) (H1 : Heap) (locs1 : List Loc), va_P (gD G) vwCl (wr ++ w1) H1 → va_D A (wr ++ w1) → va_S A s.heap H1 locs1 → H1[q9]? = some ce → ce.vm = .none → s.vm.findClass E = some ce.cls → vx_W p l e R s m args below meth c H1 locs1 (cells + mc) (slots + ms) Q (F0 m pc ls rest) q9) : W p l e R s m args below meth c H locs cells slots Q (F0 m pc ls st0) := by
  have hF := va_free hD hS hA isC hC
  intro T hT X
  rcases hr T hT X with ⟨v, st₀, t, T', L, h0, X', hL, e1, e2, hf, st⟩ | ⟨q, st₀, t, T', L, E', ce, h0, X', hL, e1, e2, ⟨u, hp, ⟨rfl, hP1, hD1⟩, hFr⟩, hce, hcv, hcl, st⟩
  · exact hf.elim
  · obtain ⟨k1, k2, k3⟩ := vx_keep h0 e1 hS (fun q _ h => hF q h) hF hL hFr
    rw [← e1] at hP1
    obtain ⟨hP2, hD2⟩ := va_join hP hD isC isR hC hR hn hdis k2 hF hP1 hD1
    obtain ⟨t2, a1, b1⟩ := kk ce q T'.heap (locs ++ L) hP2 hD2 k3 (by rw [e1]; exact hce) hcv hcl T' rfl X'
    exact ⟨t2, st.trans a1, b1⟩
end THROWS
theorem cell_bad {v : Int32} (hbad : v < nI 0 ∨ nI 15 < v) (h1 : ¬ v < nI 0) (h2 : v < nI 16) : False := by
  rcases hbad with h | h
  · exact h1 h
  · rw [Int32.lt_iff_toInt_lt, nI_ti (by decide)] at h h2
    omega
theorem le_bad {v : Int32} {lo hi : Nat} (hhi : hi < 2 ^ 31) (hbad : v < nI lo ∨ nI hi < v) (h1 : ¬ v < nI lo) (h2 : v ≤ nI hi) : False := by
  rcases hbad with h | h
  · exact h1 h
  · rw [Int32.lt_iff_toInt_lt] at h
    rw [Int32.le_iff_toInt_le] at h2
    omega
theorem ST0 : (RX6, 252, "there is no such puzzle") ∈ STs := List.mem_of_getElem? (i := 0) rfl
theorem ST1 : (RX6, 255, "there is no such cell") ∈ STs := List.mem_of_getElem? (i := 1) rfl
theorem ST2 : (RX6, 183, "no proof was begun") ∈ STs := List.mem_of_getElem? (i := 2) rfl
theorem ST3 : (RX6, 181, "there is no such rule or value") ∈ STs := List.mem_of_getElem? (i := 3) rfl
theorem ST4 : (RX6, 112, "the seed or the highest rule is out of range") ∈ STs := List.mem_of_getElem? (i := 4) rfl
theorem ST5 : (RX6, 243, "there are no puzzles") ∈ STs := List.mem_of_getElem? (i := 5) rfl
theorem atW254 : ∀ w ∈ (vx_atS RX6 254 "java/lang/IndexOutOfBoundsException" NMs).filter goodWord, w ∈ WW := by decide +kernel
theorem atN254 : ∀ w ∈ (vx_atS RX6 254 "java/lang/IndexOutOfBoundsException" NMs).filter (fun w => !goodWord w), w ∈ NWs := by decide +kernel
theorem atG254 : ∀ w ∈ Cond.classLink RX6 250 "java/lang/IndexOutOfBoundsException" :: Cond.initialized "java/lang/IndexOutOfBoundsException" :: vx_atS RX6 254 "java/lang/IndexOutOfBoundsException" NMs, vx_ot w = true := by decide +kernel
theorem atW53 : ∀ w ∈ (vx_atS RX6 53 "java/lang/IllegalStateException" NMs).filter goodWord, w ∈ WW := by decide +kernel
theorem atN53 : ∀ w ∈ (vx_atS RX6 53 "java/lang/IllegalStateException" NMs).filter (fun w => !goodWord w), w ∈ NWs := by decide +kernel
theorem atG53 : ∀ w ∈ Cond.classLink RX6 49 "java/lang/IllegalStateException" :: Cond.initialized "java/lang/IllegalStateException" :: vx_atS RX6 53 "java/lang/IllegalStateException" NMs, vx_ot w = true := by decide +kernel
theorem atW86 : ∀ w ∈ (vx_atS RX6 86 "java/lang/IllegalArgumentException" NMs).filter goodWord, w ∈ WW := by decide +kernel
theorem atN86 : ∀ w ∈ (vx_atS RX6 86 "java/lang/IllegalArgumentException" NMs).filter (fun w => !goodWord w), w ∈ NWs := by decide +kernel
theorem atG86 : ∀ w ∈ Cond.classLink RX6 82 "java/lang/IllegalArgumentException" :: Cond.initialized "java/lang/IllegalArgumentException" :: vx_atS RX6 86 "java/lang/IllegalArgumentException" NMs, vx_ot w = true := by decide +kernel
theorem atW245 : ∀ w ∈ (vx_atS RX6 245 "java/lang/ArithmeticException" NMs).filter goodWord, w ∈ WW := by decide +kernel
theorem atN245 : ∀ w ∈ (vx_atS RX6 245 "java/lang/ArithmeticException" NMs).filter (fun w => !goodWord w), w ∈ NWs := by decide +kernel
theorem atG245 : ∀ w ∈ Cond.classLink RX6 241 "java/lang/ArithmeticException" :: Cond.initialized "java/lang/ArithmeticException" :: vx_atS RX6 245 "java/lang/ArithmeticException" NMs, vx_ot w = true := by decide +kernel
