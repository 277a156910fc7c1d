/-! exceptions: what their making needs; rows for 'throw new E("..")' in the class, and for a call that throws -/
abbrev eA : String := "java/lang/IllegalArgumentException"
abbrev eI : String := "java/lang/IndexOutOfBoundsException"
abbrev eN : List String := ["java/lang/RuntimeException", "java/lang/Exception"]
def eB : List Cond := [.declares (Bundle.initS "java/lang/RuntimeException"), .declares (Bundle.initS "java/lang/Exception"), .declares (Bundle.initS Bundle.tN), .castable eA eA, .castable eI eI]
def eS : List (Nat × String) := [(51, "no such level"), (65, "no such constituent"), (69, "no such amplitude"), (73, "no such speed"), (79, "no such phase"), (87, "no such constituent or year"), (90, "no such factor"), (92, "no such shift"), (94, "no such year"), (96, "a year has 365 or 366 days"), (101, "no such minute"), (107, "no such constituent or minute"), (113, "no such position"), (122, "no such number of minutes"), (133, "no such day"), (142, "no such day or extreme"), (147, "no such question"), (159, "no such character"), (165, "no such span")]
/-- the two statics of Throwable, and the words that are not carried by a method's own list -/
def wE (U : State) (H : Heap) : Prop := vx_Zq Bundle.tN "UNASSIGNED_STACK" Bundle.steD (fun _ => False) U H ∧ vx_Zq Bundle.tN "SUPPRESSED_SENTINEL" Bundle.listD (fun _ => False) U H ∧ (∀ w ∈ eB, va_Nw w U) ∧ (∀ q ∈ eS, ∃ sa, vk_R RX q.1 q.2 sa U) ∧ va_Nc eA eI U ∧ va_Nc eI eA U
theorem eB_warm {s U : State} (hW : s.WarmedH U.vm) (h : ∀ w ∈ eB, va_Nw w s) : ∀ w ∈ eB, va_Nw w U := by
  intro w hw
  have hz := h w hw
  simp only [eB, List.mem_cons, List.not_mem_nil, or_false] at hw
  rcases hw with rfl | rfl | rfl | rfl | rfl
  · exact va_Nw.warmD hW hz
  · exact va_Nw.warmD hW hz
  · exact va_Nw.warmD hW hz
  · exact va_Nw.warmC hW hz
  · exact va_Nw.warmC hW hz
theorem wE_mv : tmov wE := fun _ _ _ hW h => ⟨vx_Zq.moved hW.alike h.1, vx_Zq.moved hW.alike h.2.1, eB_warm hW h.2.2.1, fun q hq => by
  obtain ⟨sa, h9⟩ := h.2.2.2.1 q hq
  exact ⟨sa, vk_R.warm hW h9⟩, va_Nc.moved hW.alike h.2.2.2.2.1, va_Nc.moved hW.alike h.2.2.2.2.2⟩
theorem vz_mk {C n d : String} {A : Nat → Prop} {U : State} {H H1 : Heap} (hz : vx_Zq C n d (fun _ => False) U H) (hq : ∀ (a : Nat) (cell : Cell), H[a]? = some cell → cell.vm.isStatics = true → H1[a]? = some cell ∧ ¬ A a) : vx_Zq C n d A U H1 := by
  obtain ⟨h1, c, k, i, f, a, cell, q1, q2, q3, q4, q5, q6, q7, q8, q9, -⟩ := hz
  refine ⟨?_, c, k, i, f, a, cell, q1, q2, q3, q4, (hq a cell q5 q6).1, q6, q7, q8, q9, (hq a cell q5 q6).2⟩
  rcases h1 with ⟨cf, kf, fi, f, a, cell, w1, w2, w3, w4, w5, w6, w7, -⟩ | ⟨t, cf, kf, fi, f, a, cell, w1, w2, w3, w4, w5, w6, w7, -⟩
  · exact Or.inl ⟨cf, kf, fi, f, a, cell, w1, w2, w3, w4, (hq a cell w5 w6).1, w6, w7, (hq a cell w5 w6).2⟩
  · exact Or.inr ⟨t, cf, kf, fi, f, a, cell, w1, w2, w3, w4, (hq a cell w5 w6).1, w6, w7, (hq a cell w5 w6).2⟩
theorem wE_kept {U : State} {H H1 : Heap} (h : wE U H) (hq : ∀ (a : Nat) (cell : Cell), H[a]? = some cell → cell.vm.isStatics = true → H1[a]? = some cell) : wE U H1 := ⟨vz_mk h.1 (fun a cell h1 h2 => ⟨hq a cell h1 h2, fun z => z⟩), vz_mk h.2.1 (fun a cell h1 h2 => ⟨hq a cell h1 h2, fun z => z⟩), h.2.2⟩
theorem eA_in : ∀ w ∈ (vx_atS RX 53 eA eN).filter goodWord, w ∈ TT := fun w h => List.mem_filter.mpr ⟨by revert w h; decide +kernel, (List.mem_filter.mp h).2⟩
theorem eI_in : ∀ w ∈ (vx_atS RX 67 eI eN).filter goodWord, w ∈ TT := fun w h => List.mem_filter.mpr ⟨by revert w h; decide +kernel, (List.mem_filter.mp h).2⟩
theorem eA_B : ∀ w ∈ (vx_atS RX 53 eA eN).filter (fun w => !goodWord w), w ∈ eB := by decide +kernel
theorem eI_B : ∀ w ∈ (vx_atS RX 67 eI eN).filter (fun w => !goodWord w), w ∈ eB := by decide +kernel
theorem eB_use {args : Array Value} {s : State} (h : ∀ w ∈ eB, va_Nw w s) : ∀ w ∈ eB, w.before args s = true := by
  intro w hw
  have hz := h w hw
  simp only [eB, List.mem_cons, List.not_mem_nil, or_false] at hw
  rcases hw with rfl | rfl | rfl | rfl | rfl <;> exact va_Nw.use rfl hz
theorem eA_at {args : Array Value} {s : State} {H : Heap} (hts : ∀ w ∈ TT, w.before args s = true) (h : wE s H) : ∀ w ∈ vx_atS RX 53 eA eN, w.before args s = true := vx_hat (fun w hw => hts w (eA_in w hw)) eA_B (eB_use h.2.2.1)
theorem eI_at {args : Array Value} {s : State} {H : Heap} (hts : ∀ w ∈ TT, w.before args s = true) (h : wE s H) : ∀ w ∈ vx_atS RX 67 eI eN, w.before args s = true := vx_hat (fun w hw => hts w (eI_in w hw)) eI_B (eB_use h.2.2.1)
theorem eA_ot : ∀ w ∈ Cond.classLink RX 49 eA :: Cond.initialized eA :: vx_atS RX 53 eA eN, vx_ot w = true := by decide +kernel
theorem eI_ot : ∀ w ∈ Cond.classLink RX 63 eI :: Cond.initialized eI :: vx_atS RX 67 eI eN, vx_ot w = true := by decide +kernel
section TWX
variable {p : Program} {l : Launch} {e : Env} {R : Room} {s : State} {m : MethodId} {args : Array Value} {below : List Frame} {meth : Method} {c : Code} {H : Heap} {locs : List Loc} {cells slots : Nat} {Q : State → Prop}
variable {Qc : Array Value → State → Outcome → State → Prop} {XC : String → State → State → Prop} {mc ms pc is : Nat} {free : Addr → Prop} {A : Nat → Prop} {cc : ByteArray} {ls : Array Slot} {rest st0 : List Value} {text : String}
theorem tw_A (hx : p.tables.exec = Jvm.exec) (hb : c.code = cc) (hl : l.stackTraces = false) (hown : s.vm.findClass RX = some m.cls) (hts : ∀ w ∈ TT, w.before args s = true) (hE : wE s s.heap) (hU : ∀ C n d, vx_Zq C n d (fun _ => False) s s.heap → vx_Zq C n d A s s.heap) (hq : (is, text) ∈ eS) (hS : va_S A s.heap H locs) (hsize : ls.size = c.maxLocals)
    (d0 : decode cc pc = .ok (.new 49, 3)) (d3 : decode cc (pc + 3) = .ok (.dup, 1)) (d4 : decode cc (pc + 4) = .ok (.ldc is, 2)) (d6 : decode cc (pc + 6) = .ok (.invokespecial 53, 3)) (d9 : decode cc (pc + 9) = .ok (.athrow, 1)) (hno : ∀ x ∈ c.exceptionTable.toList, False)
    (hR : 5 < R.frames ∧ (rest.map fun v => v.category).sum + 82 ≤ R.locals ∧ cells + 1 ≤ R.cells ∧ slots + 6 ≤ R.slots) (hlocks : meth.locks = false) (hx9 : ∀ t : State, s.vm.Alike t.vm → H.size ≤ t.heap.size → (∀ q : Nat, q < H.size → t.heap[q]? = H[q]?) → XC eA s t) (hf : ∀ z ∈ locs, free z.base) (hc : cells + 1 ≤ mc) (hs : slots + 6 ≤ ms) :
    W p l e R s m args below meth c H locs cells slots (vx_MQ below Qc XC args s mc ms free) (F0 m pc ls rest) := by
  obtain ⟨sa, hstr⟩ := hE.2.2.2.1 _ hq
  exact vx_throwS hx hb hl hown (by decide +kernel) (by decide +kernel) (hts _ k_X_49) (hts _ k_ini_IllegalArgumentException) hstr (eA_at hts hE) eA_ot (hU _ _ _ hE.1) (hU _ _ _ hE.2.1) hS hsize d0 d3 d4 d6 d9 (fun x hx => (hno x hx).elim) hR.1 hR.2.1 hR.2.2.1 hR.2.2.2 hlocks hx9 hf hc hs
theorem tw_I (hx : p.tables.exec = Jvm.exec) (hb : c.code = cc) (hl : l.stackTraces = false) (hown : s.vm.findClass RX = some m.cls) (hts : ∀ w ∈ TT, w.before args s = true) (hE : wE s s.heap) (hU : ∀ C n d, vx_Zq C n d (fun _ => False) s s.heap → vx_Zq C n d A s s.heap) (hq : (is, text) ∈ eS) (hS : va_S A s.heap H locs) (hsize : ls.size = c.maxLocals)
    (d0 : decode cc pc = .ok (.new 63, 3)) (d3 : decode cc (pc + 3) = .ok (.dup, 1)) (d4 : decode cc (pc + 4) = .ok (.ldc is, 2)) (d6 : decode cc (pc + 6) = .ok (.invokespecial 67, 3)) (d9 : decode cc (pc + 9) = .ok (.athrow, 1)) (hno : ∀ x ∈ c.exceptionTable.toList, False)
    (hR : 5 < R.frames ∧ (rest.map fun v => v.category).sum + 82 ≤ R.locals ∧ cells + 1 ≤ R.cells ∧ slots + 6 ≤ R.slots) (hlocks : meth.locks = false) (hx9 : ∀ t : State, s.vm.Alike t.vm → H.size ≤ t.heap.size → (∀ q : Nat, q < H.size → t.heap[q]? = H[q]?) → XC eI s t) (hf : ∀ z ∈ locs, free z.base) (hc : cells + 1 ≤ mc) (hs : slots + 6 ≤ ms) :
    W p l e R s m args below meth c H locs cells slots (vx_MQ below Qc XC args s mc ms free) (F0 m pc ls rest) := by
  obtain ⟨sa, hstr⟩ := hE.2.2.2.1 _ hq
  exact vx_throwS hx hb hl hown (by decide +kernel) (by decide +kernel) (hts _ k_X_63) (hts _ k_ini_IndexOutOfBoundsException) hstr (eI_at hts hE) eI_ot (hU _ _ _ hE.1) (hU _ _ _ hE.2.1) hS hsize d0 d3 d4 d6 d9 (fun x hx => (hno x hx).elim) hR.1 hR.2.1 hR.2.2.1 hR.2.2.2 hlocks hx9 hf hc hs
/-- a method that throws, whatever it does: a contract's end -/
def tw_N : Array Value → State → Outcome → State → Prop := fun _ _ _ _ => False
/-- a call that throws -/
theorem tw_call {a : Array Value} (hr : vx_Run p l e R s m args below meth c H locs cells slots mc ms (F0 m pc ls st0) rest (tw_N a) XC free)
    (kx : ∀ (E : String) (ce : Cell) (q9 : Addr) (st t : State) (L : List Loc), st.heap = H → XC E st t → (∀ z ∈ L, free z.base) → t.heap[q9]? = some ce → ce.vm = .none → s.vm.findClass E = some ce.cls → vx_W p l e R s m args below meth c t.heap (locs ++ L) (cells + mc) (slots + ms) Q (F0 m pc ls rest) q9) : W p l e R s m args below meth c H locs cells slots Q (F0 m pc ls st0) := by
  intro T hT X
  rcases hr T hT X with ⟨v, st₀, t, T', L, h0, X', hL, e1, e2, hF, st⟩ | ⟨q, st₀, t, T', L, E, ce, h0, X', hL, e1, e2, hXC, hce, hcv, hcl, st⟩
  · exact absurd hF (fun z => z)
  · obtain ⟨t2, a1, b1⟩ := kx E ce q st₀ t L h0 hXC hL hce hcv hcl T' e1 X'
    exact ⟨t2, st.trans a1, b1⟩
end TWX
