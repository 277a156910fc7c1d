/-! rows of our own: calls that write nothing, calls that write -/
section TQ
variable {p : Program} {l : Launch} {e : Env} {R : Room} {s : State} {m : MethodId} {args : Array Value} {below : List Frame} {meth : Method} {c : Code} {H : Heap} {locs : List Loc} {cells slots : Nat} {Q : State → Prop}
variable {pc : Nat} {ls : Array Slot} {rest st0 : List Value} {a : Array Value} {mc ms : Nat} {free : Addr → Prop}
/-- a method's end: it returned v, and F says what of the heap -/
def tq_Q (F : Option Value → Heap → Heap → Prop) : Array Value → State → Outcome → State → Prop := fun _ st oc t => ∃ v, oc = .returned v ∧ F v st.heap t.heap
def tq_n : Addr → Prop := fun _ => False
/-- .. it returned r, and the heap is as it was -/
abbrev tq_P (r : Option Value) : Array Value → State → Outcome → State → Prop := tq_Q (fun v H H1 => v = r ∧ H1 = H)
theorem tq_call {F : Option Value → Heap → Heap → Prop} (hr : va_Run p l e R s m args below meth c H locs cells slots mc ms (F0 m pc ls st0) rest (tq_Q F a) free)
    (kk : ∀ (v : Option Value) (H1 : Heap) (L : List Loc), F v H H1 → (∀ q ∈ L, free q.base) → W p l e R s m args below meth c H1 (locs ++ L) (cells + mc) (slots + ms) Q (F0 m (pc + 3) ls (v.toList ++ rest))) : W p l e R s m args below meth c H locs cells slots Q (F0 m pc ls st0) := by
  intro T hT X
  obtain ⟨v, st₀, t, T', L, h0, X', hL, e1, e2, ⟨v', hv, hF⟩, st⟩ := hr T hT X
  cases hv
  rw [h0, ← e1] at hF
  obtain ⟨t2, a1, b1⟩ := kk v T'.heap L hF hL T' rfl X'
  exact ⟨t2, st t2 a1, b1⟩
theorem tq_pure {r : Option Value} (hr : va_Run p l e R s m args below meth c H locs cells slots 0 0 (F0 m pc ls st0) rest (tq_P r a) tq_n)
    (kk : W p l e R s m args below meth c H locs cells slots Q (F0 m (pc + 3) ls (r.toList ++ rest))) : W p l e R s m args below meth c H locs cells slots Q (F0 m pc ls st0) := by
  refine tq_call hr (fun v H1 L hF hL => ?_)
  obtain ⟨rfl, rfl⟩ := hF
  have hL0 : L = [] := by
    cases L with
    | nil => rfl
    | cons q t => exact absurd (hL q List.mem_cons_self) (fun z => z)
  subst hL0
  rw [List.append_nil]
  exact kk
/-- the number on the top by another term -/
theorem tq_ti {x y : Int32} (h : x = y) (k : W p l e R s m args below meth c H locs cells slots Q (F0 m pc ls (.int y :: rest))) : W p l e R s m args below meth c H locs cells slots Q (F0 m pc ls (.int x :: rest)) := h ▸ k
theorem tq_tl {x y : Int64} (h : x = y) (k : W p l e R s m args below meth c H locs cells slots Q (F0 m pc ls (.long y :: rest))) : W p l e R s m args below meth c H locs cells slots Q (F0 m pc ls (.long x :: rest)) := h ▸ k
theorem tq_tv {x y : Value} (h : x = y) (k : W p l e R s m args below meth c H locs cells slots Q (F0 m pc ls (y :: rest))) : W p l e R s m args below meth c H locs cells slots Q (F0 m pc ls (x :: rest)) := h ▸ k
end TQ
/-! a contract's start: what the tables and the heap hold; it moves with tables that grow warmer -/
def tb (K : State → Heap → Prop) (av : List Value) : Array Value → State → Prop := va_Pc av (fun U => K U U.heap)
def tmov (K : State → Heap → Prop) : Prop := ∀ (u U : State) (H : Heap), u.WarmedH U.vm → K u H → K U H
theorem tb_S {K : State → Heap → Prop} {s : State} {H : Heap} {As : List Value} (hm : tmov K) (h : K s H) : PreS s H (tb K As) As :=
  ⟨fun _ U _ _ q => ⟨q.1, hm U _ _ (State.WarmedH.refl U) q.2⟩, fun U hU hW => ⟨rfl, by show K U U.heap; rw [hU]; exact hm s U H hW h⟩⟩
theorem tb_V {K : State → Heap → Prop} {s : State} {H : Heap} {C : String} {b : Addr} {As : List Value} (hm : tmov K) (h : K s H) (hr : ∃ cellB : Cell, H[b]? = some cellB ∧ cellB.vm.isStatics = false ∧ s.vm.findClass C = some cellB.cls) : PreV s H C b (tb K (.ref b :: As)) As :=
  ⟨fun _ U _ _ q => ⟨q.1, hm U _ _ (State.WarmedH.refl U) q.2⟩, hr, fun U hU hW => ⟨rfl, by show K U U.heap; rw [hU]; exact hm s U H hW h⟩⟩
