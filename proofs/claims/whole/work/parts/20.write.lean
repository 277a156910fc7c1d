/-! rows that write one cell: it holds the new contents, every other cell is as it was -/
section TWR
variable {p : Program} {l : Launch} {e : Env} {R : Room} {s : State} {m : MethodId} {args : Array Value} {below : List Frame} {meth : Method} {c : Code} {H : Heap} {locs : List Loc} {cells slots : Nat} {Q : State → Prop}
variable {pc n a0 : Nat} {ls : Array Slot} {rest : List Value} {cc : ByteArray} {D : va_G} {cl : List vw_C} {tys : List (ClassId × FieldType)} {F : Nat → Prop}
theorem tq_iast (hexec : p.tables.exec = Jvm.exec) (hb : c.code = cc) (hK : va_K D cl tys s) (t0 : Nat) {cA : ClassId} {f : Nat → Int32} {j : Nat} {x : Int32} (hP : va_P D cl [(a0, .inl (cA, n, .inl f))] H) (ht : tys[t0]? = some (cA, .int)) (hj : j < n) (hn : n < 2 ^ 31) (hF : F a0) (hL : ∀ q ∈ locs, F q.base) (hdg : decode cc pc = .ok (.iastore, 1))
    (kk : ∀ (H1 : Heap) (locs1 : List Loc), va_P D cl [(a0, .inl (cA, n, .inl (upd f j x)))] H1 → H1.size = H.size → (∀ q : Nat, q ≠ a0 → H1[q]? = H[q]?) → (∀ q ∈ locs1, F q.base) → W p l e R s m args below meth c H1 locs1 cells slots Q (F0 m (pc + 1) ls rest)) : W p l e R s m args below meth c H locs cells slots Q (F0 m pc ls (.int x :: .int (nI j) :: .ref a0 :: rest)) := by
  refine W.iast hexec hb (hP 0 _ rfl) ((hK.2 t0 _ ht).1 n (fun j => .int (f j))) (fun q => by cases q) (by show ¬ (nI j < 0 ∨ (arrV _ _ _).slots.size ≤ _); rw [arrV_size]; exact vp_in_nI hj hn) rfl rfl hdg fun H1 e1 z oq => ?_
  refine kk H1 _ ?_ z oq (fun q hq => ?_)
  · intro k q hk
    match k, hk with
    | 0, rfl =>
      show H1[a0]? = some (vp_cell _ _)
      rw [e1, nI_clamp (by omega), vp_cell_i, vp_cell_i, arrV_store]
      congr 2
      funext i
      by_cases h : i = j
      · subst h; simp [updV, upd]
      · simp [updV, upd, h]
  · rcases List.mem_append.mp hq with h | h
    · exact hL q h
    · rw [List.mem_singleton.mp h]; exact hF
theorem tq_last (hexec : p.tables.exec = Jvm.exec) (hb : c.code = cc) (hK : va_K D cl tys s) (t0 : Nat) {cA : ClassId} {f : Nat → Int64} {j : Nat} {x : Int64} (hP : va_P D cl [(a0, .inl (cA, n, .inr (.inl f)))] H) (ht : tys[t0]? = some (cA, .long)) (hj : j < n) (hn : n < 2 ^ 31) (hF : F a0) (hL : ∀ q ∈ locs, F q.base) (hdg : decode cc pc = .ok (.lastore, 1))
    (kk : ∀ (H1 : Heap) (locs1 : List Loc), va_P D cl [(a0, .inl (cA, n, .inr (.inl (vp_updL f j x))))] H1 → H1.size = H.size → (∀ q : Nat, q ≠ a0 → H1[q]? = H[q]?) → (∀ q ∈ locs1, F q.base) → W p l e R s m args below meth c H1 locs1 cells slots Q (F0 m (pc + 1) ls rest)) : W p l e R s m args below meth c H locs cells slots Q (F0 m pc ls (.long x :: .int (nI j) :: .ref a0 :: rest)) := by
  refine W.last hexec hb (hP 0 _ rfl) ((hK.2 t0 _ ht).1 n (fun j => .long (f j))) (fun q => by cases q) (by show ¬ (nI j < 0 ∨ (arrV _ _ _).slots.size ≤ _); rw [arrV_size]; exact vp_in_nI hj hn) rfl rfl hdg fun H1 e1 z oq => ?_
  refine kk H1 _ ?_ z oq (fun q hq => ?_)
  · intro k q hk
    match k, hk with
    | 0, rfl =>
      show H1[a0]? = some (vp_cell _ _)
      rw [e1, nI_clamp (by omega), vp_cell_l, vp_cell_l, arrV_store]
      congr 2
      funext i
      by_cases h : i = j
      · subst h; simp [updV, vp_updL]
      · simp [updV, vp_updL, h]
  · rcases List.mem_append.mp hq with h | h
    · exact hL q h
    · rw [List.mem_singleton.mp h]; exact hF
theorem tq_put (hexec : p.tables.exec = Jvm.exec) (hb : c.code = cc) {own ref C : String} {T : u_T} {N ci index : Nat} {Ts : List Cond} (hts : ∀ w ∈ Ts, w.before args s = true) (hin : ∀ w ∈ u_ws C T N, w ∈ Ts) (ty0 : Nat → FieldType) (hty : ∀ k, k < N → parseFieldDescriptor (T k).2.2.1 = some (ty0 k)) (hnm : ∀ a, a < N → ∀ b, b < N → a ≠ b → (T a).2.1 ≠ (T b).2.1) (hown : s.vm.findClass own = some m.cls) (hK : va_K D cl tys s) {fs : List Value} (hP : va_P D cl [(a0, .inr (ci, fs))] H) (hc : cl[ci]? = some (C, T, N)) (k : Nat) (hk : k < N)
    (hlink : (Cond.fieldLink own index ref (T k).2.1 (T k).2.2.1).before args s = true) (hsame : ∀ x, s.fieldFound? (T k).1 (T k).2.1 (T k).2.2.1 = some x → s.fieldFound? ref (T k).2.1 (T k).2.2.1 = some x) (hfin : (T k).2.2.2 = false) {ty : FieldType} {v : Value} (hd : parseFieldDescriptor (T k).2.2.1 = some ty) (hn : narrow ty v = v) (hfit : fits ty v = true) (hl : k < fs.length) (hF : F a0) (hL : ∀ q ∈ locs, F q.base) (hdg : decode cc pc = .ok (.putfield index, 3))
    (kk : ∀ (H1 : Heap) (locs1 : List Loc), va_P D cl [(a0, .inr (ci, fs.set k v))] H1 → H1.size = H.size → (∀ q : Nat, q ≠ a0 → H1[q]? = H[q]?) → (∀ q ∈ locs1, F q.base) → W p l e R s m args below meth c H1 locs1 cells slots Q (F0 m (pc + 3) ls rest)) : W p l e R s m args below meth c H locs cells slots Q (F0 m pc ls (v :: .ref a0 :: rest)) := by
  have hap := va_apart (own := own) hts hin ty0 hty hnm hK hc
  obtain ⟨r, h1, cell, q1, q2, q3, q4⟩ := hP 0 _ rfl
  have hr : r = (C, T, N) := Option.some.inj (h1.symm.trans hc)
  subst hr
  obtain ⟨hS, hfc, kC, hkC, hkind⟩ := hK.1 ci _ hc
  obtain ⟨cf, kf, fi, f, hi, hsl⟩ := hS k hk
  have hlay := hts _ (hin _ (u_in_lay hk))
  unfold u_lay at hlay
  rw [if_neg (by rw [hfin]; decide)] at hlay
  refine W.putK hexec hb (f := f) ⟨hown, hlink, ⟨_, _, _, hsame _ hi⟩, (u_facts hfc hkC (u_lays hts hin hk) hi).1⟩ (by rw [q2]; exact u_store hfc hkC hkind hlay hi hd hn hfit) q1 q3 (by rw [hsl]; exact k2_hasslot (q4 k hk)) rfl rfl hdg fun H' e1 e2 e3 => ?_
  rw [hsl] at e1
  refine kk H' _ ?_ e2 e3 (fun q hq => ?_)
  · intro i q hk9
    match i, hk9 with
    | 0, rfl => exact ⟨_, hc, t_OB.to (V := updV (vp_V fs) k v) ⟨_, e1, q2, q3, t_set q4 hap hk v⟩ (fun j _ => vp_updV_set hl v j)⟩
  · rcases List.mem_append.mp hq with h | h
    · exact hL q h
    · rw [List.mem_singleton.mp h]; exact hF
end TWR
/-! worlds, cell by cell -/
theorem vP_cons {D : va_G} {cl : List vw_C} {x : Nat × va_E} {ws : va_W} {H : Heap} (h1 : va_P D cl [x] H) (h2 : va_P D cl ws H) : va_P D cl (x :: ws) H := by
  intro k q hk
  cases k with
  | zero => exact h1 0 q hk
  | succ k => exact h2 k q hk
theorem vP_but {D : va_G} {cl : List vw_C} {ws : va_W} {H H1 : Heap} {a : Nat} (h : va_P D cl ws H) (hn : ∀ x ∈ ws, x.1 ≠ a) (hq : ∀ q : Nat, q ≠ a → H1[q]? = H[q]?) : va_P D cl ws H1 := h.kept (fun _ q hk => hq q.1 (hn q (List.mem_of_getElem? hk)))
theorem vP_same {D : va_G} {cl : List vw_C} {a : Nat} {cA : ClassId} {n : Nat} {f f' : Nat → Int32} {H : Heap} (h : va_P D cl [(a, .inl (cA, n, .inl f))] H) (he : ∀ j, j < n → f j = f' j) : va_P D cl [(a, .inl (cA, n, .inl f'))] H := by
  intro k q hk
  match k, hk with
  | 0, rfl =>
    have h0 := h 0 _ rfl
    show H[a]? = some (vp_cell _ _)
    rw [show H[a]? = some (vp_cell cA (n, .inl f)) from h0, vp_cell_i, vp_cell_i]
    unfold arrV
    congr 2
    apply Array.ext
    · simp
    · intro i h1 h2
      simp only [Array.size_ofFn] at h1
      simp [he i h1]
/-- the addresses of an object's cells are apart -/
def tx_D (ad : Nat → Nat) : Prop := ∀ i j, i < 24 → j < 24 → ad i = ad j → i = j
theorem tx_D.ne {ad : Nat → Nat} (h : tx_D ad) {i j : Nat} (hi : i < 24) (hj : j < 24) (hn : i ≠ j) : ad i ≠ ad j := fun q => hn (h i j hi hj q)
def txF (ad : Nat → Nat) : Nat → Prop := fun q => ∃ k, k < 24 ∧ q = ad k
/-- nothing is made, and only the object's cells have changed -/
def txO (ad : Nat → Nat) (H H1 : Heap) : Prop := H1.size = H.size ∧ ∀ q : Nat, ¬ txF ad q → H1[q]? = H[q]?
theorem txO.rf {ad : Nat → Nat} {H : Heap} : txO ad H H := ⟨rfl, fun _ _ => rfl⟩
theorem txO.tr {ad : Nat → Nat} {H H1 H2 : Heap} (h1 : txO ad H H1) (h2 : txO ad H1 H2) : txO ad H H2 := ⟨h2.1.trans h1.1, fun q hq => (h2.2 q hq).trans (h1.2 q hq)⟩
theorem txO.put {ad : Nat → Nat} {H H1 : Heap} {k : Nat} (hk : k < 24) (hz : H1.size = H.size) (hq : ∀ q : Nat, q ≠ ad k → H1[q]? = H[q]?) : txO ad H H1 := ⟨hz, fun q h => hq q (fun z => h ⟨k, hk, z⟩)⟩
section TXU
variable {D : va_G} {ci : Nat → ClassId} {ad : Nat → Nat} {g : TS} {tc td : Int32} {tn : Nat → Int32} {H H1 : Heap}
theorem tx_one (h : tx D ci ad g tc td tn H) (k : Nat) {x : Nat × va_E} (hx : (tx_w ci ad g tc td tn)[k]? = some x) : va_P D tcl [x] H := by
  intro i q hi
  match i, hi with
  | 0, rfl => exact h.1 k _ hx
theorem tx_keep (h : tx D ci ad g tc td tn H) (hq : ∀ k, k < 24 → H1[ad k]? = H[ad k]?) : tx D ci ad g tc td tn H1 := by
  refine ⟨h.1.kept (fun k q hk => ?_), fun i hi => (h.2.1 i hi).kept (fun k q hk => ?_), fun i hi => (h.2.2 i hi).kept (fun k q hk => ?_)⟩
  · match k, hk with
    | 0, rfl => exact hq 0 (by decide)
    | 1, rfl => exact hq 1 (by decide)
    | 2, rfl => exact hq 2 (by decide)
    | 3, rfl => exact hq 3 (by decide)
    | 4, rfl => exact hq 4 (by decide)
    | 5, rfl => exact hq 5 (by decide)
    | 6, rfl => exact hq 6 (by decide)
    | 7, rfl => exact hq 7 (by decide)
  · match k, hk with
    | 0, rfl => exact hq (8 + i) (by omega)
  · match k, hk with
    | 0, rfl => exact hq (16 + i) (by omega)
/-- the k-th main cell has changed, the others haven't -/
theorem tx_set (hD : tx_D ad) (h : tx D ci ad g tc td tn H) (k : Nat) (hk : k < 8) {g' : TS} {tc' td' : Int32} {tn' : Nat → Int32} (hf : tt_fac g' = tt_fac g) (hs : tt_shf g' = tt_shf g)
    {x : Nat × va_E} (hx : (tx_w ci ad g' tc' td' tn')[k]? = some x) (hP : va_P D tcl [x] H1) (hw : ∀ j, j ≠ k → (tx_w ci ad g' tc' td' tn')[j]? = (tx_w ci ad g tc td tn)[j]?) (hq : ∀ q : Nat, q ≠ ad k → H1[q]? = H[q]?) : tx D ci ad g' tc' td' tn' H1 := by
  refine ⟨fun j q hj => ?_, fun i hi => ?_, fun i hi => ?_⟩
  · by_cases e : j = k
    · subst e
      cases Option.some.inj (hx.symm.trans hj)
      exact hP 0 _ rfl
    · have hj0 := hj
      rw [hw j e] at hj
      have hne : q.1 ≠ ad k := by
        match j, hj with
        | 0, rfl => exact hD.ne (by omega) (by omega) e
        | 1, rfl => exact hD.ne (by omega) (by omega) e
        | 2, rfl => exact hD.ne (by omega) (by omega) e
        | 3, rfl => exact hD.ne (by omega) (by omega) e
        | 4, rfl => exact hD.ne (by omega) (by omega) e
        | 5, rfl => exact hD.ne (by omega) (by omega) e
        | 6, rfl => exact hD.ne (by omega) (by omega) e
        | 7, rfl => exact hD.ne (by omega) (by omega) e
      exact (h.1 j q hj).kept (hq _ hne)
  · rw [hf]
    exact vP_but (h.2.1 i hi) (fun x hx => by rw [List.mem_singleton.mp hx]; exact hD.ne (by omega) (by omega) (by omega)) hq
  · rw [hs]
    exact vP_but (h.2.2 i hi) (fun x hx => by rw [List.mem_singleton.mp hx]; exact hD.ne (by omega) (by omega) (by omega)) hq
end TXU
/-- what a method of the class that writes begins with, and how it ends -/
def wXD (D : va_G) (ci : Nat → ClassId) (ad : Nat → Nat) (g : TS) (tc td : Int32) (tn : Nat → Int32) (U : State) (H : Heap) : Prop := wX D ci ad g tc td tn U H ∧ tx_D ad
theorem wXD_mv {D : va_G} {ci : Nat → ClassId} {ad : Nat → Nat} {g : TS} {tc td : Int32} {tn : Nat → Int32} : tmov (wXD D ci ad g tc td tn) := fun _ _ _ hW h => ⟨wX_mv _ _ _ hW h.1, h.2⟩
abbrev qX (D : va_G) (ci : Nat → ClassId) (ad : Nat → Nat) (g : TS) (tc td : Int32) (tn : Nat → Int32) (rv : Option Value) : Array Value → State → Outcome → State → Prop := tq_Q (fun v H H1 => v = rv ∧ tx D ci ad g tc td tn H1 ∧ txO ad H H1)
