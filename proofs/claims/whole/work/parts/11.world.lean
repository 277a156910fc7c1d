/-! calls: what a call site needs, out of the tables' words -/
theorem wT_in {y : MethodName} {b : ByteArray} {n : Nat} {r : Option FieldType} {Ts : List Cond} (hT : ∀ w ∈ TT, w ∈ Ts) (hc : Cond.code y b n r ∈ TT) : GoodIn Ts (wT y b n r) := fun w h => by
  rcases List.mem_cons.mp h with e | h
  · rw [e]; exact ⟨hT _ hc, Or.inl rfl⟩
  · exact ⟨hT _ h, good_of_word (TT_good w h)⟩
theorem wT_T {y : MethodName} {b : ByteArray} {n : Nat} {r : Option FieldType} : ∀ w ∈ TT, w ∈ wT y b n r := fun _ h => List.mem_cons_of_mem _ h
theorem wH_T {y : MethodName} {b : ByteArray} {n : Nat} {r : Option FieldType} {h : List (Nat × Nat × Nat × Nat)} : ∀ w ∈ TT, w ∈ wH y b n r h := fun _ h => List.mem_cons_of_mem _ h
theorem tcV {R : Room} {s : State} {args : Array Value} {Ts : List Cond} {own C : String} {i maxL n mc ms : Nat} {y : MethodName} {b : ByteArray} {r : Option FieldType} {rm : Room} (k : tkV own i C y b maxL r n) (ht : ∀ w ∈ Ts, w.before args s = true) (hT : ∀ w ∈ TT, w ∈ Ts) (hR : rm.cells = mc ∧ rm.slots = ms ∧ rm.frames + 1 ≤ R.frames ∧ 8 + (maxL + 11) + rm.locals ≤ R.locals) : CallW R s args own C i y b maxL r (wT y b maxL r) rm mc ms n := by
  obtain ⟨k1, k2, k3, k4, k5, k6, k7⟩ := k
  refine ⟨⟨hR.1, hR.2.1, hR.2.2.1, hR.2.2.2, pay_in ht (wT_in hT k5), List.mem_cons_self, ht _ (hT _ k5), ht _ (hT _ k4), k6, fun sig h => ?_, ht _ (hT _ k1)⟩, ht _ (hT _ k2), ht _ (hT _ k3)⟩
  rw [h] at k7
  exact (Option.some.inj k7).symm
theorem tcS {R : Room} {s : State} {args : Array Value} {Ts : List Cond} {own : String} {i maxL n mc ms : Nat} {y : MethodName} {b : ByteArray} {r : Option FieldType} {rm : Room} (k : tkS own i y b maxL r n) (ht : ∀ w ∈ Ts, w.before args s = true) (hT : ∀ w ∈ TT, w ∈ Ts) (hR : rm.cells = mc ∧ rm.slots = ms ∧ rm.frames + 1 ≤ R.frames ∧ 8 + (maxL + 11) + rm.locals ≤ R.locals) : CallB R s args own i y b maxL r (wT y b maxL r) rm mc ms n ∧ (Cond.static y).before args s = true := by
  obtain ⟨k1, k2, k4, k5, k6, k7⟩ := k
  refine ⟨⟨hR.1, hR.2.1, hR.2.2.1, hR.2.2.2, pay_in ht (wT_in hT k5), List.mem_cons_self, ht _ (hT _ k5), ht _ (hT _ k4), k6, fun sig h => ?_, ht _ (hT _ k1)⟩, ht _ (hT _ k2)⟩
  rw [h] at k7
  exact (Option.some.inj k7).symm
section TR
variable {p : Program} {l : Launch} {e : Env} {R : Room} {s : State} {m : MethodId} {args : Array Value} {below : List Frame} {meth : Method} {c : Code} {H : Heap} {locs : List Loc} {cells slots : Nat} {Q : State → Prop}
variable {pc : Nat} {ls : Array Slot} {rest st0 : List Value} {cc b : ByteArray} {nL i maxL n : Nat} {own C : String} {y : MethodName} {r : Option FieldType} {rm : Room} {Ts : List Cond} {K : State → Heap → Prop} {As : List Value} {rv : Option Value} {a0 : Addr}
/-- a virtual call of a method that writes nothing -/
theorem tq_V (S : CallFix p m c cc nL s args Ts own) (hT : ∀ w ∈ TT, w ∈ Ts) (hM : Met l y (wT y b maxL r) rm (tb K (.ref a0 :: As)) (tq_P rv) 0 0 tq_n) (k : tkV own i C y b maxL r n) (hmv : tmov K) (hK : K s H) (hrc : ∃ cellB : Cell, H[a0]? = some cellB ∧ cellB.vm.isStatics = false ∧ s.vm.findClass C = some cellB.cls)
    (hn : As.length = n) (hsz : ls.size = nL) (hst : st0 = As.reverse ++ .ref a0 :: rest) (hW : (rest.map fun v => v.category).sum ≤ 8) (hd : decode cc pc = .ok (.invokevirtual i, 3)) (hR : rm.cells = 0 ∧ rm.slots = 0 ∧ rm.frames + 1 ≤ R.frames ∧ 8 + (maxL + 11) + rm.locals ≤ R.locals) (hf : cells ≤ R.cells ∧ slots ≤ R.slots)
    (kk : W p l e R s m args below meth c H locs cells slots Q (F0 m (pc + 3) ls (rv.toList ++ rest))) : W p l e R s m args below meth c H locs cells slots Q (F0 m pc ls st0) :=
  tq_pure (va_runV S hM (tcV k S.2.2.2.2 hT hR) (tb_V hmv hK hrc) rfl hn hsz hst (lv_room hW) hd hf) kk
/-- a static call of a method that writes nothing -/
theorem tq_S (S : CallFix p m c cc nL s args Ts own) (hT : ∀ w ∈ TT, w ∈ Ts) (hM : Met l y (wT y b maxL r) rm (tb K As) (tq_P rv) 0 0 tq_n) (k : tkS own i y b maxL r n) (hmv : tmov K) (hK : K s H)
    (hn : As.length = n) (hsz : ls.size = nL) (hst : st0 = As.reverse ++ rest) (hW : (rest.map fun v => v.category).sum ≤ 8) (hd : decode cc pc = .ok (.invokestatic i, 3)) (hR : rm.cells = 0 ∧ rm.slots = 0 ∧ rm.frames + 1 ≤ R.frames ∧ 8 + (maxL + 11) + rm.locals ≤ R.locals) (hf : cells ≤ R.cells ∧ slots ≤ R.slots)
    (kk : W p l e R s m args below meth c H locs cells slots Q (F0 m (pc + 3) ls (rv.toList ++ rest))) : W p l e R s m args below meth c H locs cells slots Q (F0 m pc ls st0) :=
  tq_pure (va_runS S hM (tcS k S.2.2.2.2 hT hR) (tb_S hmv hK) rfl hn hsz hst (lv_room hW) hd hf) kk
variable {D : va_G} {cl : List vw_C} {tys : List (ClassId × FieldType)} {ws : va_W}
theorem tq_iald (hexec : p.tables.exec = Jvm.exec) (hb : c.code = cc) (hK : va_K D cl tys s) (hP : va_P D cl ws H) (q0 t0 : Nat) {cA : ClassId} {f : Nat → Int32} {j : Nat} (ha : ws[q0]? = some (a0, .inl (cA, n, .inl f))) (ht : tys[t0]? = some (cA, .int)) (hj : j < n) (hn : n < 2 ^ 31) (hdg : decode cc pc = .ok (.iaload, 1))
    (kk : W p l e R s m args below meth c H locs cells slots Q (F0 m (pc + 1) ls (.int (f j) :: rest))) : W p l e R s m args below meth c H locs cells slots Q (F0 m pc ls (.int (nI j) :: .ref a0 :: rest)) :=
  va_iald hexec hb hK hP q0 t0 ha ht (vp_in_nI hj hn) hdg (by rw [nI_clamp (by omega)]; exact kk)
theorem tq_lald (hexec : p.tables.exec = Jvm.exec) (hb : c.code = cc) (hK : va_K D cl tys s) (hP : va_P D cl ws H) (q0 t0 : Nat) {cA : ClassId} {f : Nat → Int64} {j : Nat} (ha : ws[q0]? = some (a0, .inl (cA, n, .inr (.inl f)))) (ht : tys[t0]? = some (cA, .long)) (hj : j < n) (hn : n < 2 ^ 31) (hdg : decode cc pc = .ok (.laload, 1))
    (kk : W p l e R s m args below meth c H locs cells slots Q (F0 m (pc + 1) ls (.long (f j) :: rest))) : W p l e R s m args below meth c H locs cells slots Q (F0 m pc ls (.int (nI j) :: .ref a0 :: rest)) :=
  va_lald hexec hb hK hP q0 t0 ha ht (vp_in_nI hj hn) hdg (by rw [nI_clamp (by omega)]; exact kk)
/-- a row of an array of arrays -/
theorem tq_aald (hexec : p.tables.exec = Jvm.exec) (hb : c.code = cc) (hK : va_K D cl tys s) (hP : va_P D cl ws H) (q0 t0 : Nat) {cA : ClassId} {f : Nat → Option Nat} {j z : Nat} {ty : FieldType} (ha : ws[q0]? = some (a0, .inl (cA, n, .inr (.inr (.inr (.inr f)))))) (ht : tys[t0]? = some (cA, ty)) (hty : ty.isReference = true) (hj : j < n) (hn : n < 2 ^ 31) (hz : f j = some z) (hdg : decode cc pc = .ok (.aaload, 1))
    (kk : W p l e R s m args below meth c H locs cells slots Q (F0 m (pc + 1) ls (.ref z :: rest))) : W p l e R s m args below meth c H locs cells slots Q (F0 m pc ls (.int (nI j) :: .ref a0 :: rest)) := by
  refine W.aald (v := va_rf (f j)) (ty := ty) hexec hb (hP q0 _ ha) ((hK.2 t0 _ ht).1 n (fun j => va_rf (f j))) hty (fun q => by cases q) (by show ¬ (nI j < 0 ∨ (arrV _ _ _).slots.size ≤ _); rw [arrV_size]; exact vp_in_nI hj hn) (by show (arrV _ _ _).slots[_]? = _; rw [nI_clamp (by omega), arrV_read _ _ hj]) rfl rfl hdg ?_
  rw [hz]
  exact kk
end TR
/-! the class's object and its arrays -/
def tk (D : va_G) (ci : Nat → ClassId) (U : State) : Prop := va_K D tcl [(ci 0, .int), (ci 1, .long), (ci 2, .array .int), (ci 3, .array .long), (ci 4, .boolean)] U
theorem tk.moved {D : va_G} {ci : Nat → ClassId} {u U : State} (hW : u.WarmedH U.vm) (h : tk D ci u) : tk D ci U := va_K.moved hW.alike h
abbrev tx_w (ci : Nat → ClassId) (ad : Nat → Nat) (g : TS) (tc td : Int32) (tn : Nat → Int32) : va_W :=
  [(ad 0, .inr (0, [.int (iZ (tt_lev g)), .ref (ad 1), .ref (ad 2), .ref (ad 3), .ref (ad 4), .ref (ad 5), .ref (ad 6), .ref (ad 7), .int tc, .int td])),
   (ad 1, .inl (ci 0, 8, .inl (fun j => nI (tt_amp g j)))), (ad 2, .inl (ci 1, 8, .inr (.inl (fun j => lN (tt_spd g j))))), (ad 3, .inl (ci 1, 8, .inr (.inl (fun j => lN (tt_pha g j))))),
   (ad 4, .inl (ci 2, 8, .inr (.inr (.inr (.inr (fun j => some (ad (8 + j)))))))), (ad 5, .inl (ci 3, 8, .inr (.inr (.inr (.inr (fun j => some (ad (16 + j)))))))),
   (ad 6, .inl (ci 0, 11, .inl (fun j => nI (tt_fst g j)))), (ad 7, .inl (ci 0, 1440, .inl tn))]
def tx (D : va_G) (ci : Nat → ClassId) (ad : Nat → Nat) (g : TS) (tc td : Int32) (tn : Nat → Int32) (H : Heap) : Prop :=
  va_P D tcl (tx_w ci ad g tc td tn) H ∧ (∀ i, i < 8 → va_P D tcl [(ad (8 + i), .inl (ci 0, 10, .inl (fun j => nI (tt_fac g i j))))] H) ∧ ∀ i, i < 8 → va_P D tcl [(ad (16 + i), .inl (ci 1, 10, .inr (.inl (fun j => lN (tt_shf g i j)))))] H
/-- what a method of the class that writes nothing begins with -/
def wX (D : va_G) (ci : Nat → ClassId) (ad : Nat → Nat) (g : TS) (tc td : Int32) (tn : Nat → Int32) (U : State) (H : Heap) : Prop := tk D ci U ∧ tt_ok g ∧ tx D ci ad g tc td tn H
theorem wX_mv {D : va_G} {ci : Nat → ClassId} {ad : Nat → Nat} {g : TS} {tc td : Int32} {tn : Nat → Int32} : tmov (wX D ci ad g tc td tn) := fun _ _ _ hW h => ⟨tk.moved hW h.1, h.2⟩
def wN : State → Heap → Prop := fun _ _ => True
theorem wN_mv : tmov wN := fun _ _ _ _ _ => trivial
theorem wX_rc {D : va_G} {ci : Nat → ClassId} {ad : Nat → Nat} {g : TS} {tc td : Int32} {tn : Nat → Int32} {s : State} {H : Heap} (h : wX D ci ad g tc td tn s H) : ∃ cellB : Cell, H[ad 0]? = some cellB ∧ cellB.vm.isStatics = false ∧ s.vm.findClass RX = some cellB.cls := va_recv (q0 := 0) h.1 h.2.2.1 (q := (RX, TX, 10)) (ci := 0) rfl rfl
abbrev rP (f n : Nat) : Room := { frames := f, cells := 0, slots := 0, locals := n }
