/-! the reference: its object and its arrays; its leaves. Written by wip/whole/gen.py -/
abbrev tm_w (ci : Nat → ClassId) (am : Nat → Nat) (g : TS) (th fo sz : Int32) (hs mi hi tx : Nat → Int32) : va_W :=
  [(am 0, .inr (1, [.int th, .int (iZ (tt_lev g)), .ref (am 1), .ref (am 2), .ref (am 3), .ref (am 4), .ref (am 5), .ref (am 6), .ref (am 7), .int fo, .ref (am 8), .ref (am 9), .int sz, .ref (am 10)])),
   (am 1, .inl (ci 0, 10, .inl (fun j => nI (tt_day g j)))), (am 2, .inl (ci 0, 8, .inl (fun j => nI (tt_amp g j)))), (am 3, .inl (ci 1, 8, .inr (.inl (fun j => lN (tt_spd g j))))), (am 4, .inl (ci 1, 8, .inr (.inl (fun j => lN (tt_pha g j))))),
   (am 5, .inl (ci 0, 80, .inl (fun j => nI (tt_fac g (j / 10) (j % 10))))), (am 6, .inl (ci 1, 80, .inr (.inl (fun j => lN (tt_shf g (j / 10) (j % 10)))))),
   (am 7, .inl (ci 0, 1440, .inl hs)), (am 8, .inl (ci 0, 1440, .inl mi)), (am 9, .inl (ci 4, 1440, .inl hi)), (am 10, .inl (ci 0, 40, .inl tx))]
def tm (D : va_G) (ci : Nat → ClassId) (am : Nat → Nat) (g : TS) (th fo sz : Int32) (hs mi hi tx : Nat → Int32) (H : Heap) : Prop := va_P D tcl (tm_w ci am g th fo sz hs mi hi tx) H
def wM (D : va_G) (ci : Nat → ClassId) (am : Nat → Nat) (g : TS) (th fo sz : Int32) (hs mi hi tx : Nat → Int32) (U : State) (H : Heap) : Prop := tk D ci U ∧ tt_ok g ∧ tm D ci am g th fo sz hs mi hi tx H
theorem wM_mv {D : va_G} {ci : Nat → ClassId} {am : Nat → Nat} {g : TS} {th fo sz : Int32} {hs mi hi tx : Nat → Int32} : tmov (wM D ci am g th fo sz hs mi hi tx) := fun _ _ _ hW h => ⟨tk.moved hW h.1, h.2⟩
theorem wM_rc {D : va_G} {ci : Nat → ClassId} {am : Nat → Nat} {g : TS} {th fo sz : Int32} {hs mi hi tx : Nat → Int32} {s : State} {H : Heap} (hK : tk D ci s) (hM : tm D ci am g th fo sz hs mi hi tx H) : ∃ cellB : Cell, H[am 0]? = some cellB ∧ cellB.vm.isStatics = false ∧ s.vm.findClass RM = some cellB.cls := va_recv (q0 := 0) hK hM (q := (RM, TM, 14)) (ci := 1) rfl rfl
set_option maxHeartbeats 4000000 in
set_option maxRecDepth 100000 in
theorem c_M_isOne (l : Launch) (v : Int32) : Met l y_M_isOne (wT y_M_isOne b_M_isOne 1 (some .boolean)) (rP 0 0) (tb (wN) [.int v]) (tq_P (some (.int (zb (0 ≤ v.toInt ∧ v.toInt < 8))))) 0 0 tq_n := by
  refine Met.ofW (cc := b_M_isOne) (maxL := 1) (ret := (some .boolean)) (by decide) rfl ?_
  intro p e s m args below meth c s₁ B hml hv
  obtain ⟨rfl, hv⟩ := hv
  have hx := B.exec
  have hb := B.bytes
  have hr := B.returns
  have hts := atoms_spec (ws := wT y_M_isOne b_M_isOne 1 (some .boolean)) B.pre
  have hT : ∀ w ∈ TT, w ∈ wT y_M_isOne b_M_isOne 1 (some .boolean) := wT_T
  have hown : s.vm.findClass RM = some m.cls := findClass_of_methodNamed B.named
  have hlocks := B.notSynchronized
  have hl := lv_entry ([.int v]) (n := 1) (Nat.le_of_ble_eq_true rfl)
  rw [lg_entry_eq]
  generalize (lg_sl ([.int v]) ++ List.replicate (1 - (lg_sl ([.int v])).length) Slot.unset).toArray = ls at hl ⊢
  have hl : lv_has ls 1 [(0, .int v)] := hl
  refine lv_iload_n hx hb d_M_isOne_0 rfl (lv_at hl 0 rfl) ?_
  refine lv_if_lt hx hb d_M_isOne_1 (tgt := 14) (by decide) (fun q1 => ?_) (fun q1 => ?_)
  · have q1 := iv_lt0.mp q1
    refine lv_iconst hx hb d_M_isOne_14 (v := (nI 0)) rfl ?_
    exact W.zret hx hb hr narrow_b0 (fun t ht hW => ⟨_, rfl, ⟨zb_0 (by omega), ht⟩⟩) (fun q hq => nomatch hq) d_M_isOne_15
  · have q1 := mt iv_lt0.mpr q1
    refine lv_iload_n hx hb d_M_isOne_4 rfl (lv_at hl 0 rfl) ?_
    refine lv_bipush hx hb d_M_isOne_5 (v := (nI 8)) rfl ?_
    refine lv_icmp_ge hx hb d_M_isOne_7 (tgt := 14) (by decide) (fun q2 => ?_) (fun q2 => ?_)
    · have q2 := Int32.le_iff_toInt_le.mp q2
      rw [nI_toInt (n := 8) (by decide)] at q2
      refine lv_iconst hx hb d_M_isOne_14 (v := (nI 0)) rfl ?_
      exact W.zret hx hb hr narrow_b0 (fun t ht hW => ⟨_, rfl, ⟨zb_0 (by omega), ht⟩⟩) (fun q hq => nomatch hq) d_M_isOne_15
    · have q2 := mt Int32.le_iff_toInt_le.mpr q2
      rw [nI_toInt (n := 8) (by decide)] at q2
      refine lv_iconst hx hb d_M_isOne_10 (v := (nI 1)) rfl ?_
      refine lv_goto hx hb d_M_isOne_11 (tgt := 15) (by decide) ?_
      exact W.zret hx hb hr narrow_b1 (fun t ht hW => ⟨_, rfl, ⟨zb_1 (by omega), ht⟩⟩) (fun q hq => nomatch hq) d_M_isOne_15
set_option maxHeartbeats 4000000 in
set_option maxRecDepth 100000 in
theorem c_M_isYear (l : Launch) (v : Int32) : Met l y_M_isYear (wT y_M_isYear b_M_isYear 1 (some .boolean)) (rP 0 0) (tb (wN) [.int v]) (tq_P (some (.int (zb (0 ≤ v.toInt ∧ v.toInt < 10))))) 0 0 tq_n := by
  refine Met.ofW (cc := b_M_isYear) (maxL := 1) (ret := (some .boolean)) (by decide) rfl ?_
  intro p e s m args below meth c s₁ B hml hv
  obtain ⟨rfl, hv⟩ := hv
  have hx := B.exec
  have hb := B.bytes
  have hr := B.returns
  have hts := atoms_spec (ws := wT y_M_isYear b_M_isYear 1 (some .boolean)) B.pre
  have hT : ∀ w ∈ TT, w ∈ wT y_M_isYear b_M_isYear 1 (some .boolean) := wT_T
  have hown : s.vm.findClass RM = some m.cls := findClass_of_methodNamed B.named
  have hlocks := B.notSynchronized
  have hl := lv_entry ([.int v]) (n := 1) (Nat.le_of_ble_eq_true rfl)
  rw [lg_entry_eq]
  generalize (lg_sl ([.int v]) ++ List.replicate (1 - (lg_sl ([.int v])).length) Slot.unset).toArray = ls at hl ⊢
  have hl : lv_has ls 1 [(0, .int v)] := hl
  refine lv_iload_n hx hb d_M_isYear_0 rfl (lv_at hl 0 rfl) ?_
  refine lv_if_lt hx hb d_M_isYear_1 (tgt := 14) (by decide) (fun q1 => ?_) (fun q1 => ?_)
  · have q1 := iv_lt0.mp q1
    refine lv_iconst hx hb d_M_isYear_14 (v := (nI 0)) rfl ?_
    exact W.zret hx hb hr narrow_b0 (fun t ht hW => ⟨_, rfl, ⟨zb_0 (by omega), ht⟩⟩) (fun q hq => nomatch hq) d_M_isYear_15
  · have q1 := mt iv_lt0.mpr q1
    refine lv_iload_n hx hb d_M_isYear_4 rfl (lv_at hl 0 rfl) ?_
    refine lv_bipush hx hb d_M_isYear_5 (v := (nI 10)) rfl ?_
    refine lv_icmp_ge hx hb d_M_isYear_7 (tgt := 14) (by decide) (fun q2 => ?_) (fun q2 => ?_)
    · have q2 := Int32.le_iff_toInt_le.mp q2
      rw [nI_toInt (n := 10) (by decide)] at q2
      refine lv_iconst hx hb d_M_isYear_14 (v := (nI 0)) rfl ?_
      exact W.zret hx hb hr narrow_b0 (fun t ht hW => ⟨_, rfl, ⟨zb_0 (by omega), ht⟩⟩) (fun q hq => nomatch hq) d_M_isYear_15
    · have q2 := mt Int32.le_iff_toInt_le.mpr q2
      rw [nI_toInt (n := 10) (by decide)] at q2
      refine lv_iconst hx hb d_M_isYear_10 (v := (nI 1)) rfl ?_
      refine lv_goto hx hb d_M_isYear_11 (tgt := 15) (by decide) ?_
      exact W.zret hx hb hr narrow_b1 (fun t ht hW => ⟨_, rfl, ⟨zb_1 (by omega), ht⟩⟩) (fun q hq => nomatch hq) d_M_isYear_15
set_option maxHeartbeats 4000000 in
set_option maxRecDepth 100000 in
theorem c_M_isTurn (l : Launch) (v : Int64) : Met l y_M_isTurn (wT y_M_isTurn b_M_isTurn 2 (some .boolean)) (rP 0 0) (tb (wN) [.long v]) (tq_P (some (.int (zb (0 ≤ v.toInt ∧ v.toInt < 281474976710656))))) 0 0 tq_n := by
  refine Met.ofW (cc := b_M_isTurn) (maxL := 2) (ret := (some .boolean)) (by decide) rfl ?_
  intro p e s m args below meth c s₁ B hml hv
  obtain ⟨rfl, hv⟩ := hv
  have hx := B.exec
  have hb := B.bytes
  have hr := B.returns
  have hts := atoms_spec (ws := wT y_M_isTurn b_M_isTurn 2 (some .boolean)) B.pre
  have hT : ∀ w ∈ TT, w ∈ wT y_M_isTurn b_M_isTurn 2 (some .boolean) := wT_T
  have hown : s.vm.findClass RM = some m.cls := findClass_of_methodNamed B.named
  have hlocks := B.notSynchronized
  have hl := lv_entry ([.long v]) (n := 2) (Nat.le_of_ble_eq_true rfl)
  rw [lg_entry_eq]
  generalize (lg_sl ([.long v]) ++ List.replicate (2 - (lg_sl ([.long v])).length) Slot.unset).toArray = ls at hl ⊢
  have hl : lv_has ls 2 [(0, .long v)] := hl
  refine lv_lload_n hx hb d_M_isTurn_0 rfl (lv_at hl 0 rfl) ?_
  refine lv_lconst hx hb d_M_isTurn_1 (v := (lN 0)) rfl ?_
  refine W.lcmp hx hb d_M_isTurn_2 ?_
  refine lv_if_lt hx hb d_M_isTurn_3 (tgt := 18) (by decide) (fun q1 => ?_) (fun q1 => ?_)
  · have q1 := ((lg_cmp_lt _ _).trans Int64.lt_iff_toInt_lt).mp q1
    rw [pk_lT (n := 0) (by decide)] at q1
    refine lv_iconst hx hb d_M_isTurn_18 (v := (nI 0)) rfl ?_
    exact W.zret hx hb hr narrow_b0 (fun t ht hW => ⟨_, rfl, ⟨zb_0 (by omega), ht⟩⟩) (fun q hq => nomatch hq) d_M_isTurn_19
  · have q1 := mt ((lg_cmp_lt _ _).trans Int64.lt_iff_toInt_lt).mpr q1
    rw [pk_lT (n := 0) (by decide)] at q1
    refine lv_lload_n hx hb d_M_isTurn_6 rfl (lv_at hl 0 rfl) ?_
    refine lv_ldc2 hx hb (v := (lN 281474976710656)) hown (hts _ (hT _ k_M_47)) d_M_isTurn_7 ?_
    refine W.lcmp hx hb d_M_isTurn_10 ?_
    refine lv_if_ge hx hb d_M_isTurn_11 (tgt := 18) (by decide) (fun q2 => ?_) (fun q2 => ?_)
    · have q2 := ((lg_cmp_ge _ _).trans Int64.le_iff_toInt_le).mp q2
      rw [pk_lT (n := 281474976710656) (by decide)] at q2
      refine lv_iconst hx hb d_M_isTurn_18 (v := (nI 0)) rfl ?_
      exact W.zret hx hb hr narrow_b0 (fun t ht hW => ⟨_, rfl, ⟨zb_0 (by omega), ht⟩⟩) (fun q hq => nomatch hq) d_M_isTurn_19
    · have q2 := mt ((lg_cmp_ge _ _).trans Int64.le_iff_toInt_le).mpr q2
      rw [pk_lT (n := 281474976710656) (by decide)] at q2
      refine lv_iconst hx hb d_M_isTurn_14 (v := (nI 1)) rfl ?_
      refine lv_goto hx hb d_M_isTurn_15 (tgt := 19) (by decide) ?_
      exact W.zret hx hb hr narrow_b1 (fun t ht hW => ⟨_, rfl, ⟨zb_1 (by omega), ht⟩⟩) (fun q hq => nomatch hq) d_M_isTurn_19
set_option maxHeartbeats 4000000 in
set_option maxRecDepth 100000 in
theorem c_M_thrown (l : Launch) (D : va_G) (ci : Nat → ClassId) (am : Nat → Nat) (g : TS) (th fo sz : Int32) (hs mi hi tx : Nat → Int32) : Met l y_M_thrown (wT y_M_thrown b_M_thrown 1 (some .int)) (rP 0 0) (tb (wM D ci am g th fo sz hs mi hi tx) [.ref (am 0)]) (tq_P (some (.int th))) 0 0 tq_n := by
  refine Met.ofW (cc := b_M_thrown) (maxL := 1) (ret := (some .int)) (by decide) rfl ?_
  intro p e s m args below meth c s₁ B hml hv
  obtain ⟨rfl, hK, hg, hM⟩ := hv
  have hx := B.exec
  have hb := B.bytes
  have hr := B.returns
  have hts := atoms_spec (ws := wT y_M_thrown b_M_thrown 1 (some .int)) B.pre
  have hT : ∀ w ∈ TT, w ∈ wT y_M_thrown b_M_thrown 1 (some .int) := wT_T
  have hown : s.vm.findClass RM = some m.cls := findClass_of_methodNamed B.named
  have hlocks := B.notSynchronized
  have hl := lv_entry ([.ref (am 0)]) (n := 1) (Nat.le_of_ble_eq_true rfl)
  rw [lg_entry_eq]
  generalize (lg_sl ([.ref (am 0)]) ++ List.replicate (1 - (lg_sl ([.ref (am 0)])).length) Slot.unset).toArray = ls at hl ⊢
  have hl : lv_has ls 1 [(0, .ref (am 0))] := hl
  refine lv_aload_n hx hb d_M_thrown_0 rfl (lv_at hl 0 rfl) ?_
  refine va_get hx hb hts (fun w h => hT w (uM_in w h)) hown hK hM 0 rfl rfl 0 (by decide) (hts _ (hT _ k_M_43)) (fun _ h => h) rfl d_M_thrown_1 ?_
  exact W.iret hx hb hr (fun t ht hW => ⟨_, rfl, ⟨rfl, ht⟩⟩) (fun q hq => nomatch hq) d_M_thrown_4
section G30
variable {p : Program} {l : Launch} {e : Env} {R : Room} {s : State} {m : MethodId} {args : Array Value} {below : List Frame} {meth : Method} {c : Code} {H : Heap} {locs : List Loc} {cells slots : Nat} {Q : State → Prop} {Ts : List Cond}
variable {D : va_G} {ci : Nat → ClassId} {am : Nat → Nat} {g : TS} {th fo sz : Int32} {hs mi hi tx : Nat → Int32}
set_option maxHeartbeats 4000000 in
set_option maxRecDepth 100000 in
theorem l_M_daysBefore (hx : p.tables.exec = Jvm.exec) (hb : c.code = b_M_daysBefore) (hts : ∀ w ∈ Ts, w.before args s = true) (hT : ∀ w ∈ TT, w ∈ Ts) (hown : s.vm.findClass RM = some m.cls) (hK : tk D ci s) (hg : tt_ok g) (hM : tm D ci am g th fo sz hs mi hi tx H) {y : Nat} (hy : y ≤ 10)
    (kk : ∀ (ls : Array Slot), lv_has ls 4 [(3, .int (nI y)), (2, .int (nI (tt_db (tt_day g) y))), (0, .ref (am 0)), (1, .int (nI y))] → W p l e R s m args below meth c H locs cells slots Q (F0 m 24 ls [])) :
    ∀ (n k : Nat) (ls : Array Slot), k + n = y → lv_has ls 4 [(3, .int (nI k)), (2, .int (nI (tt_db (tt_day g) k))), (0, .ref (am 0)), (1, .int (nI y))] → W p l e R s m args below meth c H locs cells slots Q (F0 m 4 ls []) := by
  intro n
  induction n with
  | zero =>
    intro k ls hk hl
    obtain rfl : k = y := by omega
    refine lv_iload_n hx hb d_M_daysBefore_4 rfl (lv_at hl 0 rfl) ?_
    refine lv_iload_n hx hb d_M_daysBefore_5 rfl (lv_at hl 3 rfl) ?_
    refine lv_icmp_ge hx hb d_M_daysBefore_6 (tgt := 24) (by decide) (fun _ => ?_) (fun hno => absurd (nI_le (Nat.le_refl _) (by omega)) hno)
    exact kk ls hl
  | succ n ih =>
    intro k ls hk hl
    refine lv_iload_n hx hb d_M_daysBefore_4 rfl (lv_at hl 0 rfl) ?_
    refine lv_iload_n hx hb d_M_daysBefore_5 rfl (lv_at hl 3 rfl) ?_
    refine lv_icmp_ge hx hb d_M_daysBefore_6 (tgt := 24) (by decide) (fun hyes => absurd hyes (nI_ge (show k < y by omega) (by omega))) (fun _ => ?_)
    refine lv_iload_n hx hb d_M_daysBefore_9 rfl (lv_at hl 1 rfl) ?_
    refine lv_aload_n hx hb d_M_daysBefore_10 rfl (lv_at hl 2 rfl) ?_
    refine va_get hx hb hts (fun w h => hT w (uM_in w h)) hown hK hM 0 rfl rfl 2 (by decide) (hts _ (hT _ k_M_7)) (fun _ h => h) rfl d_M_daysBefore_11 ?_
    refine lv_iload_n hx hb d_M_daysBefore_14 rfl (lv_at hl 0 rfl) ?_
    refine tq_iald hx hb hK hM 1 0 rfl rfl (show k < 10 by omega) (by decide) d_M_daysBefore_15 ?_
    refine lv_iadd hx hb d_M_daysBefore_16 ?_
    refine tq_ti (show _ = (nI (tt_db (tt_day g) (k + 1))) from nI_add _ _) ?_
    refine lv_istore_n hx hb d_M_daysBefore_17 rfl hl (by decide) (lv' := [(2, .int (nI (tt_db (tt_day g) (k + 1)))), (3, .int (nI k)), (0, .ref (am 0)), (1, .int (nI y))]) rfl (fun ls hl => ?_)
    refine lv_iinc hx hb d_M_daysBefore_18 hl (k := 1) rfl (v := (nI (k + 1))) (by rw [show Int32.ofInt 1 = 1 from rfl]; exact nI_1 k) (by decide) (lv' := [(3, .int (nI (k + 1))), (2, .int (nI (tt_db (tt_day g) (k + 1)))), (0, .ref (am 0)), (1, .int (nI y))]) rfl (fun ls hl => ?_)
    refine lv_goto hx hb d_M_daysBefore_21 (tgt := 4) (by decide) ?_
    have hl := lv_sub hl (l' := [(3, .int (nI (k + 1))), (2, .int (nI (tt_db (tt_day g) (k + 1)))), (0, .ref (am 0)), (1, .int (nI y))]) [0, 1, 2, 3] rfl
    exact ih (k + 1) ls (by omega) hl
end G30
set_option maxHeartbeats 4000000 in
set_option maxRecDepth 100000 in
theorem c_M_daysBefore (l : Launch) (D : va_G) (ci : Nat → ClassId) (am : Nat → Nat) (g : TS) (th fo sz : Int32) (hs mi hi tx : Nat → Int32) {y : Nat} (hy : y ≤ 10) : Met l y_M_daysBefore (wT y_M_daysBefore b_M_daysBefore 4 (some .int)) (rP 0 0) (tb (wM D ci am g th fo sz hs mi hi tx) [.ref (am 0), .int (nI y)]) (tq_P (some (.int (nI (tt_db (tt_day g) y))))) 0 0 tq_n := by
  refine Met.ofW (cc := b_M_daysBefore) (maxL := 4) (ret := (some .int)) (by decide) rfl ?_
  intro p e s m args below meth c s₁ B hml hv
  obtain ⟨rfl, hK, hg, hM⟩ := hv
  have hx := B.exec
  have hb := B.bytes
  have hr := B.returns
  have hts := atoms_spec (ws := wT y_M_daysBefore b_M_daysBefore 4 (some .int)) B.pre
  have hT : ∀ w ∈ TT, w ∈ wT y_M_daysBefore b_M_daysBefore 4 (some .int) := wT_T
  have hown : s.vm.findClass RM = some m.cls := findClass_of_methodNamed B.named
  have hlocks := B.notSynchronized
  have hl := lv_entry ([.ref (am 0), .int (nI y)]) (n := 4) (Nat.le_of_ble_eq_true rfl)
  rw [lg_entry_eq]
  generalize (lg_sl ([.ref (am 0), .int (nI y)]) ++ List.replicate (4 - (lg_sl ([.ref (am 0), .int (nI y)])).length) Slot.unset).toArray = ls at hl ⊢
  have hl : lv_has ls 4 [(0, .ref (am 0)), (1, .int (nI y))] := hl
  refine lv_iconst hx hb d_M_daysBefore_0 (v := (nI 0)) rfl ?_
  refine lv_istore_n hx hb d_M_daysBefore_1 rfl hl (by decide) (lv' := [(2, .int (nI 0)), (0, .ref (am 0)), (1, .int (nI y))]) rfl (fun ls hl => ?_)
  refine lv_iconst hx hb d_M_daysBefore_2 (v := (nI 0)) rfl ?_
  refine lv_istore_n hx hb d_M_daysBefore_3 rfl hl (by decide) (lv' := [(3, .int (nI 0)), (2, .int (nI 0)), (0, .ref (am 0)), (1, .int (nI y))]) rfl (fun ls hl => ?_)
  refine l_M_daysBefore hx hb hts hT hown hK hg hM hy (fun ls hl => ?_) y 0 ls (Nat.zero_add _) hl
  refine lv_iload_n hx hb d_M_daysBefore_24 rfl (lv_at hl 1 rfl) ?_
  exact W.iret hx hb hr (fun t ht hW => ⟨_, rfl, ⟨rfl, ht⟩⟩) (fun q hq => nomatch hq) d_M_daysBefore_25
set_option maxHeartbeats 4000000 in
set_option maxRecDepth 100000 in
theorem c_M_isMinute (l : Launch) (D : va_G) (ci : Nat → ClassId) (am : Nat → Nat) (g : TS) (th fo sz : Int32) (hs mi hi tx : Nat → Int32) (v : Int32) : Met l y_M_isMinute (wT y_M_isMinute b_M_isMinute 2 (some .boolean)) (rP 1 23) (tb (wM D ci am g th fo sz hs mi hi tx) [.ref (am 0), .int v]) (tq_P (some (.int (zb (0 ≤ v.toInt ∧ v.toInt < (tt_fst g 10 : Nat)))))) 0 0 tq_n := by
  refine Met.ofW (cc := b_M_isMinute) (maxL := 2) (ret := (some .boolean)) (by decide) rfl ?_
  intro p e s m args below meth c s₁ B hml hv
  obtain ⟨rfl, hK, hg, hM⟩ := hv
  have hx := B.exec
  have hb := B.bytes
  have hr := B.returns
  have hts := atoms_spec (ws := wT y_M_isMinute b_M_isMinute 2 (some .boolean)) B.pre
  have hT : ∀ w ∈ TT, w ∈ wT y_M_isMinute b_M_isMinute 2 (some .boolean) := wT_T
  have hown : s.vm.findClass RM = some m.cls := findClass_of_methodNamed B.named
  have hlocks := B.notSynchronized
  have hl := lv_entry ([.ref (am 0), .int v]) (n := 2) (Nat.le_of_ble_eq_true rfl)
  rw [lg_entry_eq]
  generalize (lg_sl ([.ref (am 0), .int v]) ++ List.replicate (2 - (lg_sl ([.ref (am 0), .int v])).length) Slot.unset).toArray = ls at hl ⊢
  have hl : lv_has ls 2 [(0, .ref (am 0)), (1, .int v)] := hl
  have hdb := tt_db_in hg.2.2.2 10 (Nat.le_refl _)
  have hf10 : tt_fst g 10 = 1440 * tt_db (tt_day g) 10 := rfl
  refine lv_iload_n hx hb d_M_isMinute_0 rfl (lv_at hl 1 rfl) ?_
  refine lv_if_lt hx hb d_M_isMinute_1 (tgt := 22) (by decide) (fun q1 => ?_) (fun q1 => ?_)
  · have q1 := iv_lt0.mp q1
    refine lv_iconst hx hb d_M_isMinute_22 (v := (nI 0)) rfl ?_
    exact W.zret hx hb hr narrow_b0 (fun t ht hW => ⟨_, rfl, ⟨zb_0 (by omega), ht⟩⟩) (fun q hq => nomatch hq) d_M_isMinute_23
  · have q1 := mt iv_lt0.mpr q1
    refine lv_iload_n hx hb d_M_isMinute_4 rfl (lv_at hl 1 rfl) ?_
    refine lv_sipush hx hb d_M_isMinute_5 (v := (nI 1440)) rfl ?_
    refine lv_aload_n hx hb d_M_isMinute_8 rfl (lv_at hl 0 rfl) ?_
    refine lv_bipush hx hb d_M_isMinute_9 (v := (nI 10)) rfl ?_
    refine tq_V ⟨hx, hb, hml, hown, hts⟩ hT (c_M_daysBefore l D ci am g th fo sz hs mi hi tx (y := 10) (by decide)) lk_M_69 wM_mv ⟨hK, hg, hM⟩ (wM_rc hK hM) rfl hl.1 rfl (Nat.le_of_ble_eq_true rfl) d_M_isMinute_11 ⟨rfl, rfl, Nat.le_of_ble_eq_true rfl, Nat.le_of_ble_eq_true rfl⟩ ⟨Nat.zero_le _, Nat.zero_le _⟩ ?_
    refine lv_imul hx hb d_M_isMinute_14 ?_
    refine tq_ti (show _ = (nI (tt_fst g 10)) from pk_mul _ _) ?_
    refine lv_icmp_ge hx hb d_M_isMinute_15 (tgt := 22) (by decide) (fun q2 => ?_) (fun q2 => ?_)
    · have q2 := Int32.le_iff_toInt_le.mp q2
      rw [nI_toInt (n := (tt_fst g 10)) (by omega)] at q2
      refine lv_iconst hx hb d_M_isMinute_22 (v := (nI 0)) rfl ?_
      exact W.zret hx hb hr narrow_b0 (fun t ht hW => ⟨_, rfl, ⟨zb_0 (by omega), ht⟩⟩) (fun q hq => nomatch hq) d_M_isMinute_23
    · have q2 := mt Int32.le_iff_toInt_le.mpr q2
      rw [nI_toInt (n := (tt_fst g 10)) (by omega)] at q2
      refine lv_iconst hx hb d_M_isMinute_18 (v := (nI 1)) rfl ?_
      refine lv_goto hx hb d_M_isMinute_19 (tgt := 23) (by decide) ?_
      exact W.zret hx hb hr narrow_b1 (fun t ht hW => ⟨_, rfl, ⟨zb_1 (by omega), ht⟩⟩) (fun q hq => nomatch hq) d_M_isMinute_23
set_option maxHeartbeats 4000000 in
set_option maxRecDepth 100000 in
theorem c_M_isDay (l : Launch) (D : va_G) (ci : Nat → ClassId) (am : Nat → Nat) (g : TS) (th fo sz : Int32) (hs mi hi tx : Nat → Int32) (v : Int32) : Met l y_M_isDay (wT y_M_isDay b_M_isDay 2 (some .boolean)) (rP 1 23) (tb (wM D ci am g th fo sz hs mi hi tx) [.ref (am 0), .int v]) (tq_P (some (.int (zb (0 ≤ v.toInt ∧ v.toInt < (tt_db (tt_day g) 10 : Nat)))))) 0 0 tq_n := by
  refine Met.ofW (cc := b_M_isDay) (maxL := 2) (ret := (some .boolean)) (by decide) rfl ?_
  intro p e s m args below meth c s₁ B hml hv
  obtain ⟨rfl, hK, hg, hM⟩ := hv
  have hx := B.exec
  have hb := B.bytes
  have hr := B.returns
  have hts := atoms_spec (ws := wT y_M_isDay b_M_isDay 2 (some .boolean)) B.pre
  have hT : ∀ w ∈ TT, w ∈ wT y_M_isDay b_M_isDay 2 (some .boolean) := wT_T
  have hown : s.vm.findClass RM = some m.cls := findClass_of_methodNamed B.named
  have hlocks := B.notSynchronized
  have hl := lv_entry ([.ref (am 0), .int v]) (n := 2) (Nat.le_of_ble_eq_true rfl)
  rw [lg_entry_eq]
  generalize (lg_sl ([.ref (am 0), .int v]) ++ List.replicate (2 - (lg_sl ([.ref (am 0), .int v])).length) Slot.unset).toArray = ls at hl ⊢
  have hl : lv_has ls 2 [(0, .ref (am 0)), (1, .int v)] := hl
  have hdb := tt_db_in hg.2.2.2 10 (Nat.le_refl _)
  have hf10 : tt_fst g 10 = 1440 * tt_db (tt_day g) 10 := rfl
  refine lv_iload_n hx hb d_M_isDay_0 rfl (lv_at hl 1 rfl) ?_
  refine lv_if_lt hx hb d_M_isDay_1 (tgt := 18) (by decide) (fun q1 => ?_) (fun q1 => ?_)
  · have q1 := iv_lt0.mp q1
    refine lv_iconst hx hb d_M_isDay_18 (v := (nI 0)) rfl ?_
    exact W.zret hx hb hr narrow_b0 (fun t ht hW => ⟨_, rfl, ⟨zb_0 (by omega), ht⟩⟩) (fun q hq => nomatch hq) d_M_isDay_19
  · have q1 := mt iv_lt0.mpr q1
    refine lv_iload_n hx hb d_M_isDay_4 rfl (lv_at hl 1 rfl) ?_
    refine lv_aload_n hx hb d_M_isDay_5 rfl (lv_at hl 0 rfl) ?_
    refine lv_bipush hx hb d_M_isDay_6 (v := (nI 10)) rfl ?_
    refine tq_V ⟨hx, hb, hml, hown, hts⟩ hT (c_M_daysBefore l D ci am g th fo sz hs mi hi tx (y := 10) (by decide)) lk_M_69 wM_mv ⟨hK, hg, hM⟩ (wM_rc hK hM) rfl hl.1 rfl (Nat.le_of_ble_eq_true rfl) d_M_isDay_8 ⟨rfl, rfl, Nat.le_of_ble_eq_true rfl, Nat.le_of_ble_eq_true rfl⟩ ⟨Nat.zero_le _, Nat.zero_le _⟩ ?_
    refine lv_icmp_ge hx hb d_M_isDay_11 (tgt := 18) (by decide) (fun q2 => ?_) (fun q2 => ?_)
    · have q2 := Int32.le_iff_toInt_le.mp q2
      rw [nI_toInt (n := (tt_db (tt_day g) 10)) (by omega)] at q2
      refine lv_iconst hx hb d_M_isDay_18 (v := (nI 0)) rfl ?_
      exact W.zret hx hb hr narrow_b0 (fun t ht hW => ⟨_, rfl, ⟨zb_0 (by omega), ht⟩⟩) (fun q hq => nomatch hq) d_M_isDay_19
    · have q2 := mt Int32.le_iff_toInt_le.mpr q2
      rw [nI_toInt (n := (tt_db (tt_day g) 10)) (by omega)] at q2
      refine lv_iconst hx hb d_M_isDay_14 (v := (nI 1)) rfl ?_
      refine lv_goto hx hb d_M_isDay_15 (tgt := 19) (by decide) ?_
      exact W.zret hx hb hr narrow_b1 (fun t ht hW => ⟨_, rfl, ⟨zb_1 (by omega), ht⟩⟩) (fun q hq => nomatch hq) d_M_isDay_19
theorem tt_yr_day (g : TS) (m : Nat) : tt_yr g m = tt_yr g (1440 * (m / 1440)) := by
  unfold tt_yr
  have key : ∀ n, tt_yrA (tt_day g) m n = tt_yrA (tt_day g) (1440 * (m / 1440)) n := by
    intro n
    induction n with
    | zero => rfl
    | succ n ih =>
      unfold tt_yrA
      rw [ih]
      by_cases h : 1440 * tt_db (tt_day g) (n + 1) ≤ m
      · rw [if_pos h, if_pos (by omega)]
      · rw [if_neg h, if_neg (by omega)]
  exact key 9
section G30b
variable {p : Program} {l : Launch} {e : Env} {R : Room} {s : State} {m : MethodId} {args : Array Value} {below : List Frame} {meth : Method} {c : Code} {H : Heap} {locs : List Loc} {cells slots : Nat} {Q : State → Prop} {Ts : List Cond}
variable {D : va_G} {ci : Nat → ClassId} {am : Nat → Nat} {g : TS} {th fo sz : Int32} {hs mi hi tx : Nat → Int32}
set_option maxHeartbeats 4000000 in
set_option maxRecDepth 100000 in
theorem l_M_yearOfDay (hx : p.tables.exec = Jvm.exec) (hb : c.code = b_M_yearOfDay) (hts : ∀ w ∈ Ts, w.before args s = true) (hT : ∀ w ∈ TT, w ∈ Ts) (hown : s.vm.findClass RM = some m.cls) (hml : c.maxLocals = 3) (hK : tk D ci s) (hg : tt_ok g) (hM : tm D ci am g th fo sz hs mi hi tx H) (hR : 0 + 1 ≤ R.frames ∧ 8 + (4 + 11) + 0 ≤ R.locals) (hf : cells ≤ R.cells ∧ slots ≤ R.slots) {d Y : Nat} (hd : d < 1000000)
    (kk : ∀ (ls : Array Slot), lv_has ls 3 [(2, .int (nI Y)), (0, .ref (am 0)), (1, .int (nI d))] → W p l e R s m args below meth c H locs cells slots Q (F0 m 18 ls [])) :
    ∀ (n : Nat) (ls : Array Slot), n ≤ 9 → tt_yrA (tt_day g) (1440 * d) n = Y → lv_has ls 3 [(2, .int (nI n)), (0, .ref (am 0)), (1, .int (nI d))] → W p l e R s m args below meth c H locs cells slots Q (F0 m 3 ls []) := by
  intro n
  induction n with
  | zero =>
    intro ls hn hY hl
    have hY : 0 = Y := hY
    subst hY
    refine lv_aload_n hx hb d_M_yearOfDay_3 rfl (lv_at hl 1 rfl) ?_
    refine lv_iload_n hx hb d_M_yearOfDay_4 rfl (lv_at hl 0 rfl) ?_
    refine tq_V ⟨hx, hb, hml, hown, hts⟩ hT (c_M_daysBefore l D ci am g th fo sz hs mi hi tx (y := 0) (by decide)) lk_M_69 wM_mv ⟨hK, hg, hM⟩ (wM_rc hK hM) rfl hl.1 rfl (Nat.le_of_ble_eq_true rfl) d_M_yearOfDay_5 ⟨rfl, rfl, hR⟩ hf ?_
    refine lv_iload_n hx hb d_M_yearOfDay_8 rfl (lv_at hl 2 rfl) ?_
    refine lv_icmp_le hx hb d_M_yearOfDay_9 (tgt := 18) (by decide) (fun _ => ?_) (fun hno => absurd (nI_le (Nat.zero_le d) (by omega)) hno)
    exact kk ls hl
  | succ n ih =>
    intro ls hn hY hl
    have hle := (tt_db_in hg.2.2.2 (n + 1) (by omega)).2
    unfold tt_yrA at hY
    refine lv_aload_n hx hb d_M_yearOfDay_3 rfl (lv_at hl 1 rfl) ?_
    refine lv_iload_n hx hb d_M_yearOfDay_4 rfl (lv_at hl 0 rfl) ?_
    refine tq_V ⟨hx, hb, hml, hown, hts⟩ hT (c_M_daysBefore l D ci am g th fo sz hs mi hi tx (y := (n + 1)) (by omega)) lk_M_69 wM_mv ⟨hK, hg, hM⟩ (wM_rc hK hM) rfl hl.1 rfl (Nat.le_of_ble_eq_true rfl) d_M_yearOfDay_5 ⟨rfl, rfl, hR⟩ hf ?_
    refine lv_iload_n hx hb d_M_yearOfDay_8 rfl (lv_at hl 2 rfl) ?_
    refine lv_icmp_le hx hb d_M_yearOfDay_9 (tgt := 18) (by decide) (fun h1 => ?_) (fun h1 => ?_)
    · have h1 := (nI_leI (by omega) (by omega)).mp h1
      rw [if_pos (by omega)] at hY
      subst hY
      exact kk ls hl
    · have h1 := mt (nI_leI (by omega) (by omega)).mpr h1
      rw [if_neg (by omega)] at hY
      refine lv_iinc hx hb d_M_yearOfDay_12 hl (k := 0) rfl (v := (nI n)) (by rw [show Int32.ofInt (-1) = -1 from rfl]; exact pk_m1 n) (by decide) (lv' := [(2, .int (nI n)), (0, .ref (am 0)), (1, .int (nI d))]) rfl (fun ls hl => ?_)
      refine lv_goto hx hb d_M_yearOfDay_15 (tgt := 3) (by decide) ?_
      exact ih ls (by omega) hY hl
end G30b
set_option maxHeartbeats 4000000 in
set_option maxRecDepth 100000 in
theorem c_M_yearOfDay (l : Launch) (D : va_G) (ci : Nat → ClassId) (am : Nat → Nat) (g : TS) (th fo sz : Int32) (hs mi hi tx : Nat → Int32) {d : Nat} (hd : d < 1000000) : Met l y_M_yearOfDay (wT y_M_yearOfDay b_M_yearOfDay 3 (some .int)) (rP 1 23) (tb (wM D ci am g th fo sz hs mi hi tx) [.ref (am 0), .int (nI d)]) (tq_P (some (.int (nI (tt_yr g (1440 * d)))))) 0 0 tq_n := by
  refine Met.ofW (cc := b_M_yearOfDay) (maxL := 3) (ret := (some .int)) (by decide) rfl ?_
  intro p e s m args below meth c s₁ B hml hv
  obtain ⟨rfl, hK, hg, hM⟩ := hv
  have hx := B.exec
  have hb := B.bytes
  have hr := B.returns
  have hts := atoms_spec (ws := wT y_M_yearOfDay b_M_yearOfDay 3 (some .int)) B.pre
  have hT : ∀ w ∈ TT, w ∈ wT y_M_yearOfDay b_M_yearOfDay 3 (some .int) := wT_T
  have hown : s.vm.findClass RM = some m.cls := findClass_of_methodNamed B.named
  have hlocks := B.notSynchronized
  have hl := lv_entry ([.ref (am 0), .int (nI d)]) (n := 3) (Nat.le_of_ble_eq_true rfl)
  rw [lg_entry_eq]
  generalize (lg_sl ([.ref (am 0), .int (nI d)]) ++ List.replicate (3 - (lg_sl ([.ref (am 0), .int (nI d)])).length) Slot.unset).toArray = ls at hl ⊢
  have hl : lv_has ls 3 [(0, .ref (am 0)), (1, .int (nI d))] := hl
  refine lv_bipush hx hb d_M_yearOfDay_0 (v := (nI 9)) rfl ?_
  refine lv_istore_n hx hb d_M_yearOfDay_2 rfl hl (by decide) (lv' := [(2, .int (nI 9)), (0, .ref (am 0)), (1, .int (nI d))]) rfl (fun ls hl => ?_)
  refine l_M_yearOfDay hx hb hts hT hown hml hK hg hM ⟨Nat.le_of_ble_eq_true rfl, Nat.le_of_ble_eq_true rfl⟩ ⟨Nat.zero_le _, Nat.zero_le _⟩ hd (fun ls hl => ?_) 9 ls (Nat.le_refl _) rfl hl
  refine lv_iload_n hx hb d_M_yearOfDay_18 rfl (lv_at hl 0 rfl) ?_
  exact W.iret hx hb hr (fun t ht hW => ⟨_, rfl, ⟨rfl, ht⟩⟩) (fun q hq => nomatch hq) d_M_yearOfDay_19
set_option maxHeartbeats 4000000 in
set_option maxRecDepth 100000 in
theorem c_M_positionOf (l : Launch) (D : va_G) (ci : Nat → ClassId) (am : Nat → Nat) (g : TS) (th fo sz : Int32) (hs mi hj tx : Nat → Int32) {i mm y : Nat} (hi : i < 8) (hmm : mm < 8388608) (hy : y < 10) : Met l y_M_positionOf (wT y_M_positionOf b_M_positionOf 6 (some .long)) (rP 0 0) (tb (wM D ci am g th fo sz hs mi hj tx) [.ref (am 0), .int (nI i), .int (nI mm), .int (nI y)]) (tq_P (some (.long (lN (tt_pos g i mm y))))) 0 0 tq_n := by
  refine Met.ofW (cc := b_M_positionOf) (maxL := 6) (ret := (some .long)) (by decide) rfl ?_
  intro p e s m args below meth c s₁ B hml hv
  obtain ⟨rfl, hK, hg, hM⟩ := hv
  have hx := B.exec
  have hb := B.bytes
  have hr := B.returns
  have hts := atoms_spec (ws := wT y_M_positionOf b_M_positionOf 6 (some .long)) B.pre
  have hT : ∀ w ∈ TT, w ∈ wT y_M_positionOf b_M_positionOf 6 (some .long) := wT_T
  have hown : s.vm.findClass RM = some m.cls := findClass_of_methodNamed B.named
  have hlocks := B.notSynchronized
  have hl := lv_entry ([.ref (am 0), .int (nI i), .int (nI mm), .int (nI y)]) (n := 6) (Nat.le_of_ble_eq_true rfl)
  rw [lg_entry_eq]
  generalize (lg_sl ([.ref (am 0), .int (nI i), .int (nI mm), .int (nI y)]) ++ List.replicate (6 - (lg_sl ([.ref (am 0), .int (nI i), .int (nI mm), .int (nI y)])).length) Slot.unset).toArray = ls at hl ⊢
  have hl : lv_has ls 6 [(0, .ref (am 0)), (1, .int (nI i)), (2, .int (nI mm)), (3, .int (nI y))] := hl
  have hv := (hg.2.1 i hi).2
  have hsh := (hg.2.2.1 i hi y hy).2
  have hvm : tt_spd g i * mm ≤ 1099511627775 * 8388607 := Nat.mul_le_mul (by omega) (by omega)
  refine lv_aload_n hx hb d_M_positionOf_0 rfl (lv_at hl 0 rfl) ?_
  refine va_get hx hb hts (fun w h => hT w (uM_in w h)) hown hK hM 0 rfl rfl 5 (by decide) (hts _ (hT _ k_M_20)) (fun _ h => h) rfl d_M_positionOf_1 ?_
  refine lv_iload_n hx hb d_M_positionOf_4 rfl (lv_at hl 1 rfl) ?_
  refine tq_lald hx hb hK hM 4 1 rfl rfl hi (by decide) d_M_positionOf_5 ?_
  refine lv_aload_n hx hb d_M_positionOf_6 rfl (lv_at hl 0 rfl) ?_
  refine va_get hx hb hts (fun w h => hT w (uM_in w h)) hown hK hM 0 rfl rfl 4 (by decide) (hts _ (hT _ k_M_16)) (fun _ h => h) rfl d_M_positionOf_7 ?_
  refine lv_iload_n hx hb d_M_positionOf_10 rfl (lv_at hl 1 rfl) ?_
  refine tq_lald hx hb hK hM 3 1 rfl rfl hi (by decide) d_M_positionOf_11 ?_
  refine lv_iload_n hx hb d_M_positionOf_12 rfl (lv_at hl 2 rfl) ?_
  refine lv_i2l hx hb d_M_positionOf_13 (v := (nI mm).toInt64) rfl ?_
  refine tq_tl (show _ = (lN mm) from nI_l (by omega)) ?_
  refine lv_lmul hx hb d_M_positionOf_14 ?_
  refine tq_tl (show _ = (lN (tt_spd g i * mm)) from lN_mul _ _) ?_
  refine lv_ldc2 hx hb (v := (lN 281474976710656)) hown (hts _ (hT _ k_M_47)) d_M_positionOf_15 ?_
  refine lv_lrem hx hb d_M_positionOf_18 (by decide) ?_
  refine tq_tl (show _ = (lN (tt_spd g i * mm % 281474976710656)) from pk_lRem (by omega) (by decide) (by decide)) ?_
  refine lv_ladd hx hb d_M_positionOf_19 ?_
  refine tq_tl (show _ = (lN (tt_pha g i + tt_spd g i * mm % 281474976710656)) from lN_add _ _) ?_
  refine lv_aload_n hx hb d_M_positionOf_20 rfl (lv_at hl 0 rfl) ?_
  refine va_get hx hb hts (fun w h => hT w (uM_in w h)) hown hK hM 0 rfl rfl 7 (by decide) (hts _ (hT _ k_M_26)) (fun _ h => h) rfl d_M_positionOf_21 ?_
  refine lv_bipush hx hb d_M_positionOf_24 (v := (nI 10)) rfl ?_
  refine lv_iload_n hx hb d_M_positionOf_26 rfl (lv_at hl 1 rfl) ?_
  refine lv_imul hx hb d_M_positionOf_27 ?_
  refine lv_iload_n hx hb d_M_positionOf_28 rfl (lv_at hl 3 rfl) ?_
  refine lv_iadd hx hb d_M_positionOf_29 ?_
  refine tq_ti (show _ = (nI (10 * i + y)) from (by rw [pk_mul, nI_add])) ?_
  refine tq_lald hx hb hK hM 6 1 rfl rfl (show 10 * i + y < 80 by omega) (by decide) d_M_positionOf_30 ?_
  refine tq_tl (show _ = (lN (tt_shf g i y)) from (by show lN (tt_shf g ((10 * i + y) / 10) ((10 * i + y) % 10)) = _; rw [show (10 * i + y) / 10 = i by omega, show (10 * i + y) % 10 = y by omega])) ?_
  refine lv_ladd hx hb d_M_positionOf_31 ?_
  refine tq_tl (show _ = (lN (tt_pha g i + tt_spd g i * mm % 281474976710656 + tt_shf g i y)) from lN_add _ _) ?_
  refine lv_lstore hx hb d_M_positionOf_32 hl (by decide) (lv' := [(4, .long (lN (tt_pha g i + tt_spd g i * mm % 281474976710656 + tt_shf g i y))), (0, .ref (am 0)), (1, .int (nI i)), (2, .int (nI mm)), (3, .int (nI y))]) rfl (fun ls hl => ?_)
  refine lv_lload hx hb d_M_positionOf_34 (lv_at hl 0 rfl) ?_
  refine lv_ldc2 hx hb (v := (lN 281474976710656)) hown (hts _ (hT _ k_M_47)) d_M_positionOf_36 ?_
  refine lv_lrem hx hb d_M_positionOf_39 (by decide) ?_
  refine tq_tl (show _ = (lN (tt_pos g i mm y)) from ((pk_lRem (by omega) (by decide) (by decide)).trans (by unfold tt_pos; congr 1; omega))) ?_
  exact W.lret hx hb hr (fun t ht hW => ⟨_, rfl, ⟨rfl, ht⟩⟩) (fun q hq => nomatch hq) d_M_positionOf_40
