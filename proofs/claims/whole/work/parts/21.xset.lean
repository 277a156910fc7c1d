/-! the class's setters. Written by wip/whole/gen.py -/
def ts_lev (g : TS) (z : Int) : TS := (z, g.2)
def ts_amp (g : TS) (i a : Nat) : TS := (g.1, fun j => if j = i then a else tt_amp g j, g.2.2)
def ts_spd (g : TS) (i a : Nat) : TS := (g.1, g.2.1, fun j => if j = i then a else tt_spd g j, g.2.2.2)
def ts_pha (g : TS) (i a : Nat) : TS := (g.1, g.2.1, g.2.2.1, fun j => if j = i then a else tt_pha g j, g.2.2.2.2)
def ts_fac (g : TS) (i y a : Nat) : TS := (g.1, g.2.1, g.2.2.1, g.2.2.2.1, fun k j => if k = i ∧ j = y then a else tt_fac g k j, g.2.2.2.2.2)
def ts_shf (g : TS) (i y a : Nat) : TS := (g.1, g.2.1, g.2.2.1, g.2.2.2.1, g.2.2.2.2.1, fun k j => if k = i ∧ j = y then a else tt_shf g k j, g.2.2.2.2.2.2)
def ts_day (g : TS) (y n : Nat) : TS := (g.1, g.2.1, g.2.2.1, g.2.2.2.1, g.2.2.2.2.1, g.2.2.2.2.2.1, fun j => if j = y then n else tt_day g j)
theorem up_nI {f : Nat → Nat} {i a : Nat} : upd (fun j => nI (f j)) i (nI a) = fun j => nI (if j = i then a else f j) := by
  funext j
  unfold upd
  split <;> rfl
theorem up_lN {f : Nat → Nat} {i a : Nat} : vp_updL (fun j => lN (f j)) i (lN a) = fun j => lN (if j = i then a else f j) := by
  funext j
  unfold vp_updL
  split <;> rfl
def wXW (D : va_G) (ci : Nat → ClassId) (ad : Nat → Nat) (g : TS) (tc td : Int32) (tn : Nat → Int32) (U : State) (H : Heap) : Prop := tk D ci U ∧ tx D ci ad g tc td tn H ∧ tx_D ad
theorem wXW_mv {D : va_G} {ci : Nat → ClassId} {ad : Nat → Nat} {g : TS} {tc td : Int32} {tn : Nat → Int32} : tmov (wXW D ci ad g tc td tn) := fun _ _ _ hW h => ⟨tk.moved hW h.1, h.2⟩
theorem wXW_rc {D : va_G} {ci : Nat → ClassId} {ad : Nat → Nat} {g : TS} {tc td : Int32} {tn : Nat → Int32} {s : State} {H : Heap} (hK : tk D ci s) (hX : tx D ci ad g tc td tn H) : ∃ cellB : Cell, H[ad 0]? = some cellB ∧ cellB.vm.isStatics = false ∧ s.vm.findClass RX = some cellB.cls := va_recv (q0 := 0) hK hX.1 (q := (RX, TX, 10)) (ci := 0) rfl rfl
theorem tq_VW {p : Program} {l : Launch} {e : Env} {R : Room} {s : State} {m : MethodId} {args : Array Value} {below : List Frame} {meth : Method} {c : Code} {H : Heap} {locs : List Loc} {cells slots : Nat} {Q : State → Prop} {pc : Nat} {ls : Array Slot} {rest st0 : List Value} {cc b : ByteArray} {nL i maxL n : Nat} {own C : String} {y : MethodName} {r : Option FieldType} {rm : Room} {Ts : List Cond} {K : State → Heap → Prop} {As : List Value} {a0 : Addr} {Φ : Option Value → Heap → Heap → Prop} {F : Nat → Prop}
    (S : CallFix p m c cc nL s args Ts own) (hT : ∀ w ∈ TT, w ∈ Ts) (hM : Met l y (wT y b maxL r) rm (tb K (.ref a0 :: As)) (tq_Q Φ) 0 0 F) (k : tkV own i C y b maxL r n) (hmv : tmov K) (hK : K s H) (hrc : ∃ cellB : Cell, H[a0]? = some cellB ∧ cellB.vm.isStatics = false ∧ s.vm.findClass C = some cellB.cls)
    (hn : As.length = n) (hsz : ls.size = nL) (hst : st0 = As.reverse ++ .ref a0 :: rest) (hW : (rest.map fun v => v.category).sum ≤ 8) (hd : decode cc pc = .ok (.invokevirtual i, 3)) (hR : rm.cells = 0 ∧ rm.slots = 0 ∧ rm.frames + 1 ≤ R.frames ∧ 8 + (maxL + 11) + rm.locals ≤ R.locals) (hf : cells ≤ R.cells ∧ slots ≤ R.slots) (hL : ∀ q ∈ locs, F q.base)
    (kk : ∀ (v : Option Value) (H1 : Heap) (locs1 : List Loc), Φ v H H1 → (∀ q ∈ locs1, F q.base) → W p l e R s m args below meth c H1 locs1 cells slots Q (F0 m (pc + 3) ls (v.toList ++ rest))) : W p l e R s m args below meth c H locs cells slots Q (F0 m pc ls st0) :=
  tq_call (va_runV S hM (tcV k S.2.2.2.2 hT hR) (tb_V hmv hK hrc) rfl hn hsz hst (lv_room hW) hd hf) (fun v H1 L hF hL1 => kk v H1 _ hF (fun q hq => (List.mem_append.mp hq).elim (hL q) (hL1 q)))
set_option maxHeartbeats 4000000 in
set_option maxRecDepth 100000 in
theorem c_X_forgetTurns (l : Launch) (D : va_G) (ci : Nat → ClassId) (ad : Nat → Nat) (g : TS) (tc td : Int32) (tn : Nat → Int32) : Met l y_X_forgetTurns (wT y_X_forgetTurns b_X_forgetTurns 1 none) (rP 0 0) (tb (wXW D ci ad g tc td tn) [.ref (ad 0)]) (qX D ci ad g tc (-1) tn none) 0 0 (txF ad) := by
  refine Met.ofW (cc := b_X_forgetTurns) (maxL := 1) (ret := none) (by decide) rfl ?_
  intro p e s m args below meth c s₁ B hml hv
  obtain ⟨rfl, hK, hX, hD⟩ := hv
  have hx := B.exec
  have hb := B.bytes
  have hr := B.returns
  have hts := atoms_spec (ws := wT y_X_forgetTurns b_X_forgetTurns 1 none) B.pre
  have hT : ∀ w ∈ TT, w ∈ wT y_X_forgetTurns b_X_forgetTurns 1 none := wT_T
  have hown : s.vm.findClass RX = some m.cls := findClass_of_methodNamed B.named
  have hlocks := B.notSynchronized
  have hl := lv_entry ([.ref (ad 0)]) (n := 1) (Nat.le_of_ble_eq_true rfl)
  rw [lg_entry_eq]
  generalize (lg_sl ([.ref (ad 0)]) ++ List.replicate (1 - (lg_sl ([.ref (ad 0)])).length) Slot.unset).toArray = ls at hl ⊢
  have hl : lv_has ls 1 [(0, .ref (ad 0))] := hl
  have hL : ∀ q ∈ ([] : List Loc), txF ad q.base := fun q hq => nomatch hq
  have hO : txO ad s.heap s.heap := txO.rf
  refine lv_aload_n hx hb d_X_forgetTurns_0 rfl (lv_at hl 0 rfl) ?_
  refine lv_iconst hx hb d_X_forgetTurns_1 (v := (-1)) rfl ?_
  refine tq_put (F := txF ad) hx hb hts (fun w h => hT w (uX_in w h)) tX tX_ok nX hown hK (tx_one hX 0 rfl) (ci := 0) rfl 9 (by decide) (hts _ (hT _ k_X_36)) (fun _ h => h) rfl (ty := .int) rfl rfl rfl (Nat.le_of_ble_eq_true rfl) ⟨0, by decide, rfl⟩ hL d_X_forgetTurns_2 (fun H1 locs1 hP1 hz1 hq1 hL => ?_)
  have hX : tx D ci ad g tc (-1) tn H1 := tx_set hD hX 0 (by decide) rfl rfl rfl hP1 (fun j hj => by rcases j with _ | _ | _ | _ | _ | _ | _ | _ | j <;> first | rfl | exact absurd rfl hj) hq1
  have hO := hO.tr (txO.put (k := 0) (by decide) hz1 hq1)
  exact W.vret hx hb hr (fun t ht hW => ⟨_, rfl, rfl, by rw [ht]; exact hX, by rw [ht]; exact hO⟩) hL d_X_forgetTurns_5
set_option maxHeartbeats 4000000 in
set_option maxRecDepth 100000 in
theorem c_X_level (l : Launch) (D : va_G) (ci : Nat → ClassId) (ad : Nat → Nat) (g : TS) (tc td : Int32) (tn : Nat → Int32) {z : Int} (hz1 : -1000000 ≤ z) (hz2 : z ≤ 1000000) : Met l y_X_level (wT y_X_level b_X_level 3 (some .int)) (rP 0 0) (tb (wXW D ci ad g tc td tn) [.ref (ad 0), .int (iZ z)]) (qX D ci ad (ts_lev g z) tc td tn (some (.int (iZ (tt_lev g))))) 0 0 (txF ad) := by
  refine Met.ofW (cc := b_X_level) (maxL := 3) (ret := (some .int)) (by decide) rfl ?_
  intro p e s m args below meth c s₁ B hml hv
  obtain ⟨rfl, hK, hX, hD⟩ := hv
  have hx := B.exec
  have hb := B.bytes
  have hr := B.returns
  have hts := atoms_spec (ws := wT y_X_level b_X_level 3 (some .int)) B.pre
  have hT : ∀ w ∈ TT, w ∈ wT y_X_level b_X_level 3 (some .int) := wT_T
  have hown : s.vm.findClass RX = some m.cls := findClass_of_methodNamed B.named
  have hlocks := B.notSynchronized
  have hl := lv_entry ([.ref (ad 0), .int (iZ z)]) (n := 3) (Nat.le_of_ble_eq_true rfl)
  rw [lg_entry_eq]
  generalize (lg_sl ([.ref (ad 0), .int (iZ z)]) ++ List.replicate (3 - (lg_sl ([.ref (ad 0), .int (iZ z)])).length) Slot.unset).toArray = ls at hl ⊢
  have hl : lv_has ls 3 [(0, .ref (ad 0)), (1, .int (iZ z))] := hl
  have hL : ∀ q ∈ ([] : List Loc), txF ad q.base := fun q hq => nomatch hq
  have hO : txO ad s.heap s.heap := txO.rf
  have ez : (iZ z).toInt = z := iZ_toInt (by omega) (by omega)
  refine lv_iload_n hx hb d_X_level_0 rfl (lv_at hl 1 rfl) ?_
  refine lv_ldc hx hb (v := (-1000000)) hown (hts _ (hT _ k_X_47)) d_X_level_1 ?_
  refine lv_icmp_lt hx hb d_X_level_3 (tgt := 12) (by decide) (fun q1 => ?_) (fun q1 => ?_)
  · have q1 := Int32.lt_iff_toInt_lt.mp q1
    rw [show (-1000000 : Int32).toInt = -1000000 from rfl] at q1
    exfalso
    omega
  · have q1 := mt Int32.lt_iff_toInt_lt.mpr q1
    rw [show (-1000000 : Int32).toInt = -1000000 from rfl] at q1
    refine lv_iload_n hx hb d_X_level_6 rfl (lv_at hl 1 rfl) ?_
    refine lv_ldc hx hb (v := (nI 1000000)) hown (hts _ (hT _ k_X_48)) d_X_level_7 ?_
    refine lv_icmp_le hx hb d_X_level_9 (tgt := 22) (by decide) (fun q2 => ?_) (fun q2 => ?_)
    · have q2 := Int32.le_iff_toInt_le.mp q2
      rw [nI_toInt (n := 1000000) (by decide)] at q2
      refine lv_aload_n hx hb d_X_level_22 rfl (lv_at hl 0 rfl) ?_
      refine va_get hx hb hts (fun w h => hT w (uX_in w h)) hown hK hX.1 0 rfl rfl 0 (by decide) (hts _ (hT _ k_X_56)) (fun _ h => h) rfl d_X_level_23 ?_
      refine lv_istore_n hx hb d_X_level_26 rfl hl (by decide) (lv' := [(2, .int (iZ (tt_lev g))), (0, .ref (ad 0)), (1, .int (iZ z))]) rfl (fun ls hl => ?_)
      refine lv_aload_n hx hb d_X_level_27 rfl (lv_at hl 1 rfl) ?_
      refine lv_iload_n hx hb d_X_level_28 rfl (lv_at hl 2 rfl) ?_
      refine tq_put (F := txF ad) hx hb hts (fun w h => hT w (uX_in w h)) tX tX_ok nX hown hK (tx_one hX 0 rfl) (ci := 0) rfl 0 (by decide) (hts _ (hT _ k_X_56)) (fun _ h => h) rfl (ty := .int) rfl rfl rfl (Nat.le_of_ble_eq_true rfl) ⟨0, by decide, rfl⟩ hL d_X_level_29 (fun H1 locs1 hP1 hz1 hq1 hL => ?_)
      have hX : tx D ci ad (ts_lev g z) tc td tn H1 := tx_set hD hX 0 (by decide) rfl rfl rfl hP1 (fun j hj => by rcases j with _ | _ | _ | _ | _ | _ | _ | _ | j <;> first | rfl | exact absurd rfl hj) hq1
      have hO := hO.tr (txO.put (k := 0) (by decide) hz1 hq1)
      refine lv_iload_n hx hb d_X_level_32 rfl (lv_at hl 0 rfl) ?_
      exact W.iret hx hb hr (fun t ht hW => ⟨_, rfl, rfl, by rw [ht]; exact hX, by rw [ht]; exact hO⟩) hL d_X_level_33
    · have q2 := mt Int32.le_iff_toInt_le.mpr q2
      rw [nI_toInt (n := 1000000) (by decide)] at q2
      exfalso
      omega
set_option maxHeartbeats 4000000 in
set_option maxRecDepth 100000 in
theorem x_X_level (l : Launch) (htr : l.stackTraces = false) (D : va_G) (ci : Nat → ClassId) (ad : Nat → Nat) (g : TS) (tc td : Int32) (tn : Nat → Int32) (v : Int32) (hv0 : ¬ (-1000000 ≤ v.toInt ∧ v.toInt ≤ 1000000)) : vx_Met l y_X_level (wT y_X_level b_X_level 3 (some .int)) ({ frames := 6, cells := 1, slots := 6, locals := 82 }) (tb (wXE D ci ad g tc td tn) [.ref (ad 0), .int v]) tw_N (vx_X (fun _ : Unit => True) (fun E _ _ => E = eA) (fun _ => False)) 1 6 tq_n := by
  refine vx_ofW (cc := b_X_level) (maxL := 3) (ret := (some .int)) (by decide) rfl ?_
  intro p e s m args below meth c s₁ B hml hno hv
  obtain ⟨rfl, ⟨hK, hg, hX⟩, hE⟩ := hv
  have hx := B.exec
  have hb := B.bytes
  have hr := B.returns
  have hts := atoms_spec (ws := wT y_X_level b_X_level 3 (some .int)) B.pre
  have hT : ∀ w ∈ TT, w ∈ wT y_X_level b_X_level 3 (some .int) := wT_T
  have hown : s.vm.findClass RX = some m.cls := findClass_of_methodNamed B.named
  have hlocks := B.notSynchronized
  have hl := lv_entry ([.ref (ad 0), .int v]) (n := 3) (Nat.le_of_ble_eq_true rfl)
  rw [lg_entry_eq]
  generalize (lg_sl ([.ref (ad 0), .int v]) ++ List.replicate (3 - (lg_sl ([.ref (ad 0), .int v])).length) Slot.unset).toArray = ls at hl ⊢
  have hl : lv_has ls 3 [(0, .ref (ad 0)), (1, .int v)] := hl
  refine lv_iload_n hx hb d_X_level_0 rfl (lv_at hl 1 rfl) ?_
  refine lv_ldc hx hb (v := (-1000000)) hown (hts _ (hT _ k_X_47)) d_X_level_1 ?_
  refine lv_icmp_lt hx hb d_X_level_3 (tgt := 12) (by decide) (fun q1 => ?_) (fun q1 => ?_)
  · have q1 := Int32.lt_iff_toInt_lt.mp q1
    rw [show (-1000000 : Int32).toInt = -1000000 from rfl] at q1
    exact tw_A hx hb htr hown (fun w h => hts w (hT w h)) hE (fun _ _ _ h => h) (is := 51) (text := "no such level") (by decide) va_S.rf (hl.1.trans hml.symm) d_X_level_12 d_X_level_15 d_X_level_16 d_X_level_18 d_X_level_21 hno ⟨by decide, by decide, by decide, by decide⟩ hlocks (fun t ha h1 h2 => ⟨(), trivial, rfl, h1, fun q hq _ => h2 q hq⟩) (fun z hz => nomatch hz) (Nat.le_refl _) (Nat.le_refl _)
  · have q1 := mt Int32.lt_iff_toInt_lt.mpr q1
    rw [show (-1000000 : Int32).toInt = -1000000 from rfl] at q1
    refine lv_iload_n hx hb d_X_level_6 rfl (lv_at hl 1 rfl) ?_
    refine lv_ldc hx hb (v := (nI 1000000)) hown (hts _ (hT _ k_X_48)) d_X_level_7 ?_
    refine lv_icmp_le hx hb d_X_level_9 (tgt := 22) (by decide) (fun q2 => ?_) (fun q2 => ?_)
    · have q2 := Int32.le_iff_toInt_le.mp q2
      rw [nI_toInt (n := 1000000) (by decide)] at q2
      exfalso
      omega
    · have q2 := mt Int32.le_iff_toInt_le.mpr q2
      rw [nI_toInt (n := 1000000) (by decide)] at q2
      exact tw_A hx hb htr hown (fun w h => hts w (hT w h)) hE (fun _ _ _ h => h) (is := 51) (text := "no such level") (by decide) va_S.rf (hl.1.trans hml.symm) d_X_level_12 d_X_level_15 d_X_level_16 d_X_level_18 d_X_level_21 hno ⟨by decide, by decide, by decide, by decide⟩ hlocks (fun t ha h1 h2 => ⟨(), trivial, rfl, h1, fun q hq _ => h2 q hq⟩) (fun z hz => nomatch hz) (Nat.le_refl _) (Nat.le_refl _)
set_option maxHeartbeats 4000000 in
set_option maxRecDepth 100000 in
theorem c_X_constituent (l : Launch) (D : va_G) (ci : Nat → ClassId) (ad : Nat → Nat) (g : TS) (tc td : Int32) (tn : Nat → Int32) {i a sp ph : Nat} (hi : i < 8) (ha : a ≤ 100000) (hsp : sp < 1099511627776) (hph : ph < 281474976710656) : Met l y_X_constituent (wT y_X_constituent b_X_constituent 7 none) (rP 1 21) (tb (wXW D ci ad g tc td tn) [.ref (ad 0), .int (nI i), .int (nI a), .long (lN sp), .long (lN ph)]) (qX D ci ad (ts_pha (ts_spd (ts_amp g i a) i sp) i ph) tc (-1) tn none) 0 0 (txF ad) := by
  refine Met.ofW (cc := b_X_constituent) (maxL := 7) (ret := none) (by decide) rfl ?_
  intro p e s m args below meth c s₁ B hml hv
  obtain ⟨rfl, hK, hX, hD⟩ := hv
  have hx := B.exec
  have hb := B.bytes
  have hr := B.returns
  have hts := atoms_spec (ws := wT y_X_constituent b_X_constituent 7 none) B.pre
  have hT : ∀ w ∈ TT, w ∈ wT y_X_constituent b_X_constituent 7 none := wT_T
  have hown : s.vm.findClass RX = some m.cls := findClass_of_methodNamed B.named
  have hlocks := B.notSynchronized
  have hl := lv_entry ([.ref (ad 0), .int (nI i), .int (nI a), .long (lN sp), .long (lN ph)]) (n := 7) (Nat.le_of_ble_eq_true rfl)
  rw [lg_entry_eq]
  generalize (lg_sl ([.ref (ad 0), .int (nI i), .int (nI a), .long (lN sp), .long (lN ph)]) ++ List.replicate (7 - (lg_sl ([.ref (ad 0), .int (nI i), .int (nI a), .long (lN sp), .long (lN ph)])).length) Slot.unset).toArray = ls at hl ⊢
  have hl : lv_has ls 7 [(0, .ref (ad 0)), (1, .int (nI i)), (2, .int (nI a)), (3, .long (lN sp)), (5, .long (lN ph))] := hl
  have hL : ∀ q ∈ ([] : List Loc), txF ad q.base := fun q hq => nomatch hq
  have hO : txO ad s.heap s.heap := txO.rf
  have ei : (nI i).toInt = i := nI_toInt (by omega)
  have ea : (nI a).toInt = a := nI_toInt (by omega)
  have es : (lN sp).toInt = sp := pk_lT (by omega)
  have ep : (lN ph).toInt = ph := pk_lT (by omega)
  refine lv_iload_n hx hb d_X_constituent_0 rfl (lv_at hl 1 rfl) ?_
  refine tq_S ⟨hx, hb, hml, hown, hts⟩ hT (c_X_isConstituent l (nI i)) lk_X_59 wN_mv trivial rfl hl.1 rfl (Nat.le_of_ble_eq_true rfl) d_X_constituent_1 ⟨rfl, rfl, Nat.le_of_ble_eq_true rfl, Nat.le_of_ble_eq_true rfl⟩ ⟨Nat.zero_le _, Nat.zero_le _⟩ ?_
  refine lv_if_ne hx hb d_X_constituent_4 (tgt := 17) (by decide) (fun q1 => ?_) (fun q1 => ?_)
  · have q1 := zb_t q1
    refine lv_iload_n hx hb d_X_constituent_17 rfl (lv_at hl 2 rfl) ?_
    refine lv_if_lt hx hb d_X_constituent_18 (tgt := 27) (by decide) (fun q2 => ?_) (fun q2 => ?_)
    · have q2 := iv_lt0.mp q2
      exfalso
      omega
    · have q2 := mt iv_lt0.mpr q2
      refine lv_iload_n hx hb d_X_constituent_21 rfl (lv_at hl 2 rfl) ?_
      refine lv_ldc hx hb (v := (nI 100000)) hown (hts _ (hT _ k_X_68)) d_X_constituent_22 ?_
      refine lv_icmp_le hx hb d_X_constituent_24 (tgt := 37) (by decide) (fun q3 => ?_) (fun q3 => ?_)
      · have q3 := Int32.le_iff_toInt_le.mp q3
        rw [nI_toInt (n := 100000) (by decide)] at q3
        refine lv_lload_n hx hb d_X_constituent_37 rfl (lv_at hl 3 rfl) ?_
        refine lv_lconst hx hb d_X_constituent_38 (v := (lN 0)) rfl ?_
        refine W.lcmp hx hb d_X_constituent_39 ?_
        refine lv_if_lt hx hb d_X_constituent_40 (tgt := 51) (by decide) (fun q4 => ?_) (fun q4 => ?_)
        · have q4 := ((lg_cmp_lt _ _).trans Int64.lt_iff_toInt_lt).mp q4
          rw [pk_lT (n := 0) (by decide)] at q4
          exfalso
          omega
        · have q4 := mt ((lg_cmp_lt _ _).trans Int64.lt_iff_toInt_lt).mpr q4
          rw [pk_lT (n := 0) (by decide)] at q4
          refine lv_lload_n hx hb d_X_constituent_43 rfl (lv_at hl 3 rfl) ?_
          refine lv_ldc2 hx hb (v := (lN 1099511627776)) hown (hts _ (hT _ k_X_71)) d_X_constituent_44 ?_
          refine W.lcmp hx hb d_X_constituent_47 ?_
          refine lv_if_lt hx hb d_X_constituent_48 (tgt := 61) (by decide) (fun q5 => ?_) (fun q5 => ?_)
          · have q5 := ((lg_cmp_lt _ _).trans Int64.lt_iff_toInt_lt).mp q5
            rw [pk_lT (n := 1099511627776) (by decide)] at q5
            refine lv_lload hx hb d_X_constituent_61 (lv_at hl 4 rfl) ?_
            refine tq_S ⟨hx, hb, hml, hown, hts⟩ hT (c_X_isPosition l (lN ph)) lk_X_75 wN_mv trivial rfl hl.1 rfl (Nat.le_of_ble_eq_true rfl) d_X_constituent_63 ⟨rfl, rfl, Nat.le_of_ble_eq_true rfl, Nat.le_of_ble_eq_true rfl⟩ ⟨Nat.zero_le _, Nat.zero_le _⟩ ?_
            refine lv_if_ne hx hb d_X_constituent_66 (tgt := 79) (by decide) (fun q6 => ?_) (fun q6 => ?_)
            · have q6 := zb_t q6
              refine lv_aload_n hx hb d_X_constituent_79 rfl (lv_at hl 0 rfl) ?_
              refine va_get hx hb hts (fun w h => hT w (uX_in w h)) hown hK hX.1 0 rfl rfl 1 (by decide) (hts _ (hT _ k_X_9)) (fun _ h => h) rfl d_X_constituent_80 ?_
              refine lv_iload_n hx hb d_X_constituent_83 rfl (lv_at hl 1 rfl) ?_
              refine lv_iload_n hx hb d_X_constituent_84 rfl (lv_at hl 2 rfl) ?_
              refine tq_iast (F := txF ad) hx hb hK 0 (tx_one hX 1 rfl) rfl hi (by decide) ⟨1, by decide, rfl⟩ hL d_X_constituent_85 (fun H1 locs1 hP1 hz1 hq1 hL => ?_)
              rw [up_nI] at hP1
              have hX : tx D ci ad (ts_amp g i a) tc td tn H1 := tx_set hD hX 1 (by decide) rfl rfl rfl hP1 (fun j hj => by rcases j with _ | _ | _ | _ | _ | _ | _ | _ | j <;> first | rfl | exact absurd rfl hj) hq1
              have hO := hO.tr (txO.put (k := 1) (by decide) hz1 hq1)
              refine lv_aload_n hx hb d_X_constituent_86 rfl (lv_at hl 0 rfl) ?_
              refine va_get hx hb hts (fun w h => hT w (uX_in w h)) hown hK hX.1 0 rfl rfl 2 (by decide) (hts _ (hT _ k_X_13)) (fun _ h => h) rfl d_X_constituent_87 ?_
              refine lv_iload_n hx hb d_X_constituent_90 rfl (lv_at hl 1 rfl) ?_
              refine lv_lload_n hx hb d_X_constituent_91 rfl (lv_at hl 3 rfl) ?_
              refine tq_last (F := txF ad) hx hb hK 1 (tx_one hX 2 rfl) rfl hi (by decide) ⟨2, by decide, rfl⟩ hL d_X_constituent_92 (fun H1 locs1 hP1 hz1 hq1 hL => ?_)
              rw [up_lN] at hP1
              have hX : tx D ci ad (ts_spd (ts_amp g i a) i sp) tc td tn H1 := tx_set hD hX 2 (by decide) rfl rfl rfl hP1 (fun j hj => by rcases j with _ | _ | _ | _ | _ | _ | _ | _ | j <;> first | rfl | exact absurd rfl hj) hq1
              have hO := hO.tr (txO.put (k := 2) (by decide) hz1 hq1)
              refine lv_aload_n hx hb d_X_constituent_93 rfl (lv_at hl 0 rfl) ?_
              refine va_get hx hb hts (fun w h => hT w (uX_in w h)) hown hK hX.1 0 rfl rfl 3 (by decide) (hts _ (hT _ k_X_17)) (fun _ h => h) rfl d_X_constituent_94 ?_
              refine lv_iload_n hx hb d_X_constituent_97 rfl (lv_at hl 1 rfl) ?_
              refine lv_lload hx hb d_X_constituent_98 (lv_at hl 4 rfl) ?_
              refine tq_last (F := txF ad) hx hb hK 1 (tx_one hX 3 rfl) rfl hi (by decide) ⟨3, by decide, rfl⟩ hL d_X_constituent_100 (fun H1 locs1 hP1 hz1 hq1 hL => ?_)
              rw [up_lN] at hP1
              have hX : tx D ci ad (ts_pha (ts_spd (ts_amp g i a) i sp) i ph) tc td tn H1 := tx_set hD hX 3 (by decide) rfl rfl rfl hP1 (fun j hj => by rcases j with _ | _ | _ | _ | _ | _ | _ | _ | j <;> first | rfl | exact absurd rfl hj) hq1
              have hO := hO.tr (txO.put (k := 3) (by decide) hz1 hq1)
              refine lv_aload_n hx hb d_X_constituent_101 rfl (lv_at hl 0 rfl) ?_
              refine tq_VW ⟨hx, hb, hml, hown, hts⟩ hT (c_X_forgetTurns l D ci ad (ts_pha (ts_spd (ts_amp g i a) i sp) i ph) tc td tn) lk_X_81 wXW_mv ⟨hK, hX, hD⟩ (wXW_rc hK hX) rfl hl.1 rfl (Nat.le_of_ble_eq_true rfl) d_X_constituent_102 ⟨rfl, rfl, Nat.le_of_ble_eq_true rfl, Nat.le_of_ble_eq_true rfl⟩ ⟨Nat.zero_le _, Nat.zero_le _⟩ hL (fun v9 H1 locs1 hF9 hL => ?_)
              obtain ⟨rfl, hX, hO9⟩ := hF9
              have hO := hO.tr hO9
              exact W.vret hx hb hr (fun t ht hW => ⟨_, rfl, rfl, by rw [ht]; exact hX, by rw [ht]; exact hO⟩) hL d_X_constituent_105
            · have q6 := zb_f q6
              exfalso
              omega
          · have q5 := mt ((lg_cmp_lt _ _).trans Int64.lt_iff_toInt_lt).mpr q5
            rw [pk_lT (n := 1099511627776) (by decide)] at q5
            exfalso
            omega
      · have q3 := mt Int32.le_iff_toInt_le.mpr q3
        rw [nI_toInt (n := 100000) (by decide)] at q3
        exfalso
        omega
  · have q1 := zb_f q1
    exfalso
    omega
set_option maxHeartbeats 4000000 in
set_option maxRecDepth 100000 in
theorem x_X_constituentI (l : Launch) (htr : l.stackTraces = false) (D : va_G) (ci : Nat → ClassId) (ad : Nat → Nat) (g : TS) (tc td : Int32) (tn : Nat → Int32) (u v : Int32) (x z : Int64) (hv0 : ¬ (0 ≤ u.toInt ∧ u.toInt < 8)) : vx_Met l y_X_constituent (wT y_X_constituent b_X_constituent 7 none) ({ frames := 6, cells := 1, slots := 6, locals := 82 }) (tb (wXE D ci ad g tc td tn) [.ref (ad 0), .int u, .int v, .long x, .long z]) tw_N (vx_X (fun _ : Unit => True) (fun E _ _ => E = eI) (fun _ => False)) 1 6 tq_n := by
  refine vx_ofW (cc := b_X_constituent) (maxL := 7) (ret := none) (by decide) rfl ?_
  intro p e s m args below meth c s₁ B hml hno hv
  obtain ⟨rfl, ⟨hK, hg, hX⟩, hE⟩ := hv
  have hx := B.exec
  have hb := B.bytes
  have hr := B.returns
  have hts := atoms_spec (ws := wT y_X_constituent b_X_constituent 7 none) B.pre
  have hT : ∀ w ∈ TT, w ∈ wT y_X_constituent b_X_constituent 7 none := wT_T
  have hown : s.vm.findClass RX = some m.cls := findClass_of_methodNamed B.named
  have hlocks := B.notSynchronized
  have hl := lv_entry ([.ref (ad 0), .int u, .int v, .long x, .long z]) (n := 7) (Nat.le_of_ble_eq_true rfl)
  rw [lg_entry_eq]
  generalize (lg_sl ([.ref (ad 0), .int u, .int v, .long x, .long z]) ++ List.replicate (7 - (lg_sl ([.ref (ad 0), .int u, .int v, .long x, .long z])).length) Slot.unset).toArray = ls at hl ⊢
  have hl : lv_has ls 7 [(0, .ref (ad 0)), (1, .int u), (2, .int v), (3, .long x), (5, .long z)] := hl
  refine lv_iload_n hx hb d_X_constituent_0 rfl (lv_at hl 1 rfl) ?_
  refine tq_S ⟨hx, hb, hml, hown, hts⟩ hT (c_X_isConstituent l u) lk_X_59 wN_mv trivial rfl hl.1 rfl (Nat.le_of_ble_eq_true rfl) d_X_constituent_1 ⟨rfl, rfl, Nat.le_of_ble_eq_true rfl, Nat.le_of_ble_eq_true rfl⟩ ⟨Nat.zero_le _, Nat.zero_le _⟩ ?_
  refine lv_if_ne hx hb d_X_constituent_4 (tgt := 17) (by decide) (fun q1 => ?_) (fun q1 => ?_)
  · have q1 := zb_t q1
    exfalso
    omega
  · have q1 := zb_f q1
    exact tw_I hx hb htr hown (fun w h => hts w (hT w h)) hE (fun _ _ _ h => h) (is := 65) (text := "no such constituent") (by decide) va_S.rf (hl.1.trans hml.symm) d_X_constituent_7 d_X_constituent_10 d_X_constituent_11 d_X_constituent_13 d_X_constituent_16 hno ⟨by decide, by decide, by decide, by decide⟩ hlocks (fun t ha h1 h2 => ⟨(), trivial, rfl, h1, fun q hq _ => h2 q hq⟩) (fun z hz => nomatch hz) (Nat.le_refl _) (Nat.le_refl _)
set_option maxHeartbeats 4000000 in
set_option maxRecDepth 100000 in
theorem x_X_constituentA (l : Launch) (htr : l.stackTraces = false) (D : va_G) (ci : Nat → ClassId) (ad : Nat → Nat) (g : TS) (tc td : Int32) (tn : Nat → Int32) (u v : Int32) (x z : Int64) (hv1 : 0 ≤ u.toInt ∧ u.toInt < 8) (hv0 : ¬ ((0 ≤ v.toInt ∧ v.toInt ≤ 100000) ∧ (0 ≤ x.toInt ∧ x.toInt < 1099511627776) ∧ 0 ≤ z.toInt ∧ z.toInt < 281474976710656)) : vx_Met l y_X_constituent (wT y_X_constituent b_X_constituent 7 none) ({ frames := 6, cells := 1, slots := 6, locals := 82 }) (tb (wXE D ci ad g tc td tn) [.ref (ad 0), .int u, .int v, .long x, .long z]) tw_N (vx_X (fun _ : Unit => True) (fun E _ _ => E = eA) (fun _ => False)) 1 6 tq_n := by
  refine vx_ofW (cc := b_X_constituent) (maxL := 7) (ret := none) (by decide) rfl ?_
  intro p e s m args below meth c s₁ B hml hno hv
  obtain ⟨rfl, ⟨hK, hg, hX⟩, hE⟩ := hv
  have hx := B.exec
  have hb := B.bytes
  have hr := B.returns
  have hts := atoms_spec (ws := wT y_X_constituent b_X_constituent 7 none) B.pre
  have hT : ∀ w ∈ TT, w ∈ wT y_X_constituent b_X_constituent 7 none := wT_T
  have hown : s.vm.findClass RX = some m.cls := findClass_of_methodNamed B.named
  have hlocks := B.notSynchronized
  have hl := lv_entry ([.ref (ad 0), .int u, .int v, .long x, .long z]) (n := 7) (Nat.le_of_ble_eq_true rfl)
  rw [lg_entry_eq]
  generalize (lg_sl ([.ref (ad 0), .int u, .int v, .long x, .long z]) ++ List.replicate (7 - (lg_sl ([.ref (ad 0), .int u, .int v, .long x, .long z])).length) Slot.unset).toArray = ls at hl ⊢
  have hl : lv_has ls 7 [(0, .ref (ad 0)), (1, .int u), (2, .int v), (3, .long x), (5, .long z)] := hl
  refine lv_iload_n hx hb d_X_constituent_0 rfl (lv_at hl 1 rfl) ?_
  refine tq_S ⟨hx, hb, hml, hown, hts⟩ hT (c_X_isConstituent l u) lk_X_59 wN_mv trivial rfl hl.1 rfl (Nat.le_of_ble_eq_true rfl) d_X_constituent_1 ⟨rfl, rfl, Nat.le_of_ble_eq_true rfl, Nat.le_of_ble_eq_true rfl⟩ ⟨Nat.zero_le _, Nat.zero_le _⟩ ?_
  refine lv_if_ne hx hb d_X_constituent_4 (tgt := 17) (by decide) (fun q1 => ?_) (fun q1 => ?_)
  · have q1 := zb_t q1
    refine lv_iload_n hx hb d_X_constituent_17 rfl (lv_at hl 2 rfl) ?_
    refine lv_if_lt hx hb d_X_constituent_18 (tgt := 27) (by decide) (fun q2 => ?_) (fun q2 => ?_)
    · have q2 := iv_lt0.mp q2
      exact tw_A hx hb htr hown (fun w h => hts w (hT w h)) hE (fun _ _ _ h => h) (is := 69) (text := "no such amplitude") (by decide) va_S.rf (hl.1.trans hml.symm) d_X_constituent_27 d_X_constituent_30 d_X_constituent_31 d_X_constituent_33 d_X_constituent_36 hno ⟨by decide, by decide, by decide, by decide⟩ hlocks (fun t ha h1 h2 => ⟨(), trivial, rfl, h1, fun q hq _ => h2 q hq⟩) (fun z hz => nomatch hz) (Nat.le_refl _) (Nat.le_refl _)
    · have q2 := mt iv_lt0.mpr q2
      refine lv_iload_n hx hb d_X_constituent_21 rfl (lv_at hl 2 rfl) ?_
      refine lv_ldc hx hb (v := (nI 100000)) hown (hts _ (hT _ k_X_68)) d_X_constituent_22 ?_
      refine lv_icmp_le hx hb d_X_constituent_24 (tgt := 37) (by decide) (fun q3 => ?_) (fun q3 => ?_)
      · have q3 := Int32.le_iff_toInt_le.mp q3
        rw [nI_toInt (n := 100000) (by decide)] at q3
        refine lv_lload_n hx hb d_X_constituent_37 rfl (lv_at hl 3 rfl) ?_
        refine lv_lconst hx hb d_X_constituent_38 (v := (lN 0)) rfl ?_
        refine W.lcmp hx hb d_X_constituent_39 ?_
        refine lv_if_lt hx hb d_X_constituent_40 (tgt := 51) (by decide) (fun q4 => ?_) (fun q4 => ?_)
        · have q4 := ((lg_cmp_lt _ _).trans Int64.lt_iff_toInt_lt).mp q4
          rw [pk_lT (n := 0) (by decide)] at q4
          exact tw_A hx hb htr hown (fun w h => hts w (hT w h)) hE (fun _ _ _ h => h) (is := 73) (text := "no such speed") (by decide) va_S.rf (hl.1.trans hml.symm) d_X_constituent_51 d_X_constituent_54 d_X_constituent_55 d_X_constituent_57 d_X_constituent_60 hno ⟨by decide, by decide, by decide, by decide⟩ hlocks (fun t ha h1 h2 => ⟨(), trivial, rfl, h1, fun q hq _ => h2 q hq⟩) (fun z hz => nomatch hz) (Nat.le_refl _) (Nat.le_refl _)
        · have q4 := mt ((lg_cmp_lt _ _).trans Int64.lt_iff_toInt_lt).mpr q4
          rw [pk_lT (n := 0) (by decide)] at q4
          refine lv_lload_n hx hb d_X_constituent_43 rfl (lv_at hl 3 rfl) ?_
          refine lv_ldc2 hx hb (v := (lN 1099511627776)) hown (hts _ (hT _ k_X_71)) d_X_constituent_44 ?_
          refine W.lcmp hx hb d_X_constituent_47 ?_
          refine lv_if_lt hx hb d_X_constituent_48 (tgt := 61) (by decide) (fun q5 => ?_) (fun q5 => ?_)
          · have q5 := ((lg_cmp_lt _ _).trans Int64.lt_iff_toInt_lt).mp q5
            rw [pk_lT (n := 1099511627776) (by decide)] at q5
            refine lv_lload hx hb d_X_constituent_61 (lv_at hl 4 rfl) ?_
            refine tq_S ⟨hx, hb, hml, hown, hts⟩ hT (c_X_isPosition l z) lk_X_75 wN_mv trivial rfl hl.1 rfl (Nat.le_of_ble_eq_true rfl) d_X_constituent_63 ⟨rfl, rfl, Nat.le_of_ble_eq_true rfl, Nat.le_of_ble_eq_true rfl⟩ ⟨Nat.zero_le _, Nat.zero_le _⟩ ?_
            refine lv_if_ne hx hb d_X_constituent_66 (tgt := 79) (by decide) (fun q6 => ?_) (fun q6 => ?_)
            · have q6 := zb_t q6
              exfalso
              omega
            · have q6 := zb_f q6
              exact tw_A hx hb htr hown (fun w h => hts w (hT w h)) hE (fun _ _ _ h => h) (is := 79) (text := "no such phase") (by decide) va_S.rf (hl.1.trans hml.symm) d_X_constituent_69 d_X_constituent_72 d_X_constituent_73 d_X_constituent_75 d_X_constituent_78 hno ⟨by decide, by decide, by decide, by decide⟩ hlocks (fun t ha h1 h2 => ⟨(), trivial, rfl, h1, fun q hq _ => h2 q hq⟩) (fun z hz => nomatch hz) (Nat.le_refl _) (Nat.le_refl _)
          · have q5 := mt ((lg_cmp_lt _ _).trans Int64.lt_iff_toInt_lt).mpr q5
            rw [pk_lT (n := 1099511627776) (by decide)] at q5
            exact tw_A hx hb htr hown (fun w h => hts w (hT w h)) hE (fun _ _ _ h => h) (is := 73) (text := "no such speed") (by decide) va_S.rf (hl.1.trans hml.symm) d_X_constituent_51 d_X_constituent_54 d_X_constituent_55 d_X_constituent_57 d_X_constituent_60 hno ⟨by decide, by decide, by decide, by decide⟩ hlocks (fun t ha h1 h2 => ⟨(), trivial, rfl, h1, fun q hq _ => h2 q hq⟩) (fun z hz => nomatch hz) (Nat.le_refl _) (Nat.le_refl _)
      · have q3 := mt Int32.le_iff_toInt_le.mpr q3
        rw [nI_toInt (n := 100000) (by decide)] at q3
        exact tw_A hx hb htr hown (fun w h => hts w (hT w h)) hE (fun _ _ _ h => h) (is := 69) (text := "no such amplitude") (by decide) va_S.rf (hl.1.trans hml.symm) d_X_constituent_27 d_X_constituent_30 d_X_constituent_31 d_X_constituent_33 d_X_constituent_36 hno ⟨by decide, by decide, by decide, by decide⟩ hlocks (fun t ha h1 h2 => ⟨(), trivial, rfl, h1, fun q hq _ => h2 q hq⟩) (fun z hz => nomatch hz) (Nat.le_refl _) (Nat.le_refl _)
  · have q1 := zb_f q1
    exfalso
    omega
