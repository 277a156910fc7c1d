/-! the reference's setters and questions. Written by wip/whole/gen.py -/
theorem vP_set {D : va_G} {cl : List vw_C} {ws ws' : va_W} {H H1 : Heap} (h : va_P D cl ws H) (k : Nat) {x : Nat × va_E} (hx : ws'[k]? = some x) (hP : va_P D cl [x] H1) (hw : ∀ j, j ≠ k → ws'[j]? = ws[j]?) (hne : ∀ (j : Nat) (y : Nat × va_E), j ≠ k → ws[j]? = some y → y.1 ≠ x.1) (hq : ∀ q : Nat, q ≠ x.1 → H1[q]? = H[q]?) : va_P D cl ws' H1 := by
  intro j q hj
  by_cases e : j = k
  · subst e
    cases Option.some.inj (hx.symm.trans hj)
    exact hP 0 _ rfl
  · rw [hw j e] at hj
    exact (h j q hj).kept (hq _ (hne j q e hj))
def mD (am : Nat → Nat) : Prop := ∀ i j, i < 11 → j < 11 → am i = am j → i = j
def mF (am : Nat → Nat) : Nat → Prop := fun q => ∃ k, k < 11 ∧ q = am k
def mO (am : Nat → Nat) (H H1 : Heap) : Prop := H1.size = H.size ∧ ∀ q : Nat, ¬ mF am q → H1[q]? = H[q]?
theorem mO.rf {am : Nat → Nat} {H : Heap} : mO am H H := ⟨rfl, fun _ _ => rfl⟩
theorem mO.tr {am : Nat → Nat} {H H1 H2 : Heap} (h1 : mO am H H1) (h2 : mO am H1 H2) : mO am H H2 := ⟨h2.1.trans h1.1, fun q hq => (h2.2 q hq).trans (h1.2 q hq)⟩
theorem mO.put {am : Nat → Nat} {H H1 : Heap} {k : Nat} (hk : k < 11) (hz : H1.size = H.size) (hq : ∀ q : Nat, q ≠ am k → H1[q]? = H[q]?) : mO am H H1 := ⟨hz, fun q h => hq q (fun z => h ⟨k, hk, z⟩)⟩
section TMU
variable {D : va_G} {ci : Nat → ClassId} {am : Nat → Nat} {g g' : TS} {th fo sz th' fo' sz' : Int32} {hs mi hi tx hs' mi' hi' tx' : Nat → Int32} {H H1 : Heap}
theorem tm_at {j : Nat} {y : Nat × va_E} (h : (tm_w ci am g th fo sz hs mi hi tx)[j]? = some y) : j < 11 ∧ y.1 = am j := by
  match j, h with
  | 0, rfl => exact ⟨by decide, rfl⟩
  | 1, rfl => exact ⟨by decide, rfl⟩
  | 2, rfl => exact ⟨by decide, rfl⟩
  | 3, rfl => exact ⟨by decide, rfl⟩
  | 4, rfl => exact ⟨by decide, rfl⟩
  | 5, rfl => exact ⟨by decide, rfl⟩
  | 6, rfl => exact ⟨by decide, rfl⟩
  | 7, rfl => exact ⟨by decide, rfl⟩
  | 8, rfl => exact ⟨by decide, rfl⟩
  | 9, rfl => exact ⟨by decide, rfl⟩
  | 10, rfl => exact ⟨by decide, rfl⟩
theorem tm_one (h : tm D ci am g th fo sz hs mi hi tx H) (k : Nat) {x : Nat × va_E} (hx : (tm_w ci am g th fo sz hs mi hi tx)[k]? = some x) : va_P D tcl [x] H := by
  intro i q hq
  match i, hq with
  | 0, rfl => exact h k _ hx
theorem tm_set (hD : mD am) (h : tm D ci am g th fo sz hs mi hi tx H) (k : Nat) (hk : k < 11) {x : Nat × va_E} (hx : (tm_w ci am g' th' fo' sz' hs' mi' hi' tx')[k]? = some x) (hP : va_P D tcl [x] H1) (hw : ∀ j, j ≠ k → (tm_w ci am g' th' fo' sz' hs' mi' hi' tx')[j]? = (tm_w ci am g th fo sz hs mi hi tx)[j]?) (hq : ∀ q : Nat, q ≠ am k → H1[q]? = H[q]?) : tm D ci am g' th' fo' sz' hs' mi' hi' tx' H1 := by
  have ex := (tm_at hx).2
  refine vP_set h k hx hP hw (fun j y hj hy => ?_) (by rw [ex]; exact hq)
  obtain ⟨h1, h2⟩ := tm_at hy
  rw [ex, h2]
  exact fun q => hj (hD j k h1 hk q)
theorem tm_keep (h : tm D ci am g th fo sz hs mi hi tx H) (hq : ∀ k, k < 11 → H1[am k]? = H[am k]?) : tm D ci am g th fo sz hs mi hi tx H1 := h.kept (fun k q hk => by
  obtain ⟨h1, h2⟩ := tm_at hk
  rw [h2]
  exact hq k h1)
end TMU
def wMD (D : va_G) (ci : Nat → ClassId) (am : Nat → Nat) (g : TS) (th fo sz : Int32) (hs mi hi tx : Nat → Int32) (U : State) (H : Heap) : Prop := tk D ci U ∧ tt_ok g ∧ tm D ci am g th fo sz hs mi hi tx H ∧ mD am
theorem wMD_mv {D : va_G} {ci : Nat → ClassId} {am : Nat → Nat} {g : TS} {th fo sz : Int32} {hs mi hi tx : Nat → Int32} : tmov (wMD D ci am g th fo sz hs mi hi tx) := fun _ _ _ hW h => ⟨tk.moved hW h.1, h.2⟩
abbrev qM (D : va_G) (ci : Nat → ClassId) (am : Nat → Nat) (g : TS) (th fo sz : Int32) (hs mi hi tx : Nat → Int32) (rv : Option Value) : Array Value → State → Outcome → State → Prop := tq_Q (fun o9 H H1 => o9 = rv ∧ tm D ci am g th fo sz hs mi hi tx H1 ∧ mO am H H1)
set_option maxHeartbeats 4000000 in
set_option maxRecDepth 100000 in
theorem c_M_level (l : Launch) (D : va_G) (ci : Nat → ClassId) (am : Nat → Nat) (g : TS) (th fo sz : Int32) (hs mi hi tx : Nat → Int32) {z : Int} (hz1 : -1000000 ≤ z) (hz2 : z ≤ 1000000) : Met l y_M_level (wT y_M_level b_M_level 3 (some .int)) (rP 0 0) (tb (wMD D ci am g th fo sz hs mi hi tx) [.ref (am 0), .int (iZ z)]) (qM D ci am (ts_lev g z) (nI 0) fo sz hs mi hi tx (some (.int (iZ (tt_lev g))))) 0 0 (mF am) := by
  refine Met.ofW (cc := b_M_level) (maxL := 3) (ret := (some .int)) (by decide) rfl ?_
  intro p e s m args below meth c s₁ B hml hv
  obtain ⟨rfl, hK, hg, hM, hD⟩ := hv
  have hx := B.exec
  have hb := B.bytes
  have hr := B.returns
  have hts := atoms_spec (ws := wT y_M_level b_M_level 3 (some .int)) B.pre
  have hT : ∀ w ∈ TT, w ∈ wT y_M_level b_M_level 3 (some .int) := wT_T
  have hown : s.vm.findClass RM = some m.cls := findClass_of_methodNamed B.named
  have hlocks := B.notSynchronized
  have hl := lv_entry ([.ref (am 0), .int (iZ z)]) (n := 3) (Nat.le_of_ble_eq_true rfl)
  rw [lg_entry_eq]
  generalize (lg_sl ([.ref (am 0), .int (iZ z)]) ++ List.replicate (3 - (lg_sl ([.ref (am 0), .int (iZ z)])).length) Slot.unset).toArray = ls at hl ⊢
  have hl : lv_has ls 3 [(0, .ref (am 0)), (1, .int (iZ z))] := hl
  have hL : ∀ q ∈ ([] : List Loc), mF am q.base := fun q hq => nomatch hq
  have hO : mO am s.heap s.heap := mO.rf
  have ez : (iZ z).toInt = z := iZ_toInt (by omega) (by omega)
  refine lv_aload_n hx hb d_M_level_0 rfl (lv_at hl 0 rfl) ?_
  refine lv_iload_n hx hb d_M_level_1 rfl (lv_at hl 1 rfl) ?_
  refine lv_ldc hx hb (v := (-1000000)) hown (hts _ (hT _ k_M_49)) d_M_level_2 ?_
  refine lv_icmp_lt hx hb d_M_level_4 (tgt := 13) (by decide) (fun q1 => ?_) (fun q1 => ?_)
  · have q1 := Int32.lt_iff_toInt_lt.mp q1
    rw [show (-1000000 : Int32).toInt = -1000000 from rfl] at q1
    refine lv_iconst hx hb d_M_level_13 (v := (nI 1)) rfl ?_
    refine lv_goto hx hb d_M_level_14 (tgt := 18) (by decide) ?_
    exfalso
    omega
  · have q1 := mt Int32.lt_iff_toInt_lt.mpr q1
    rw [show (-1000000 : Int32).toInt = -1000000 from rfl] at q1
    refine lv_iload_n hx hb d_M_level_7 rfl (lv_at hl 1 rfl) ?_
    refine lv_ldc hx hb (v := (nI 1000000)) hown (hts _ (hT _ k_M_50)) d_M_level_8 ?_
    refine lv_icmp_le hx hb d_M_level_10 (tgt := 17) (by decide) (fun q2 => ?_) (fun q2 => ?_)
    · have q2 := Int32.le_iff_toInt_le.mp q2
      rw [nI_toInt (n := 1000000) (by decide)] at q2
      refine lv_iconst hx hb d_M_level_17 (v := (nI 0)) rfl ?_
      refine tq_put (F := mF am) hx hb hts (fun w h => hT w (uM_in w h)) tM tM_ok nM hown hK (tm_one hM 0 rfl) (ci := 1) rfl 0 (by decide) (hts _ (hT _ k_M_43)) (fun _ h => h) rfl (ty := .int) rfl rfl rfl (Nat.le_of_ble_eq_true rfl) ⟨0, by decide, rfl⟩ hL d_M_level_18 (fun H1 locs1 hP1 hz1 hq1 hL => ?_)
      have hM : tm D ci am g (nI 0) fo sz hs mi hi tx H1 := tm_set hD hM 0 (by decide) rfl hP1 (fun j hj => by rcases j with _ | _ | _ | _ | _ | _ | _ | _ | _ | _ | _ | j <;> first | rfl | exact absurd rfl hj) hq1
      have hO := hO.tr (mO.put (k := 0) (by decide) hz1 hq1)
      refine lv_aload_n hx hb d_M_level_21 rfl (lv_at hl 0 rfl) ?_
      refine va_get hx hb hts (fun w h => hT w (uM_in w h)) hown hK hM 0 rfl rfl 0 (by decide) (hts _ (hT _ k_M_43)) (fun _ h => h) rfl d_M_level_22 ?_
      refine lv_if_eq hx hb d_M_level_25 (tgt := 30) (by decide) (fun _ => ?_) (fun hno => absurd (by decide) hno)
      refine lv_aload_n hx hb d_M_level_30 rfl (lv_at hl 0 rfl) ?_
      refine va_get hx hb hts (fun w h => hT w (uM_in w h)) hown hK hM 0 rfl rfl 1 (by decide) (hts _ (hT _ k_M_51)) (fun _ h => h) rfl d_M_level_31 ?_
      refine lv_istore_n hx hb d_M_level_34 rfl hl (by decide) (lv' := [(2, .int (iZ (tt_lev g))), (0, .ref (am 0)), (1, .int (iZ z))]) rfl (fun ls hl => ?_)
      refine lv_aload_n hx hb d_M_level_35 rfl (lv_at hl 1 rfl) ?_
      refine lv_iload_n hx hb d_M_level_36 rfl (lv_at hl 2 rfl) ?_
      refine tq_put (F := mF am) hx hb hts (fun w h => hT w (uM_in w h)) tM tM_ok nM hown hK (tm_one hM 0 rfl) (ci := 1) rfl 1 (by decide) (hts _ (hT _ k_M_51)) (fun _ h => h) rfl (ty := .int) rfl rfl rfl (Nat.le_of_ble_eq_true rfl) ⟨0, by decide, rfl⟩ hL d_M_level_37 (fun H1 locs1 hP1 hz1 hq1 hL => ?_)
      have hM : tm D ci am (ts_lev g z) (nI 0) fo sz hs mi hi tx H1 := tm_set hD hM 0 (by decide) rfl hP1 (fun j hj => by rcases j with _ | _ | _ | _ | _ | _ | _ | _ | _ | _ | _ | j <;> first | rfl | exact absurd rfl hj) hq1
      have hO := hO.tr (mO.put (k := 0) (by decide) hz1 hq1)
      refine lv_iload_n hx hb d_M_level_40 rfl (lv_at hl 0 rfl) ?_
      exact W.iret hx hb hr (fun t ht hW => ⟨_, rfl, rfl, by rw [ht]; exact hM, by rw [ht]; exact hO⟩) hL d_M_level_41
    · have q2 := mt Int32.le_iff_toInt_le.mpr q2
      rw [nI_toInt (n := 1000000) (by decide)] at q2
      refine lv_iconst hx hb d_M_level_13 (v := (nI 1)) rfl ?_
      refine lv_goto hx hb d_M_level_14 (tgt := 18) (by decide) ?_
      exfalso
      omega
set_option maxHeartbeats 4000000 in
set_option maxRecDepth 100000 in
theorem x_M_level (l : Launch) (D : va_G) (ci : Nat → ClassId) (am : Nat → Nat) (g : TS) (th fo sz : Int32) (hs mi hi tx : Nat → Int32) (v : Int32) (hv0 : ¬ (-1000000 ≤ v.toInt ∧ v.toInt ≤ 1000000)) : Met l y_M_level (wT y_M_level b_M_level 3 (some .int)) (rP 0 0) (tb (wMD D ci am g th fo sz hs mi hi tx) [.ref (am 0), .int v]) (qM D ci am g (nI 1) fo sz hs mi hi tx (some (.int (nI 0)))) 0 0 (mF am) := by
  refine Met.ofW (cc := b_M_level) (maxL := 3) (ret := (some .int)) (by decide) rfl ?_
  intro p e s m args below meth c s₁ B hml hv
  obtain ⟨rfl, hK, hg, hM, hD⟩ := hv
  have hx := B.exec
  have hb := B.bytes
  have hr := B.returns
  have hts := atoms_spec (ws := wT y_M_level b_M_level 3 (some .int)) B.pre
  have hT : ∀ w ∈ TT, w ∈ wT y_M_level b_M_level 3 (some .int) := wT_T
  have hown : s.vm.findClass RM = some m.cls := findClass_of_methodNamed B.named
  have hlocks := B.notSynchronized
  have hl := lv_entry ([.ref (am 0), .int v]) (n := 3) (Nat.le_of_ble_eq_true rfl)
  rw [lg_entry_eq]
  generalize (lg_sl ([.ref (am 0), .int v]) ++ List.replicate (3 - (lg_sl ([.ref (am 0), .int v])).length) Slot.unset).toArray = ls at hl ⊢
  have hl : lv_has ls 3 [(0, .ref (am 0)), (1, .int v)] := hl
  have hL : ∀ q ∈ ([] : List Loc), mF am q.base := fun q hq => nomatch hq
  have hO : mO am s.heap s.heap := mO.rf
  refine lv_aload_n hx hb d_M_level_0 rfl (lv_at hl 0 rfl) ?_
  refine lv_iload_n hx hb d_M_level_1 rfl (lv_at hl 1 rfl) ?_
  refine lv_ldc hx hb (v := (-1000000)) hown (hts _ (hT _ k_M_49)) d_M_level_2 ?_
  refine lv_icmp_lt hx hb d_M_level_4 (tgt := 13) (by decide) (fun q1 => ?_) (fun q1 => ?_)
  · have q1 := Int32.lt_iff_toInt_lt.mp q1
    rw [show (-1000000 : Int32).toInt = -1000000 from rfl] at q1
    refine lv_iconst hx hb d_M_level_13 (v := (nI 1)) rfl ?_
    refine lv_goto hx hb d_M_level_14 (tgt := 18) (by decide) ?_
    refine tq_put (F := mF am) hx hb hts (fun w h => hT w (uM_in w h)) tM tM_ok nM hown hK (tm_one hM 0 rfl) (ci := 1) rfl 0 (by decide) (hts _ (hT _ k_M_43)) (fun _ h => h) rfl (ty := .int) rfl rfl rfl (Nat.le_of_ble_eq_true rfl) ⟨0, by decide, rfl⟩ hL d_M_level_18 (fun H1 locs1 hP1 hz1 hq1 hL => ?_)
    have hM : tm D ci am g (nI 1) fo sz hs mi hi tx H1 := tm_set hD hM 0 (by decide) rfl hP1 (fun j hj => by rcases j with _ | _ | _ | _ | _ | _ | _ | _ | _ | _ | _ | j <;> first | rfl | exact absurd rfl hj) hq1
    have hO := hO.tr (mO.put (k := 0) (by decide) hz1 hq1)
    refine lv_aload_n hx hb d_M_level_21 rfl (lv_at hl 0 rfl) ?_
    refine va_get hx hb hts (fun w h => hT w (uM_in w h)) hown hK hM 0 rfl rfl 0 (by decide) (hts _ (hT _ k_M_43)) (fun _ h => h) rfl d_M_level_22 ?_
    refine lv_if_eq hx hb d_M_level_25 (tgt := 30) (by decide) (fun hyes => absurd hyes (by decide)) (fun _ => ?_)
    refine lv_iconst hx hb d_M_level_28 (v := (nI 0)) rfl ?_
    exact W.iret hx hb hr (fun t ht hW => ⟨_, rfl, rfl, by rw [ht]; exact hM, by rw [ht]; exact hO⟩) hL d_M_level_29
  · have q1 := mt Int32.lt_iff_toInt_lt.mpr q1
    rw [show (-1000000 : Int32).toInt = -1000000 from rfl] at q1
    refine lv_iload_n hx hb d_M_level_7 rfl (lv_at hl 1 rfl) ?_
    refine lv_ldc hx hb (v := (nI 1000000)) hown (hts _ (hT _ k_M_50)) d_M_level_8 ?_
    refine lv_icmp_le hx hb d_M_level_10 (tgt := 17) (by decide) (fun q2 => ?_) (fun q2 => ?_)
    · have q2 := Int32.le_iff_toInt_le.mp q2
      rw [nI_toInt (n := 1000000) (by decide)] at q2
      refine lv_iconst hx hb d_M_level_17 (v := (nI 0)) rfl ?_
      exfalso
      omega
    · have q2 := mt Int32.le_iff_toInt_le.mpr q2
      rw [nI_toInt (n := 1000000) (by decide)] at q2
      refine lv_iconst hx hb d_M_level_13 (v := (nI 1)) rfl ?_
      refine lv_goto hx hb d_M_level_14 (tgt := 18) (by decide) ?_
      refine tq_put (F := mF am) hx hb hts (fun w h => hT w (uM_in w h)) tM tM_ok nM hown hK (tm_one hM 0 rfl) (ci := 1) rfl 0 (by decide) (hts _ (hT _ k_M_43)) (fun _ h => h) rfl (ty := .int) rfl rfl rfl (Nat.le_of_ble_eq_true rfl) ⟨0, by decide, rfl⟩ hL d_M_level_18 (fun H1 locs1 hP1 hz1 hq1 hL => ?_)
      have hM : tm D ci am g (nI 1) fo sz hs mi hi tx H1 := tm_set hD hM 0 (by decide) rfl hP1 (fun j hj => by rcases j with _ | _ | _ | _ | _ | _ | _ | _ | _ | _ | _ | j <;> first | rfl | exact absurd rfl hj) hq1
      have hO := hO.tr (mO.put (k := 0) (by decide) hz1 hq1)
      refine lv_aload_n hx hb d_M_level_21 rfl (lv_at hl 0 rfl) ?_
      refine va_get hx hb hts (fun w h => hT w (uM_in w h)) hown hK hM 0 rfl rfl 0 (by decide) (hts _ (hT _ k_M_43)) (fun _ h => h) rfl d_M_level_22 ?_
      refine lv_if_eq hx hb d_M_level_25 (tgt := 30) (by decide) (fun hyes => absurd hyes (by decide)) (fun _ => ?_)
      refine lv_iconst hx hb d_M_level_28 (v := (nI 0)) rfl ?_
      exact W.iret hx hb hr (fun t ht hW => ⟨_, rfl, rfl, by rw [ht]; exact hM, by rw [ht]; exact hO⟩) hL d_M_level_29
set_option maxHeartbeats 4000000 in
set_option maxRecDepth 100000 in
theorem c_M_constituent (l : Launch) (D : va_G) (ci : Nat → ClassId) (am : Nat → Nat) (g : TS) (th fo sz : Int32) (hs mi hi tx : Nat → Int32) {i a sp ph : Nat} (hi8 : i < 8) (ha : a ≤ 100000) (hsp : sp < 1099511627776) (hph : ph < 281474976710656) : Met l y_M_constituent (wT y_M_constituent b_M_constituent 8 none) (rP 1 21) (tb (wMD D ci am g th fo sz hs mi hi tx) [.ref (am 0), .int (nI i), .int (nI a), .long (lN sp), .long (lN ph)]) (qM D ci am (ts_pha (ts_spd (ts_amp g i a) i sp) i ph) (nI 0) fo sz hs mi hi tx (none)) 0 0 (mF am) := by
  refine Met.ofW (cc := b_M_constituent) (maxL := 8) (ret := none) (by decide) rfl ?_
  intro p e s m args below meth c s₁ B hml hv
  obtain ⟨rfl, hK, hg, hM, hD⟩ := hv
  have hx := B.exec
  have hb := B.bytes
  have hr := B.returns
  have hts := atoms_spec (ws := wT y_M_constituent b_M_constituent 8 none) B.pre
  have hT : ∀ w ∈ TT, w ∈ wT y_M_constituent b_M_constituent 8 none := wT_T
  have hown : s.vm.findClass RM = some m.cls := findClass_of_methodNamed B.named
  have hlocks := B.notSynchronized
  have hl := lv_entry ([.ref (am 0), .int (nI i), .int (nI a), .long (lN sp), .long (lN ph)]) (n := 8) (Nat.le_of_ble_eq_true rfl)
  rw [lg_entry_eq]
  generalize (lg_sl ([.ref (am 0), .int (nI i), .int (nI a), .long (lN sp), .long (lN ph)]) ++ List.replicate (8 - (lg_sl ([.ref (am 0), .int (nI i), .int (nI a), .long (lN sp), .long (lN ph)])).length) Slot.unset).toArray = ls at hl ⊢
  have hl : lv_has ls 8 [(0, .ref (am 0)), (1, .int (nI i)), (2, .int (nI a)), (3, .long (lN sp)), (5, .long (lN ph))] := hl
  have hL : ∀ q ∈ ([] : List Loc), mF am q.base := fun q hq => nomatch hq
  have hO : mO am s.heap s.heap := mO.rf
  have ei : (nI i).toInt = i := nI_toInt (by omega)
  have ea : (nI a).toInt = a := nI_toInt (by omega)
  have es : (lN sp).toInt = sp := pk_lT (by omega)
  have ep : (lN ph).toInt = ph := pk_lT (by omega)
  refine lv_iload_n hx hb d_M_constituent_0 rfl (lv_at hl 2 rfl) ?_
  refine lv_if_lt hx hb d_M_constituent_1 (tgt := 36) (by decide) (fun q1 => ?_) (fun q1 => ?_)
  · have q1 := iv_lt0.mp q1
    refine lv_iconst hx hb d_M_constituent_36 (v := (nI 0)) rfl ?_
    refine lv_istore hx hb d_M_constituent_37 hl (by decide) (lv' := [(7, .int (nI 0)), (0, .ref (am 0)), (1, .int (nI i)), (2, .int (nI a)), (3, .long (lN sp)), (5, .long (lN ph))]) rfl (fun ls hl => ?_)
    refine lv_aload_n hx hb d_M_constituent_39 rfl (lv_at hl 1 rfl) ?_
    refine lv_iload_n hx hb d_M_constituent_40 rfl (lv_at hl 2 rfl) ?_
    refine tq_S ⟨hx, hb, hml, hown, hts⟩ hT (c_M_isOne l (nI i)) lk_M_61 wN_mv trivial rfl hl.1 rfl (Nat.le_of_ble_eq_true rfl) d_M_constituent_41 ⟨rfl, rfl, Nat.le_of_ble_eq_true rfl, Nat.le_of_ble_eq_true rfl⟩ ⟨Nat.zero_le _, Nat.zero_le _⟩ ?_
    refine lv_if_ne hx hb d_M_constituent_44 (tgt := 51) (by decide) (fun q2 => ?_) (fun q2 => ?_)
    · have q2 := zb_t q2
      refine lv_iload hx hb d_M_constituent_51 (lv_at hl 0 rfl) ?_
      refine lv_if_ne hx hb d_M_constituent_53 (tgt := 60) (by decide) (fun q3 => ?_) (fun q3 => ?_)
      · have q3 := mt iv_eq0.mpr q3
        rw [nI_toInt (n := 0) (by decide)] at q3
        refine lv_iconst hx hb d_M_constituent_60 (v := (nI 0)) rfl ?_
        refine tq_put (F := mF am) hx hb hts (fun w h => hT w (uM_in w h)) tM tM_ok nM hown hK (tm_one hM 0 rfl) (ci := 1) rfl 0 (by decide) (hts _ (hT _ k_M_43)) (fun _ h => h) rfl (ty := .int) rfl rfl rfl (Nat.le_of_ble_eq_true rfl) ⟨0, by decide, rfl⟩ hL d_M_constituent_61 (fun H1 locs1 hP1 hz1 hq1 hL => ?_)
        have hM : tm D ci am g (nI 0) fo sz hs mi hi tx H1 := tm_set hD hM 0 (by decide) rfl hP1 (fun j hj => by rcases j with _ | _ | _ | _ | _ | _ | _ | _ | _ | _ | _ | j <;> first | rfl | exact absurd rfl hj) hq1
        have hO := hO.tr (mO.put (k := 0) (by decide) hz1 hq1)
        refine lv_aload_n hx hb d_M_constituent_64 rfl (lv_at hl 1 rfl) ?_
        refine va_get hx hb hts (fun w h => hT w (uM_in w h)) hown hK hM 0 rfl rfl 0 (by decide) (hts _ (hT _ k_M_43)) (fun _ h => h) rfl d_M_constituent_65 ?_
        refine lv_if_eq hx hb d_M_constituent_68 (tgt := 72) (by decide) (fun _ => ?_) (fun hno => absurd (by decide) hno)
        refine lv_aload_n hx hb d_M_constituent_72 rfl (lv_at hl 1 rfl) ?_
        refine va_get hx hb hts (fun w h => hT w (uM_in w h)) hown hK hM 0 rfl rfl 3 (by decide) (hts _ (hT _ k_M_13)) (fun _ h => h) rfl d_M_constituent_73 ?_
        refine lv_iload_n hx hb d_M_constituent_76 rfl (lv_at hl 2 rfl) ?_
        refine lv_iload_n hx hb d_M_constituent_77 rfl (lv_at hl 3 rfl) ?_
        refine tq_iast (F := mF am) hx hb hK 0 (tm_one hM 2 rfl) rfl hi8 (by decide) ⟨2, by decide, rfl⟩ hL d_M_constituent_78 (fun H1 locs1 hP1 hz1 hq1 hL => ?_)
        rw [up_nI] at hP1
        have hM : tm D ci am (ts_amp g i a) (nI 0) fo sz hs mi hi tx H1 := tm_set hD hM 2 (by decide) rfl hP1 (fun j hj => by rcases j with _ | _ | _ | _ | _ | _ | _ | _ | _ | _ | _ | j <;> first | rfl | exact absurd rfl hj) hq1
        have hO := hO.tr (mO.put (k := 2) (by decide) hz1 hq1)
        refine lv_aload_n hx hb d_M_constituent_79 rfl (lv_at hl 1 rfl) ?_
        refine va_get hx hb hts (fun w h => hT w (uM_in w h)) hown hK hM 0 rfl rfl 4 (by decide) (hts _ (hT _ k_M_16)) (fun _ h => h) rfl d_M_constituent_80 ?_
        refine lv_iload_n hx hb d_M_constituent_83 rfl (lv_at hl 2 rfl) ?_
        refine lv_lload_n hx hb d_M_constituent_84 rfl (lv_at hl 4 rfl) ?_
        refine tq_last (F := mF am) hx hb hK 1 (tm_one hM 3 rfl) rfl hi8 (by decide) ⟨3, by decide, rfl⟩ hL d_M_constituent_85 (fun H1 locs1 hP1 hz1 hq1 hL => ?_)
        rw [up_lN] at hP1
        have hM : tm D ci am (ts_spd (ts_amp g i a) i sp) (nI 0) fo sz hs mi hi tx H1 := tm_set hD hM 3 (by decide) rfl hP1 (fun j hj => by rcases j with _ | _ | _ | _ | _ | _ | _ | _ | _ | _ | _ | j <;> first | rfl | exact absurd rfl hj) hq1
        have hO := hO.tr (mO.put (k := 3) (by decide) hz1 hq1)
        refine lv_aload_n hx hb d_M_constituent_86 rfl (lv_at hl 1 rfl) ?_
        refine va_get hx hb hts (fun w h => hT w (uM_in w h)) hown hK hM 0 rfl rfl 5 (by decide) (hts _ (hT _ k_M_20)) (fun _ h => h) rfl d_M_constituent_87 ?_
        refine lv_iload_n hx hb d_M_constituent_90 rfl (lv_at hl 2 rfl) ?_
        refine lv_lload hx hb d_M_constituent_91 (lv_at hl 5 rfl) ?_
        refine tq_last (F := mF am) hx hb hK 1 (tm_one hM 4 rfl) rfl hi8 (by decide) ⟨4, by decide, rfl⟩ hL d_M_constituent_93 (fun H1 locs1 hP1 hz1 hq1 hL => ?_)
        rw [up_lN] at hP1
        have hM : tm D ci am (ts_pha (ts_spd (ts_amp g i a) i sp) i ph) (nI 0) fo sz hs mi hi tx H1 := tm_set hD hM 4 (by decide) rfl hP1 (fun j hj => by rcases j with _ | _ | _ | _ | _ | _ | _ | _ | _ | _ | _ | j <;> first | rfl | exact absurd rfl hj) hq1
        have hO := hO.tr (mO.put (k := 4) (by decide) hz1 hq1)
        exact W.vret hx hb hr (fun t ht hW => ⟨_, rfl, rfl, by rw [ht]; exact hM, by rw [ht]; exact hO⟩) hL d_M_constituent_94
      · have q3 := iv_eq0.mp q3
        rw [nI_toInt (n := 0) (by decide)] at q3
        refine lv_iconst hx hb d_M_constituent_56 (v := (nI 2)) rfl ?_
        refine lv_goto hx hb d_M_constituent_57 (tgt := 61) (by decide) ?_
        exfalso
        omega
    · have q2 := zb_f q2
      refine lv_iconst hx hb d_M_constituent_47 (v := (nI 1)) rfl ?_
      refine lv_goto hx hb d_M_constituent_48 (tgt := 61) (by decide) ?_
      exfalso
      omega
  · have q1 := mt iv_lt0.mpr q1
    refine lv_iload_n hx hb d_M_constituent_4 rfl (lv_at hl 2 rfl) ?_
    refine lv_ldc hx hb (v := (nI 100000)) hown (hts _ (hT _ k_M_54)) d_M_constituent_5 ?_
    refine lv_icmp_gt hx hb d_M_constituent_7 (tgt := 36) (by decide) (fun q2 => ?_) (fun q2 => ?_)
    · have q2 := Int32.lt_iff_toInt_lt.mp q2
      rw [nI_toInt (n := 100000) (by decide)] at q2
      refine lv_iconst hx hb d_M_constituent_36 (v := (nI 0)) rfl ?_
      refine lv_istore hx hb d_M_constituent_37 hl (by decide) (lv' := [(7, .int (nI 0)), (0, .ref (am 0)), (1, .int (nI i)), (2, .int (nI a)), (3, .long (lN sp)), (5, .long (lN ph))]) rfl (fun ls hl => ?_)
      refine lv_aload_n hx hb d_M_constituent_39 rfl (lv_at hl 1 rfl) ?_
      refine lv_iload_n hx hb d_M_constituent_40 rfl (lv_at hl 2 rfl) ?_
      refine tq_S ⟨hx, hb, hml, hown, hts⟩ hT (c_M_isOne l (nI i)) lk_M_61 wN_mv trivial rfl hl.1 rfl (Nat.le_of_ble_eq_true rfl) d_M_constituent_41 ⟨rfl, rfl, Nat.le_of_ble_eq_true rfl, Nat.le_of_ble_eq_true rfl⟩ ⟨Nat.zero_le _, Nat.zero_le _⟩ ?_
      refine lv_if_ne hx hb d_M_constituent_44 (tgt := 51) (by decide) (fun q3 => ?_) (fun q3 => ?_)
      · have q3 := zb_t q3
        refine lv_iload hx hb d_M_constituent_51 (lv_at hl 0 rfl) ?_
        refine lv_if_ne hx hb d_M_constituent_53 (tgt := 60) (by decide) (fun q4 => ?_) (fun q4 => ?_)
        · have q4 := mt iv_eq0.mpr q4
          rw [nI_toInt (n := 0) (by decide)] at q4
          refine lv_iconst hx hb d_M_constituent_60 (v := (nI 0)) rfl ?_
          refine tq_put (F := mF am) hx hb hts (fun w h => hT w (uM_in w h)) tM tM_ok nM hown hK (tm_one hM 0 rfl) (ci := 1) rfl 0 (by decide) (hts _ (hT _ k_M_43)) (fun _ h => h) rfl (ty := .int) rfl rfl rfl (Nat.le_of_ble_eq_true rfl) ⟨0, by decide, rfl⟩ hL d_M_constituent_61 (fun H1 locs1 hP1 hz1 hq1 hL => ?_)
          have hM : tm D ci am g (nI 0) fo sz hs mi hi tx H1 := tm_set hD hM 0 (by decide) rfl hP1 (fun j hj => by rcases j with _ | _ | _ | _ | _ | _ | _ | _ | _ | _ | _ | j <;> first | rfl | exact absurd rfl hj) hq1
          have hO := hO.tr (mO.put (k := 0) (by decide) hz1 hq1)
          refine lv_aload_n hx hb d_M_constituent_64 rfl (lv_at hl 1 rfl) ?_
          refine va_get hx hb hts (fun w h => hT w (uM_in w h)) hown hK hM 0 rfl rfl 0 (by decide) (hts _ (hT _ k_M_43)) (fun _ h => h) rfl d_M_constituent_65 ?_
          refine lv_if_eq hx hb d_M_constituent_68 (tgt := 72) (by decide) (fun _ => ?_) (fun hno => absurd (by decide) hno)
          refine lv_aload_n hx hb d_M_constituent_72 rfl (lv_at hl 1 rfl) ?_
          refine va_get hx hb hts (fun w h => hT w (uM_in w h)) hown hK hM 0 rfl rfl 3 (by decide) (hts _ (hT _ k_M_13)) (fun _ h => h) rfl d_M_constituent_73 ?_
          refine lv_iload_n hx hb d_M_constituent_76 rfl (lv_at hl 2 rfl) ?_
          refine lv_iload_n hx hb d_M_constituent_77 rfl (lv_at hl 3 rfl) ?_
          refine tq_iast (F := mF am) hx hb hK 0 (tm_one hM 2 rfl) rfl hi8 (by decide) ⟨2, by decide, rfl⟩ hL d_M_constituent_78 (fun H1 locs1 hP1 hz1 hq1 hL => ?_)
          rw [up_nI] at hP1
          have hM : tm D ci am (ts_amp g i a) (nI 0) fo sz hs mi hi tx H1 := tm_set hD hM 2 (by decide) rfl hP1 (fun j hj => by rcases j with _ | _ | _ | _ | _ | _ | _ | _ | _ | _ | _ | j <;> first | rfl | exact absurd rfl hj) hq1
          have hO := hO.tr (mO.put (k := 2) (by decide) hz1 hq1)
          refine lv_aload_n hx hb d_M_constituent_79 rfl (lv_at hl 1 rfl) ?_
          refine va_get hx hb hts (fun w h => hT w (uM_in w h)) hown hK hM 0 rfl rfl 4 (by decide) (hts _ (hT _ k_M_16)) (fun _ h => h) rfl d_M_constituent_80 ?_
          refine lv_iload_n hx hb d_M_constituent_83 rfl (lv_at hl 2 rfl) ?_
          refine lv_lload_n hx hb d_M_constituent_84 rfl (lv_at hl 4 rfl) ?_
          refine tq_last (F := mF am) hx hb hK 1 (tm_one hM 3 rfl) rfl hi8 (by decide) ⟨3, by decide, rfl⟩ hL d_M_constituent_85 (fun H1 locs1 hP1 hz1 hq1 hL => ?_)
          rw [up_lN] at hP1
          have hM : tm D ci am (ts_spd (ts_amp g i a) i sp) (nI 0) fo sz hs mi hi tx H1 := tm_set hD hM 3 (by decide) rfl hP1 (fun j hj => by rcases j with _ | _ | _ | _ | _ | _ | _ | _ | _ | _ | _ | j <;> first | rfl | exact absurd rfl hj) hq1
          have hO := hO.tr (mO.put (k := 3) (by decide) hz1 hq1)
          refine lv_aload_n hx hb d_M_constituent_86 rfl (lv_at hl 1 rfl) ?_
          refine va_get hx hb hts (fun w h => hT w (uM_in w h)) hown hK hM 0 rfl rfl 5 (by decide) (hts _ (hT _ k_M_20)) (fun _ h => h) rfl d_M_constituent_87 ?_
          refine lv_iload_n hx hb d_M_constituent_90 rfl (lv_at hl 2 rfl) ?_
          refine lv_lload hx hb d_M_constituent_91 (lv_at hl 5 rfl) ?_
          refine tq_last (F := mF am) hx hb hK 1 (tm_one hM 4 rfl) rfl hi8 (by decide) ⟨4, by decide, rfl⟩ hL d_M_constituent_93 (fun H1 locs1 hP1 hz1 hq1 hL => ?_)
          rw [up_lN] at hP1
          have hM : tm D ci am (ts_pha (ts_spd (ts_amp g i a) i sp) i ph) (nI 0) fo sz hs mi hi tx H1 := tm_set hD hM 4 (by decide) rfl hP1 (fun j hj => by rcases j with _ | _ | _ | _ | _ | _ | _ | _ | _ | _ | _ | j <;> first | rfl | exact absurd rfl hj) hq1
          have hO := hO.tr (mO.put (k := 4) (by decide) hz1 hq1)
          exact W.vret hx hb hr (fun t ht hW => ⟨_, rfl, rfl, by rw [ht]; exact hM, by rw [ht]; exact hO⟩) hL d_M_constituent_94
        · have q4 := iv_eq0.mp q4
          rw [nI_toInt (n := 0) (by decide)] at q4
          refine lv_iconst hx hb d_M_constituent_56 (v := (nI 2)) rfl ?_
          refine lv_goto hx hb d_M_constituent_57 (tgt := 61) (by decide) ?_
          exfalso
          omega
      · have q3 := zb_f q3
        refine lv_iconst hx hb d_M_constituent_47 (v := (nI 1)) rfl ?_
        refine lv_goto hx hb d_M_constituent_48 (tgt := 61) (by decide) ?_
        exfalso
        omega
    · have q2 := mt Int32.lt_iff_toInt_lt.mpr q2
      rw [nI_toInt (n := 100000) (by decide)] at q2
      refine lv_lload_n hx hb d_M_constituent_10 rfl (lv_at hl 3 rfl) ?_
      refine lv_lconst hx hb d_M_constituent_11 (v := (lN 0)) rfl ?_
      refine W.lcmp hx hb d_M_constituent_12 ?_
      refine lv_if_lt hx hb d_M_constituent_13 (tgt := 36) (by decide) (fun q3 => ?_) (fun q3 => ?_)
      · have q3 := ((lg_cmp_lt _ _).trans Int64.lt_iff_toInt_lt).mp q3
        rw [pk_lT (n := 0) (by decide)] at q3
        refine lv_iconst hx hb d_M_constituent_36 (v := (nI 0)) rfl ?_
        refine lv_istore hx hb d_M_constituent_37 hl (by decide) (lv' := [(7, .int (nI 0)), (0, .ref (am 0)), (1, .int (nI i)), (2, .int (nI a)), (3, .long (lN sp)), (5, .long (lN ph))]) rfl (fun ls hl => ?_)
        refine lv_aload_n hx hb d_M_constituent_39 rfl (lv_at hl 1 rfl) ?_
        refine lv_iload_n hx hb d_M_constituent_40 rfl (lv_at hl 2 rfl) ?_
        refine tq_S ⟨hx, hb, hml, hown, hts⟩ hT (c_M_isOne l (nI i)) lk_M_61 wN_mv trivial rfl hl.1 rfl (Nat.le_of_ble_eq_true rfl) d_M_constituent_41 ⟨rfl, rfl, Nat.le_of_ble_eq_true rfl, Nat.le_of_ble_eq_true rfl⟩ ⟨Nat.zero_le _, Nat.zero_le _⟩ ?_
        refine lv_if_ne hx hb d_M_constituent_44 (tgt := 51) (by decide) (fun q4 => ?_) (fun q4 => ?_)
        · have q4 := zb_t q4
          refine lv_iload hx hb d_M_constituent_51 (lv_at hl 0 rfl) ?_
          refine lv_if_ne hx hb d_M_constituent_53 (tgt := 60) (by decide) (fun q5 => ?_) (fun q5 => ?_)
          · have q5 := mt iv_eq0.mpr q5
            rw [nI_toInt (n := 0) (by decide)] at q5
            refine lv_iconst hx hb d_M_constituent_60 (v := (nI 0)) rfl ?_
            refine tq_put (F := mF am) hx hb hts (fun w h => hT w (uM_in w h)) tM tM_ok nM hown hK (tm_one hM 0 rfl) (ci := 1) rfl 0 (by decide) (hts _ (hT _ k_M_43)) (fun _ h => h) rfl (ty := .int) rfl rfl rfl (Nat.le_of_ble_eq_true rfl) ⟨0, by decide, rfl⟩ hL d_M_constituent_61 (fun H1 locs1 hP1 hz1 hq1 hL => ?_)
            have hM : tm D ci am g (nI 0) fo sz hs mi hi tx H1 := tm_set hD hM 0 (by decide) rfl hP1 (fun j hj => by rcases j with _ | _ | _ | _ | _ | _ | _ | _ | _ | _ | _ | j <;> first | rfl | exact absurd rfl hj) hq1
            have hO := hO.tr (mO.put (k := 0) (by decide) hz1 hq1)
            refine lv_aload_n hx hb d_M_constituent_64 rfl (lv_at hl 1 rfl) ?_
            refine va_get hx hb hts (fun w h => hT w (uM_in w h)) hown hK hM 0 rfl rfl 0 (by decide) (hts _ (hT _ k_M_43)) (fun _ h => h) rfl d_M_constituent_65 ?_
            refine lv_if_eq hx hb d_M_constituent_68 (tgt := 72) (by decide) (fun _ => ?_) (fun hno => absurd (by decide) hno)
            refine lv_aload_n hx hb d_M_constituent_72 rfl (lv_at hl 1 rfl) ?_
            refine va_get hx hb hts (fun w h => hT w (uM_in w h)) hown hK hM 0 rfl rfl 3 (by decide) (hts _ (hT _ k_M_13)) (fun _ h => h) rfl d_M_constituent_73 ?_
            refine lv_iload_n hx hb d_M_constituent_76 rfl (lv_at hl 2 rfl) ?_
            refine lv_iload_n hx hb d_M_constituent_77 rfl (lv_at hl 3 rfl) ?_
            refine tq_iast (F := mF am) hx hb hK 0 (tm_one hM 2 rfl) rfl hi8 (by decide) ⟨2, by decide, rfl⟩ hL d_M_constituent_78 (fun H1 locs1 hP1 hz1 hq1 hL => ?_)
            rw [up_nI] at hP1
            have hM : tm D ci am (ts_amp g i a) (nI 0) fo sz hs mi hi tx H1 := tm_set hD hM 2 (by decide) rfl hP1 (fun j hj => by rcases j with _ | _ | _ | _ | _ | _ | _ | _ | _ | _ | _ | j <;> first | rfl | exact absurd rfl hj) hq1
            have hO := hO.tr (mO.put (k := 2) (by decide) hz1 hq1)
            refine lv_aload_n hx hb d_M_constituent_79 rfl (lv_at hl 1 rfl) ?_
            refine va_get hx hb hts (fun w h => hT w (uM_in w h)) hown hK hM 0 rfl rfl 4 (by decide) (hts _ (hT _ k_M_16)) (fun _ h => h) rfl d_M_constituent_80 ?_
            refine lv_iload_n hx hb d_M_constituent_83 rfl (lv_at hl 2 rfl) ?_
            refine lv_lload_n hx hb d_M_constituent_84 rfl (lv_at hl 4 rfl) ?_
            refine tq_last (F := mF am) hx hb hK 1 (tm_one hM 3 rfl) rfl hi8 (by decide) ⟨3, by decide, rfl⟩ hL d_M_constituent_85 (fun H1 locs1 hP1 hz1 hq1 hL => ?_)
            rw [up_lN] at hP1
            have hM : tm D ci am (ts_spd (ts_amp g i a) i sp) (nI 0) fo sz hs mi hi tx H1 := tm_set hD hM 3 (by decide) rfl hP1 (fun j hj => by rcases j with _ | _ | _ | _ | _ | _ | _ | _ | _ | _ | _ | j <;> first | rfl | exact absurd rfl hj) hq1
            have hO := hO.tr (mO.put (k := 3) (by decide) hz1 hq1)
            refine lv_aload_n hx hb d_M_constituent_86 rfl (lv_at hl 1 rfl) ?_
            refine va_get hx hb hts (fun w h => hT w (uM_in w h)) hown hK hM 0 rfl rfl 5 (by decide) (hts _ (hT _ k_M_20)) (fun _ h => h) rfl d_M_constituent_87 ?_
            refine lv_iload_n hx hb d_M_constituent_90 rfl (lv_at hl 2 rfl) ?_
            refine lv_lload hx hb d_M_constituent_91 (lv_at hl 5 rfl) ?_
            refine tq_last (F := mF am) hx hb hK 1 (tm_one hM 4 rfl) rfl hi8 (by decide) ⟨4, by decide, rfl⟩ hL d_M_constituent_93 (fun H1 locs1 hP1 hz1 hq1 hL => ?_)
            rw [up_lN] at hP1
            have hM : tm D ci am (ts_pha (ts_spd (ts_amp g i a) i sp) i ph) (nI 0) fo sz hs mi hi tx H1 := tm_set hD hM 4 (by decide) rfl hP1 (fun j hj => by rcases j with _ | _ | _ | _ | _ | _ | _ | _ | _ | _ | _ | j <;> first | rfl | exact absurd rfl hj) hq1
            have hO := hO.tr (mO.put (k := 4) (by decide) hz1 hq1)
            exact W.vret hx hb hr (fun t ht hW => ⟨_, rfl, rfl, by rw [ht]; exact hM, by rw [ht]; exact hO⟩) hL d_M_constituent_94
          · have q5 := iv_eq0.mp q5
            rw [nI_toInt (n := 0) (by decide)] at q5
            refine lv_iconst hx hb d_M_constituent_56 (v := (nI 2)) rfl ?_
            refine lv_goto hx hb d_M_constituent_57 (tgt := 61) (by decide) ?_
            exfalso
            omega
        · have q4 := zb_f q4
          refine lv_iconst hx hb d_M_constituent_47 (v := (nI 1)) rfl ?_
          refine lv_goto hx hb d_M_constituent_48 (tgt := 61) (by decide) ?_
          exfalso
          omega
      · have q3 := mt ((lg_cmp_lt _ _).trans Int64.lt_iff_toInt_lt).mpr q3
        rw [pk_lT (n := 0) (by decide)] at q3
        refine lv_lload_n hx hb d_M_constituent_16 rfl (lv_at hl 3 rfl) ?_
        refine lv_ldc2 hx hb (v := (lN 1099511627776)) hown (hts _ (hT _ k_M_55)) d_M_constituent_17 ?_
        refine W.lcmp hx hb d_M_constituent_20 ?_
        refine lv_if_ge hx hb d_M_constituent_21 (tgt := 36) (by decide) (fun q4 => ?_) (fun q4 => ?_)
        · have q4 := ((lg_cmp_ge _ _).trans Int64.le_iff_toInt_le).mp q4
          rw [pk_lT (n := 1099511627776) (by decide)] at q4
          refine lv_iconst hx hb d_M_constituent_36 (v := (nI 0)) rfl ?_
          refine lv_istore hx hb d_M_constituent_37 hl (by decide) (lv' := [(7, .int (nI 0)), (0, .ref (am 0)), (1, .int (nI i)), (2, .int (nI a)), (3, .long (lN sp)), (5, .long (lN ph))]) rfl (fun ls hl => ?_)
          refine lv_aload_n hx hb d_M_constituent_39 rfl (lv_at hl 1 rfl) ?_
          refine lv_iload_n hx hb d_M_constituent_40 rfl (lv_at hl 2 rfl) ?_
          refine tq_S ⟨hx, hb, hml, hown, hts⟩ hT (c_M_isOne l (nI i)) lk_M_61 wN_mv trivial rfl hl.1 rfl (Nat.le_of_ble_eq_true rfl) d_M_constituent_41 ⟨rfl, rfl, Nat.le_of_ble_eq_true rfl, Nat.le_of_ble_eq_true rfl⟩ ⟨Nat.zero_le _, Nat.zero_le _⟩ ?_
          refine lv_if_ne hx hb d_M_constituent_44 (tgt := 51) (by decide) (fun q5 => ?_) (fun q5 => ?_)
          · have q5 := zb_t q5
            refine lv_iload hx hb d_M_constituent_51 (lv_at hl 0 rfl) ?_
            refine lv_if_ne hx hb d_M_constituent_53 (tgt := 60) (by decide) (fun q6 => ?_) (fun q6 => ?_)
            · have q6 := mt iv_eq0.mpr q6
              rw [nI_toInt (n := 0) (by decide)] at q6
              refine lv_iconst hx hb d_M_constituent_60 (v := (nI 0)) rfl ?_
              refine tq_put (F := mF am) hx hb hts (fun w h => hT w (uM_in w h)) tM tM_ok nM hown hK (tm_one hM 0 rfl) (ci := 1) rfl 0 (by decide) (hts _ (hT _ k_M_43)) (fun _ h => h) rfl (ty := .int) rfl rfl rfl (Nat.le_of_ble_eq_true rfl) ⟨0, by decide, rfl⟩ hL d_M_constituent_61 (fun H1 locs1 hP1 hz1 hq1 hL => ?_)
              have hM : tm D ci am g (nI 0) fo sz hs mi hi tx H1 := tm_set hD hM 0 (by decide) rfl hP1 (fun j hj => by rcases j with _ | _ | _ | _ | _ | _ | _ | _ | _ | _ | _ | j <;> first | rfl | exact absurd rfl hj) hq1
              have hO := hO.tr (mO.put (k := 0) (by decide) hz1 hq1)
              refine lv_aload_n hx hb d_M_constituent_64 rfl (lv_at hl 1 rfl) ?_
              refine va_get hx hb hts (fun w h => hT w (uM_in w h)) hown hK hM 0 rfl rfl 0 (by decide) (hts _ (hT _ k_M_43)) (fun _ h => h) rfl d_M_constituent_65 ?_
              refine lv_if_eq hx hb d_M_constituent_68 (tgt := 72) (by decide) (fun _ => ?_) (fun hno => absurd (by decide) hno)
              refine lv_aload_n hx hb d_M_constituent_72 rfl (lv_at hl 1 rfl) ?_
              refine va_get hx hb hts (fun w h => hT w (uM_in w h)) hown hK hM 0 rfl rfl 3 (by decide) (hts _ (hT _ k_M_13)) (fun _ h => h) rfl d_M_constituent_73 ?_
              refine lv_iload_n hx hb d_M_constituent_76 rfl (lv_at hl 2 rfl) ?_
              refine lv_iload_n hx hb d_M_constituent_77 rfl (lv_at hl 3 rfl) ?_
              refine tq_iast (F := mF am) hx hb hK 0 (tm_one hM 2 rfl) rfl hi8 (by decide) ⟨2, by decide, rfl⟩ hL d_M_constituent_78 (fun H1 locs1 hP1 hz1 hq1 hL => ?_)
              rw [up_nI] at hP1
              have hM : tm D ci am (ts_amp g i a) (nI 0) fo sz hs mi hi tx H1 := tm_set hD hM 2 (by decide) rfl hP1 (fun j hj => by rcases j with _ | _ | _ | _ | _ | _ | _ | _ | _ | _ | _ | j <;> first | rfl | exact absurd rfl hj) hq1
              have hO := hO.tr (mO.put (k := 2) (by decide) hz1 hq1)
              refine lv_aload_n hx hb d_M_constituent_79 rfl (lv_at hl 1 rfl) ?_
              refine va_get hx hb hts (fun w h => hT w (uM_in w h)) hown hK hM 0 rfl rfl 4 (by decide) (hts _ (hT _ k_M_16)) (fun _ h => h) rfl d_M_constituent_80 ?_
              refine lv_iload_n hx hb d_M_constituent_83 rfl (lv_at hl 2 rfl) ?_
              refine lv_lload_n hx hb d_M_constituent_84 rfl (lv_at hl 4 rfl) ?_
              refine tq_last (F := mF am) hx hb hK 1 (tm_one hM 3 rfl) rfl hi8 (by decide) ⟨3, by decide, rfl⟩ hL d_M_constituent_85 (fun H1 locs1 hP1 hz1 hq1 hL => ?_)
              rw [up_lN] at hP1
              have hM : tm D ci am (ts_spd (ts_amp g i a) i sp) (nI 0) fo sz hs mi hi tx H1 := tm_set hD hM 3 (by decide) rfl hP1 (fun j hj => by rcases j with _ | _ | _ | _ | _ | _ | _ | _ | _ | _ | _ | j <;> first | rfl | exact absurd rfl hj) hq1
              have hO := hO.tr (mO.put (k := 3) (by decide) hz1 hq1)
              refine lv_aload_n hx hb d_M_constituent_86 rfl (lv_at hl 1 rfl) ?_
              refine va_get hx hb hts (fun w h => hT w (uM_in w h)) hown hK hM 0 rfl rfl 5 (by decide) (hts _ (hT _ k_M_20)) (fun _ h => h) rfl d_M_constituent_87 ?_
              refine lv_iload_n hx hb d_M_constituent_90 rfl (lv_at hl 2 rfl) ?_
              refine lv_lload hx hb d_M_constituent_91 (lv_at hl 5 rfl) ?_
              refine tq_last (F := mF am) hx hb hK 1 (tm_one hM 4 rfl) rfl hi8 (by decide) ⟨4, by decide, rfl⟩ hL d_M_constituent_93 (fun H1 locs1 hP1 hz1 hq1 hL => ?_)
              rw [up_lN] at hP1
              have hM : tm D ci am (ts_pha (ts_spd (ts_amp g i a) i sp) i ph) (nI 0) fo sz hs mi hi tx H1 := tm_set hD hM 4 (by decide) rfl hP1 (fun j hj => by rcases j with _ | _ | _ | _ | _ | _ | _ | _ | _ | _ | _ | j <;> first | rfl | exact absurd rfl hj) hq1
              have hO := hO.tr (mO.put (k := 4) (by decide) hz1 hq1)
              exact W.vret hx hb hr (fun t ht hW => ⟨_, rfl, rfl, by rw [ht]; exact hM, by rw [ht]; exact hO⟩) hL d_M_constituent_94
            · have q6 := iv_eq0.mp q6
              rw [nI_toInt (n := 0) (by decide)] at q6
              refine lv_iconst hx hb d_M_constituent_56 (v := (nI 2)) rfl ?_
              refine lv_goto hx hb d_M_constituent_57 (tgt := 61) (by decide) ?_
              exfalso
              omega
          · have q5 := zb_f q5
            refine lv_iconst hx hb d_M_constituent_47 (v := (nI 1)) rfl ?_
            refine lv_goto hx hb d_M_constituent_48 (tgt := 61) (by decide) ?_
            exfalso
            omega
        · have q4 := mt ((lg_cmp_ge _ _).trans Int64.le_iff_toInt_le).mpr q4
          rw [pk_lT (n := 1099511627776) (by decide)] at q4
          refine lv_lload hx hb d_M_constituent_24 (lv_at hl 4 rfl) ?_
          refine tq_S ⟨hx, hb, hml, hown, hts⟩ hT (c_M_isTurn l (lN ph)) lk_M_57 wN_mv trivial rfl hl.1 rfl (Nat.le_of_ble_eq_true rfl) d_M_constituent_26 ⟨rfl, rfl, Nat.le_of_ble_eq_true rfl, Nat.le_of_ble_eq_true rfl⟩ ⟨Nat.zero_le _, Nat.zero_le _⟩ ?_
          refine lv_if_eq hx hb d_M_constituent_29 (tgt := 36) (by decide) (fun q5 => ?_) (fun q5 => ?_)
          · have q5 := zb_f q5
            refine lv_iconst hx hb d_M_constituent_36 (v := (nI 0)) rfl ?_
            refine lv_istore hx hb d_M_constituent_37 hl (by decide) (lv' := [(7, .int (nI 0)), (0, .ref (am 0)), (1, .int (nI i)), (2, .int (nI a)), (3, .long (lN sp)), (5, .long (lN ph))]) rfl (fun ls hl => ?_)
            refine lv_aload_n hx hb d_M_constituent_39 rfl (lv_at hl 1 rfl) ?_
            refine lv_iload_n hx hb d_M_constituent_40 rfl (lv_at hl 2 rfl) ?_
            refine tq_S ⟨hx, hb, hml, hown, hts⟩ hT (c_M_isOne l (nI i)) lk_M_61 wN_mv trivial rfl hl.1 rfl (Nat.le_of_ble_eq_true rfl) d_M_constituent_41 ⟨rfl, rfl, Nat.le_of_ble_eq_true rfl, Nat.le_of_ble_eq_true rfl⟩ ⟨Nat.zero_le _, Nat.zero_le _⟩ ?_
            refine lv_if_ne hx hb d_M_constituent_44 (tgt := 51) (by decide) (fun q6 => ?_) (fun q6 => ?_)
            · have q6 := zb_t q6
              refine lv_iload hx hb d_M_constituent_51 (lv_at hl 0 rfl) ?_
              refine lv_if_ne hx hb d_M_constituent_53 (tgt := 60) (by decide) (fun q7 => ?_) (fun q7 => ?_)
              · have q7 := mt iv_eq0.mpr q7
                rw [nI_toInt (n := 0) (by decide)] at q7
                refine lv_iconst hx hb d_M_constituent_60 (v := (nI 0)) rfl ?_
                refine tq_put (F := mF am) hx hb hts (fun w h => hT w (uM_in w h)) tM tM_ok nM hown hK (tm_one hM 0 rfl) (ci := 1) rfl 0 (by decide) (hts _ (hT _ k_M_43)) (fun _ h => h) rfl (ty := .int) rfl rfl rfl (Nat.le_of_ble_eq_true rfl) ⟨0, by decide, rfl⟩ hL d_M_constituent_61 (fun H1 locs1 hP1 hz1 hq1 hL => ?_)
                have hM : tm D ci am g (nI 0) fo sz hs mi hi tx H1 := tm_set hD hM 0 (by decide) rfl hP1 (fun j hj => by rcases j with _ | _ | _ | _ | _ | _ | _ | _ | _ | _ | _ | j <;> first | rfl | exact absurd rfl hj) hq1
                have hO := hO.tr (mO.put (k := 0) (by decide) hz1 hq1)
                refine lv_aload_n hx hb d_M_constituent_64 rfl (lv_at hl 1 rfl) ?_
                refine va_get hx hb hts (fun w h => hT w (uM_in w h)) hown hK hM 0 rfl rfl 0 (by decide) (hts _ (hT _ k_M_43)) (fun _ h => h) rfl d_M_constituent_65 ?_
                refine lv_if_eq hx hb d_M_constituent_68 (tgt := 72) (by decide) (fun _ => ?_) (fun hno => absurd (by decide) hno)
                refine lv_aload_n hx hb d_M_constituent_72 rfl (lv_at hl 1 rfl) ?_
                refine va_get hx hb hts (fun w h => hT w (uM_in w h)) hown hK hM 0 rfl rfl 3 (by decide) (hts _ (hT _ k_M_13)) (fun _ h => h) rfl d_M_constituent_73 ?_
                refine lv_iload_n hx hb d_M_constituent_76 rfl (lv_at hl 2 rfl) ?_
                refine lv_iload_n hx hb d_M_constituent_77 rfl (lv_at hl 3 rfl) ?_
                refine tq_iast (F := mF am) hx hb hK 0 (tm_one hM 2 rfl) rfl hi8 (by decide) ⟨2, by decide, rfl⟩ hL d_M_constituent_78 (fun H1 locs1 hP1 hz1 hq1 hL => ?_)
                rw [up_nI] at hP1
                have hM : tm D ci am (ts_amp g i a) (nI 0) fo sz hs mi hi tx H1 := tm_set hD hM 2 (by decide) rfl hP1 (fun j hj => by rcases j with _ | _ | _ | _ | _ | _ | _ | _ | _ | _ | _ | j <;> first | rfl | exact absurd rfl hj) hq1
                have hO := hO.tr (mO.put (k := 2) (by decide) hz1 hq1)
                refine lv_aload_n hx hb d_M_constituent_79 rfl (lv_at hl 1 rfl) ?_
                refine va_get hx hb hts (fun w h => hT w (uM_in w h)) hown hK hM 0 rfl rfl 4 (by decide) (hts _ (hT _ k_M_16)) (fun _ h => h) rfl d_M_constituent_80 ?_
                refine lv_iload_n hx hb d_M_constituent_83 rfl (lv_at hl 2 rfl) ?_
                refine lv_lload_n hx hb d_M_constituent_84 rfl (lv_at hl 4 rfl) ?_
                refine tq_last (F := mF am) hx hb hK 1 (tm_one hM 3 rfl) rfl hi8 (by decide) ⟨3, by decide, rfl⟩ hL d_M_constituent_85 (fun H1 locs1 hP1 hz1 hq1 hL => ?_)
                rw [up_lN] at hP1
                have hM : tm D ci am (ts_spd (ts_amp g i a) i sp) (nI 0) fo sz hs mi hi tx H1 := tm_set hD hM 3 (by decide) rfl hP1 (fun j hj => by rcases j with _ | _ | _ | _ | _ | _ | _ | _ | _ | _ | _ | j <;> first | rfl | exact absurd rfl hj) hq1
                have hO := hO.tr (mO.put (k := 3) (by decide) hz1 hq1)
                refine lv_aload_n hx hb d_M_constituent_86 rfl (lv_at hl 1 rfl) ?_
                refine va_get hx hb hts (fun w h => hT w (uM_in w h)) hown hK hM 0 rfl rfl 5 (by decide) (hts _ (hT _ k_M_20)) (fun _ h => h) rfl d_M_constituent_87 ?_
                refine lv_iload_n hx hb d_M_constituent_90 rfl (lv_at hl 2 rfl) ?_
                refine lv_lload hx hb d_M_constituent_91 (lv_at hl 5 rfl) ?_
                refine tq_last (F := mF am) hx hb hK 1 (tm_one hM 4 rfl) rfl hi8 (by decide) ⟨4, by decide, rfl⟩ hL d_M_constituent_93 (fun H1 locs1 hP1 hz1 hq1 hL => ?_)
                rw [up_lN] at hP1
                have hM : tm D ci am (ts_pha (ts_spd (ts_amp g i a) i sp) i ph) (nI 0) fo sz hs mi hi tx H1 := tm_set hD hM 4 (by decide) rfl hP1 (fun j hj => by rcases j with _ | _ | _ | _ | _ | _ | _ | _ | _ | _ | _ | j <;> first | rfl | exact absurd rfl hj) hq1
                have hO := hO.tr (mO.put (k := 4) (by decide) hz1 hq1)
                exact W.vret hx hb hr (fun t ht hW => ⟨_, rfl, rfl, by rw [ht]; exact hM, by rw [ht]; exact hO⟩) hL d_M_constituent_94
              · have q7 := iv_eq0.mp q7
                rw [nI_toInt (n := 0) (by decide)] at q7
                refine lv_iconst hx hb d_M_constituent_56 (v := (nI 2)) rfl ?_
                refine lv_goto hx hb d_M_constituent_57 (tgt := 61) (by decide) ?_
                exfalso
                omega
            · have q6 := zb_f q6
              refine lv_iconst hx hb d_M_constituent_47 (v := (nI 1)) rfl ?_
              refine lv_goto hx hb d_M_constituent_48 (tgt := 61) (by decide) ?_
              exfalso
              omega
          · have q5 := zb_t q5
            refine lv_iconst hx hb d_M_constituent_32 (v := (nI 1)) rfl ?_
            refine lv_goto hx hb d_M_constituent_33 (tgt := 37) (by decide) ?_
            refine lv_istore hx hb d_M_constituent_37 hl (by decide) (lv' := [(7, .int (nI 1)), (0, .ref (am 0)), (1, .int (nI i)), (2, .int (nI a)), (3, .long (lN sp)), (5, .long (lN ph))]) rfl (fun ls hl => ?_)
            refine lv_aload_n hx hb d_M_constituent_39 rfl (lv_at hl 1 rfl) ?_
            refine lv_iload_n hx hb d_M_constituent_40 rfl (lv_at hl 2 rfl) ?_
            refine tq_S ⟨hx, hb, hml, hown, hts⟩ hT (c_M_isOne l (nI i)) lk_M_61 wN_mv trivial rfl hl.1 rfl (Nat.le_of_ble_eq_true rfl) d_M_constituent_41 ⟨rfl, rfl, Nat.le_of_ble_eq_true rfl, Nat.le_of_ble_eq_true rfl⟩ ⟨Nat.zero_le _, Nat.zero_le _⟩ ?_
            refine lv_if_ne hx hb d_M_constituent_44 (tgt := 51) (by decide) (fun q6 => ?_) (fun q6 => ?_)
            · have q6 := zb_t q6
              refine lv_iload hx hb d_M_constituent_51 (lv_at hl 0 rfl) ?_
              refine lv_if_ne hx hb d_M_constituent_53 (tgt := 60) (by decide) (fun q7 => ?_) (fun q7 => ?_)
              · have q7 := mt iv_eq0.mpr q7
                rw [nI_toInt (n := 1) (by decide)] at q7
                refine lv_iconst hx hb d_M_constituent_60 (v := (nI 0)) rfl ?_
                refine tq_put (F := mF am) hx hb hts (fun w h => hT w (uM_in w h)) tM tM_ok nM hown hK (tm_one hM 0 rfl) (ci := 1) rfl 0 (by decide) (hts _ (hT _ k_M_43)) (fun _ h => h) rfl (ty := .int) rfl rfl rfl (Nat.le_of_ble_eq_true rfl) ⟨0, by decide, rfl⟩ hL d_M_constituent_61 (fun H1 locs1 hP1 hz1 hq1 hL => ?_)
                have hM : tm D ci am g (nI 0) fo sz hs mi hi tx H1 := tm_set hD hM 0 (by decide) rfl hP1 (fun j hj => by rcases j with _ | _ | _ | _ | _ | _ | _ | _ | _ | _ | _ | j <;> first | rfl | exact absurd rfl hj) hq1
                have hO := hO.tr (mO.put (k := 0) (by decide) hz1 hq1)
                refine lv_aload_n hx hb d_M_constituent_64 rfl (lv_at hl 1 rfl) ?_
                refine va_get hx hb hts (fun w h => hT w (uM_in w h)) hown hK hM 0 rfl rfl 0 (by decide) (hts _ (hT _ k_M_43)) (fun _ h => h) rfl d_M_constituent_65 ?_
                refine lv_if_eq hx hb d_M_constituent_68 (tgt := 72) (by decide) (fun _ => ?_) (fun hno => absurd (by decide) hno)
                refine lv_aload_n hx hb d_M_constituent_72 rfl (lv_at hl 1 rfl) ?_
                refine va_get hx hb hts (fun w h => hT w (uM_in w h)) hown hK hM 0 rfl rfl 3 (by decide) (hts _ (hT _ k_M_13)) (fun _ h => h) rfl d_M_constituent_73 ?_
                refine lv_iload_n hx hb d_M_constituent_76 rfl (lv_at hl 2 rfl) ?_
                refine lv_iload_n hx hb d_M_constituent_77 rfl (lv_at hl 3 rfl) ?_
                refine tq_iast (F := mF am) hx hb hK 0 (tm_one hM 2 rfl) rfl hi8 (by decide) ⟨2, by decide, rfl⟩ hL d_M_constituent_78 (fun H1 locs1 hP1 hz1 hq1 hL => ?_)
                rw [up_nI] at hP1
                have hM : tm D ci am (ts_amp g i a) (nI 0) fo sz hs mi hi tx H1 := tm_set hD hM 2 (by decide) rfl hP1 (fun j hj => by rcases j with _ | _ | _ | _ | _ | _ | _ | _ | _ | _ | _ | j <;> first | rfl | exact absurd rfl hj) hq1
                have hO := hO.tr (mO.put (k := 2) (by decide) hz1 hq1)
                refine lv_aload_n hx hb d_M_constituent_79 rfl (lv_at hl 1 rfl) ?_
                refine va_get hx hb hts (fun w h => hT w (uM_in w h)) hown hK hM 0 rfl rfl 4 (by decide) (hts _ (hT _ k_M_16)) (fun _ h => h) rfl d_M_constituent_80 ?_
                refine lv_iload_n hx hb d_M_constituent_83 rfl (lv_at hl 2 rfl) ?_
                refine lv_lload_n hx hb d_M_constituent_84 rfl (lv_at hl 4 rfl) ?_
                refine tq_last (F := mF am) hx hb hK 1 (tm_one hM 3 rfl) rfl hi8 (by decide) ⟨3, by decide, rfl⟩ hL d_M_constituent_85 (fun H1 locs1 hP1 hz1 hq1 hL => ?_)
                rw [up_lN] at hP1
                have hM : tm D ci am (ts_spd (ts_amp g i a) i sp) (nI 0) fo sz hs mi hi tx H1 := tm_set hD hM 3 (by decide) rfl hP1 (fun j hj => by rcases j with _ | _ | _ | _ | _ | _ | _ | _ | _ | _ | _ | j <;> first | rfl | exact absurd rfl hj) hq1
                have hO := hO.tr (mO.put (k := 3) (by decide) hz1 hq1)
                refine lv_aload_n hx hb d_M_constituent_86 rfl (lv_at hl 1 rfl) ?_
                refine va_get hx hb hts (fun w h => hT w (uM_in w h)) hown hK hM 0 rfl rfl 5 (by decide) (hts _ (hT _ k_M_20)) (fun _ h => h) rfl d_M_constituent_87 ?_
                refine lv_iload_n hx hb d_M_constituent_90 rfl (lv_at hl 2 rfl) ?_
                refine lv_lload hx hb d_M_constituent_91 (lv_at hl 5 rfl) ?_
                refine tq_last (F := mF am) hx hb hK 1 (tm_one hM 4 rfl) rfl hi8 (by decide) ⟨4, by decide, rfl⟩ hL d_M_constituent_93 (fun H1 locs1 hP1 hz1 hq1 hL => ?_)
                rw [up_lN] at hP1
                have hM : tm D ci am (ts_pha (ts_spd (ts_amp g i a) i sp) i ph) (nI 0) fo sz hs mi hi tx H1 := tm_set hD hM 4 (by decide) rfl hP1 (fun j hj => by rcases j with _ | _ | _ | _ | _ | _ | _ | _ | _ | _ | _ | j <;> first | rfl | exact absurd rfl hj) hq1
                have hO := hO.tr (mO.put (k := 4) (by decide) hz1 hq1)
                exact W.vret hx hb hr (fun t ht hW => ⟨_, rfl, rfl, by rw [ht]; exact hM, by rw [ht]; exact hO⟩) hL d_M_constituent_94
              · have q7 := iv_eq0.mp q7
                rw [nI_toInt (n := 1) (by decide)] at q7
                refine lv_iconst hx hb d_M_constituent_56 (v := (nI 2)) rfl ?_
                refine lv_goto hx hb d_M_constituent_57 (tgt := 61) (by decide) ?_
                exfalso
                omega
            · have q6 := zb_f q6
              refine lv_iconst hx hb d_M_constituent_47 (v := (nI 1)) rfl ?_
              refine lv_goto hx hb d_M_constituent_48 (tgt := 61) (by decide) ?_
              exfalso
              omega
set_option maxHeartbeats 4000000 in
set_option maxRecDepth 100000 in
theorem x_M_constituentI (l : Launch) (D : va_G) (ci : Nat → ClassId) (am : Nat → Nat) (g : TS) (th fo sz : Int32) (hs mi hi tx : Nat → Int32) (u v : Int32) (x z : Int64) (hv0 : ¬ (0 ≤ u.toInt ∧ u.toInt < 8)) : Met l y_M_constituent (wT y_M_constituent b_M_constituent 8 none) (rP 1 21) (tb (wMD D ci am g th fo sz hs mi hi tx) [.ref (am 0), .int u, .int v, .long x, .long z]) (qM D ci am g (nI 1) fo sz hs mi hi tx (none)) 0 0 (mF am) := by
  refine Met.ofW (cc := b_M_constituent) (maxL := 8) (ret := none) (by decide) rfl ?_
  intro p e s m args below meth c s₁ B hml hv
  obtain ⟨rfl, hK, hg, hM, hD⟩ := hv
  have hx := B.exec
  have hb := B.bytes
  have hr := B.returns
  have hts := atoms_spec (ws := wT y_M_constituent b_M_constituent 8 none) B.pre
  have hT : ∀ w ∈ TT, w ∈ wT y_M_constituent b_M_constituent 8 none := wT_T
  have hown : s.vm.findClass RM = some m.cls := findClass_of_methodNamed B.named
  have hlocks := B.notSynchronized
  have hl := lv_entry ([.ref (am 0), .int u, .int v, .long x, .long z]) (n := 8) (Nat.le_of_ble_eq_true rfl)
  rw [lg_entry_eq]
  generalize (lg_sl ([.ref (am 0), .int u, .int v, .long x, .long z]) ++ List.replicate (8 - (lg_sl ([.ref (am 0), .int u, .int v, .long x, .long z])).length) Slot.unset).toArray = ls at hl ⊢
  have hl : lv_has ls 8 [(0, .ref (am 0)), (1, .int u), (2, .int v), (3, .long x), (5, .long z)] := hl
  have hL : ∀ q ∈ ([] : List Loc), mF am q.base := fun q hq => nomatch hq
  have hO : mO am s.heap s.heap := mO.rf
  refine lv_iload_n hx hb d_M_constituent_0 rfl (lv_at hl 2 rfl) ?_
  refine lv_if_lt hx hb d_M_constituent_1 (tgt := 36) (by decide) (fun q1 => ?_) (fun q1 => ?_)
  · have q1 := iv_lt0.mp q1
    refine lv_iconst hx hb d_M_constituent_36 (v := (nI 0)) rfl ?_
    refine lv_istore hx hb d_M_constituent_37 hl (by decide) (lv' := [(7, .int (nI 0)), (0, .ref (am 0)), (1, .int u), (2, .int v), (3, .long x), (5, .long z)]) rfl (fun ls hl => ?_)
    refine lv_aload_n hx hb d_M_constituent_39 rfl (lv_at hl 1 rfl) ?_
    refine lv_iload_n hx hb d_M_constituent_40 rfl (lv_at hl 2 rfl) ?_
    refine tq_S ⟨hx, hb, hml, hown, hts⟩ hT (c_M_isOne l u) lk_M_61 wN_mv trivial rfl hl.1 rfl (Nat.le_of_ble_eq_true rfl) d_M_constituent_41 ⟨rfl, rfl, Nat.le_of_ble_eq_true rfl, Nat.le_of_ble_eq_true rfl⟩ ⟨Nat.zero_le _, Nat.zero_le _⟩ ?_
    refine lv_if_ne hx hb d_M_constituent_44 (tgt := 51) (by decide) (fun q2 => ?_) (fun q2 => ?_)
    · have q2 := zb_t q2
      refine lv_iload hx hb d_M_constituent_51 (lv_at hl 0 rfl) ?_
      refine lv_if_ne hx hb d_M_constituent_53 (tgt := 60) (by decide) (fun q3 => ?_) (fun q3 => ?_)
      · have q3 := mt iv_eq0.mpr q3
        rw [nI_toInt (n := 0) (by decide)] at q3
        refine lv_iconst hx hb d_M_constituent_60 (v := (nI 0)) rfl ?_
        exfalso
        omega
      · have q3 := iv_eq0.mp q3
        rw [nI_toInt (n := 0) (by decide)] at q3
        refine lv_iconst hx hb d_M_constituent_56 (v := (nI 2)) rfl ?_
        refine lv_goto hx hb d_M_constituent_57 (tgt := 61) (by decide) ?_
        exfalso
        omega
    · have q2 := zb_f q2
      refine lv_iconst hx hb d_M_constituent_47 (v := (nI 1)) rfl ?_
      refine lv_goto hx hb d_M_constituent_48 (tgt := 61) (by decide) ?_
      refine tq_put (F := mF am) hx hb hts (fun w h => hT w (uM_in w h)) tM tM_ok nM hown hK (tm_one hM 0 rfl) (ci := 1) rfl 0 (by decide) (hts _ (hT _ k_M_43)) (fun _ h => h) rfl (ty := .int) rfl rfl rfl (Nat.le_of_ble_eq_true rfl) ⟨0, by decide, rfl⟩ hL d_M_constituent_61 (fun H1 locs1 hP1 hz1 hq1 hL => ?_)
      have hM : tm D ci am g (nI 1) fo sz hs mi hi tx H1 := tm_set hD hM 0 (by decide) rfl hP1 (fun j hj => by rcases j with _ | _ | _ | _ | _ | _ | _ | _ | _ | _ | _ | j <;> first | rfl | exact absurd rfl hj) hq1
      have hO := hO.tr (mO.put (k := 0) (by decide) hz1 hq1)
      refine lv_aload_n hx hb d_M_constituent_64 rfl (lv_at hl 1 rfl) ?_
      refine va_get hx hb hts (fun w h => hT w (uM_in w h)) hown hK hM 0 rfl rfl 0 (by decide) (hts _ (hT _ k_M_43)) (fun _ h => h) rfl d_M_constituent_65 ?_
      refine lv_if_eq hx hb d_M_constituent_68 (tgt := 72) (by decide) (fun hyes => absurd hyes (by decide)) (fun _ => ?_)
      exact W.vret hx hb hr (fun t ht hW => ⟨_, rfl, rfl, by rw [ht]; exact hM, by rw [ht]; exact hO⟩) hL d_M_constituent_71
  · have q1 := mt iv_lt0.mpr q1
    refine lv_iload_n hx hb d_M_constituent_4 rfl (lv_at hl 2 rfl) ?_
    refine lv_ldc hx hb (v := (nI 100000)) hown (hts _ (hT _ k_M_54)) d_M_constituent_5 ?_
    refine lv_icmp_gt hx hb d_M_constituent_7 (tgt := 36) (by decide) (fun q2 => ?_) (fun q2 => ?_)
    · have q2 := Int32.lt_iff_toInt_lt.mp q2
      rw [nI_toInt (n := 100000) (by decide)] at q2
      refine lv_iconst hx hb d_M_constituent_36 (v := (nI 0)) rfl ?_
      refine lv_istore hx hb d_M_constituent_37 hl (by decide) (lv' := [(7, .int (nI 0)), (0, .ref (am 0)), (1, .int u), (2, .int v), (3, .long x), (5, .long z)]) rfl (fun ls hl => ?_)
      refine lv_aload_n hx hb d_M_constituent_39 rfl (lv_at hl 1 rfl) ?_
      refine lv_iload_n hx hb d_M_constituent_40 rfl (lv_at hl 2 rfl) ?_
      refine tq_S ⟨hx, hb, hml, hown, hts⟩ hT (c_M_isOne l u) lk_M_61 wN_mv trivial rfl hl.1 rfl (Nat.le_of_ble_eq_true rfl) d_M_constituent_41 ⟨rfl, rfl, Nat.le_of_ble_eq_true rfl, Nat.le_of_ble_eq_true rfl⟩ ⟨Nat.zero_le _, Nat.zero_le _⟩ ?_
      refine lv_if_ne hx hb d_M_constituent_44 (tgt := 51) (by decide) (fun q3 => ?_) (fun q3 => ?_)
      · have q3 := zb_t q3
        refine lv_iload hx hb d_M_constituent_51 (lv_at hl 0 rfl) ?_
        refine lv_if_ne hx hb d_M_constituent_53 (tgt := 60) (by decide) (fun q4 => ?_) (fun q4 => ?_)
        · have q4 := mt iv_eq0.mpr q4
          rw [nI_toInt (n := 0) (by decide)] at q4
          refine lv_iconst hx hb d_M_constituent_60 (v := (nI 0)) rfl ?_
          exfalso
          omega
        · have q4 := iv_eq0.mp q4
          rw [nI_toInt (n := 0) (by decide)] at q4
          refine lv_iconst hx hb d_M_constituent_56 (v := (nI 2)) rfl ?_
          refine lv_goto hx hb d_M_constituent_57 (tgt := 61) (by decide) ?_
          exfalso
          omega
      · have q3 := zb_f q3
        refine lv_iconst hx hb d_M_constituent_47 (v := (nI 1)) rfl ?_
        refine lv_goto hx hb d_M_constituent_48 (tgt := 61) (by decide) ?_
        refine tq_put (F := mF am) hx hb hts (fun w h => hT w (uM_in w h)) tM tM_ok nM hown hK (tm_one hM 0 rfl) (ci := 1) rfl 0 (by decide) (hts _ (hT _ k_M_43)) (fun _ h => h) rfl (ty := .int) rfl rfl rfl (Nat.le_of_ble_eq_true rfl) ⟨0, by decide, rfl⟩ hL d_M_constituent_61 (fun H1 locs1 hP1 hz1 hq1 hL => ?_)
        have hM : tm D ci am g (nI 1) fo sz hs mi hi tx H1 := tm_set hD hM 0 (by decide) rfl hP1 (fun j hj => by rcases j with _ | _ | _ | _ | _ | _ | _ | _ | _ | _ | _ | j <;> first | rfl | exact absurd rfl hj) hq1
        have hO := hO.tr (mO.put (k := 0) (by decide) hz1 hq1)
        refine lv_aload_n hx hb d_M_constituent_64 rfl (lv_at hl 1 rfl) ?_
        refine va_get hx hb hts (fun w h => hT w (uM_in w h)) hown hK hM 0 rfl rfl 0 (by decide) (hts _ (hT _ k_M_43)) (fun _ h => h) rfl d_M_constituent_65 ?_
        refine lv_if_eq hx hb d_M_constituent_68 (tgt := 72) (by decide) (fun hyes => absurd hyes (by decide)) (fun _ => ?_)
        exact W.vret hx hb hr (fun t ht hW => ⟨_, rfl, rfl, by rw [ht]; exact hM, by rw [ht]; exact hO⟩) hL d_M_constituent_71
    · have q2 := mt Int32.lt_iff_toInt_lt.mpr q2
      rw [nI_toInt (n := 100000) (by decide)] at q2
      refine lv_lload_n hx hb d_M_constituent_10 rfl (lv_at hl 3 rfl) ?_
      refine lv_lconst hx hb d_M_constituent_11 (v := (lN 0)) rfl ?_
      refine W.lcmp hx hb d_M_constituent_12 ?_
      refine lv_if_lt hx hb d_M_constituent_13 (tgt := 36) (by decide) (fun q3 => ?_) (fun q3 => ?_)
      · have q3 := ((lg_cmp_lt _ _).trans Int64.lt_iff_toInt_lt).mp q3
        rw [pk_lT (n := 0) (by decide)] at q3
        refine lv_iconst hx hb d_M_constituent_36 (v := (nI 0)) rfl ?_
        refine lv_istore hx hb d_M_constituent_37 hl (by decide) (lv' := [(7, .int (nI 0)), (0, .ref (am 0)), (1, .int u), (2, .int v), (3, .long x), (5, .long z)]) rfl (fun ls hl => ?_)
        refine lv_aload_n hx hb d_M_constituent_39 rfl (lv_at hl 1 rfl) ?_
        refine lv_iload_n hx hb d_M_constituent_40 rfl (lv_at hl 2 rfl) ?_
        refine tq_S ⟨hx, hb, hml, hown, hts⟩ hT (c_M_isOne l u) lk_M_61 wN_mv trivial rfl hl.1 rfl (Nat.le_of_ble_eq_true rfl) d_M_constituent_41 ⟨rfl, rfl, Nat.le_of_ble_eq_true rfl, Nat.le_of_ble_eq_true rfl⟩ ⟨Nat.zero_le _, Nat.zero_le _⟩ ?_
        refine lv_if_ne hx hb d_M_constituent_44 (tgt := 51) (by decide) (fun q4 => ?_) (fun q4 => ?_)
        · have q4 := zb_t q4
          refine lv_iload hx hb d_M_constituent_51 (lv_at hl 0 rfl) ?_
          refine lv_if_ne hx hb d_M_constituent_53 (tgt := 60) (by decide) (fun q5 => ?_) (fun q5 => ?_)
          · have q5 := mt iv_eq0.mpr q5
            rw [nI_toInt (n := 0) (by decide)] at q5
            refine lv_iconst hx hb d_M_constituent_60 (v := (nI 0)) rfl ?_
            exfalso
            omega
          · have q5 := iv_eq0.mp q5
            rw [nI_toInt (n := 0) (by decide)] at q5
            refine lv_iconst hx hb d_M_constituent_56 (v := (nI 2)) rfl ?_
            refine lv_goto hx hb d_M_constituent_57 (tgt := 61) (by decide) ?_
            exfalso
            omega
        · have q4 := zb_f q4
          refine lv_iconst hx hb d_M_constituent_47 (v := (nI 1)) rfl ?_
          refine lv_goto hx hb d_M_constituent_48 (tgt := 61) (by decide) ?_
          refine tq_put (F := mF am) hx hb hts (fun w h => hT w (uM_in w h)) tM tM_ok nM hown hK (tm_one hM 0 rfl) (ci := 1) rfl 0 (by decide) (hts _ (hT _ k_M_43)) (fun _ h => h) rfl (ty := .int) rfl rfl rfl (Nat.le_of_ble_eq_true rfl) ⟨0, by decide, rfl⟩ hL d_M_constituent_61 (fun H1 locs1 hP1 hz1 hq1 hL => ?_)
          have hM : tm D ci am g (nI 1) fo sz hs mi hi tx H1 := tm_set hD hM 0 (by decide) rfl hP1 (fun j hj => by rcases j with _ | _ | _ | _ | _ | _ | _ | _ | _ | _ | _ | j <;> first | rfl | exact absurd rfl hj) hq1
          have hO := hO.tr (mO.put (k := 0) (by decide) hz1 hq1)
          refine lv_aload_n hx hb d_M_constituent_64 rfl (lv_at hl 1 rfl) ?_
          refine va_get hx hb hts (fun w h => hT w (uM_in w h)) hown hK hM 0 rfl rfl 0 (by decide) (hts _ (hT _ k_M_43)) (fun _ h => h) rfl d_M_constituent_65 ?_
          refine lv_if_eq hx hb d_M_constituent_68 (tgt := 72) (by decide) (fun hyes => absurd hyes (by decide)) (fun _ => ?_)
          exact W.vret hx hb hr (fun t ht hW => ⟨_, rfl, rfl, by rw [ht]; exact hM, by rw [ht]; exact hO⟩) hL d_M_constituent_71
      · have q3 := mt ((lg_cmp_lt _ _).trans Int64.lt_iff_toInt_lt).mpr q3
        rw [pk_lT (n := 0) (by decide)] at q3
        refine lv_lload_n hx hb d_M_constituent_16 rfl (lv_at hl 3 rfl) ?_
        refine lv_ldc2 hx hb (v := (lN 1099511627776)) hown (hts _ (hT _ k_M_55)) d_M_constituent_17 ?_
        refine W.lcmp hx hb d_M_constituent_20 ?_
        refine lv_if_ge hx hb d_M_constituent_21 (tgt := 36) (by decide) (fun q4 => ?_) (fun q4 => ?_)
        · have q4 := ((lg_cmp_ge _ _).trans Int64.le_iff_toInt_le).mp q4
          rw [pk_lT (n := 1099511627776) (by decide)] at q4
          refine lv_iconst hx hb d_M_constituent_36 (v := (nI 0)) rfl ?_
          refine lv_istore hx hb d_M_constituent_37 hl (by decide) (lv' := [(7, .int (nI 0)), (0, .ref (am 0)), (1, .int u), (2, .int v), (3, .long x), (5, .long z)]) rfl (fun ls hl => ?_)
          refine lv_aload_n hx hb d_M_constituent_39 rfl (lv_at hl 1 rfl) ?_
          refine lv_iload_n hx hb d_M_constituent_40 rfl (lv_at hl 2 rfl) ?_
          refine tq_S ⟨hx, hb, hml, hown, hts⟩ hT (c_M_isOne l u) lk_M_61 wN_mv trivial rfl hl.1 rfl (Nat.le_of_ble_eq_true rfl) d_M_constituent_41 ⟨rfl, rfl, Nat.le_of_ble_eq_true rfl, Nat.le_of_ble_eq_true rfl⟩ ⟨Nat.zero_le _, Nat.zero_le _⟩ ?_
          refine lv_if_ne hx hb d_M_constituent_44 (tgt := 51) (by decide) (fun q5 => ?_) (fun q5 => ?_)
          · have q5 := zb_t q5
            refine lv_iload hx hb d_M_constituent_51 (lv_at hl 0 rfl) ?_
            refine lv_if_ne hx hb d_M_constituent_53 (tgt := 60) (by decide) (fun q6 => ?_) (fun q6 => ?_)
            · have q6 := mt iv_eq0.mpr q6
              rw [nI_toInt (n := 0) (by decide)] at q6
              refine lv_iconst hx hb d_M_constituent_60 (v := (nI 0)) rfl ?_
              exfalso
              omega
            · have q6 := iv_eq0.mp q6
              rw [nI_toInt (n := 0) (by decide)] at q6
              refine lv_iconst hx hb d_M_constituent_56 (v := (nI 2)) rfl ?_
              refine lv_goto hx hb d_M_constituent_57 (tgt := 61) (by decide) ?_
              exfalso
              omega
          · have q5 := zb_f q5
            refine lv_iconst hx hb d_M_constituent_47 (v := (nI 1)) rfl ?_
            refine lv_goto hx hb d_M_constituent_48 (tgt := 61) (by decide) ?_
            refine tq_put (F := mF am) hx hb hts (fun w h => hT w (uM_in w h)) tM tM_ok nM hown hK (tm_one hM 0 rfl) (ci := 1) rfl 0 (by decide) (hts _ (hT _ k_M_43)) (fun _ h => h) rfl (ty := .int) rfl rfl rfl (Nat.le_of_ble_eq_true rfl) ⟨0, by decide, rfl⟩ hL d_M_constituent_61 (fun H1 locs1 hP1 hz1 hq1 hL => ?_)
            have hM : tm D ci am g (nI 1) fo sz hs mi hi tx H1 := tm_set hD hM 0 (by decide) rfl hP1 (fun j hj => by rcases j with _ | _ | _ | _ | _ | _ | _ | _ | _ | _ | _ | j <;> first | rfl | exact absurd rfl hj) hq1
            have hO := hO.tr (mO.put (k := 0) (by decide) hz1 hq1)
            refine lv_aload_n hx hb d_M_constituent_64 rfl (lv_at hl 1 rfl) ?_
            refine va_get hx hb hts (fun w h => hT w (uM_in w h)) hown hK hM 0 rfl rfl 0 (by decide) (hts _ (hT _ k_M_43)) (fun _ h => h) rfl d_M_constituent_65 ?_
            refine lv_if_eq hx hb d_M_constituent_68 (tgt := 72) (by decide) (fun hyes => absurd hyes (by decide)) (fun _ => ?_)
            exact W.vret hx hb hr (fun t ht hW => ⟨_, rfl, rfl, by rw [ht]; exact hM, by rw [ht]; exact hO⟩) hL d_M_constituent_71
        · have q4 := mt ((lg_cmp_ge _ _).trans Int64.le_iff_toInt_le).mpr q4
          rw [pk_lT (n := 1099511627776) (by decide)] at q4
          refine lv_lload hx hb d_M_constituent_24 (lv_at hl 4 rfl) ?_
          refine tq_S ⟨hx, hb, hml, hown, hts⟩ hT (c_M_isTurn l z) lk_M_57 wN_mv trivial rfl hl.1 rfl (Nat.le_of_ble_eq_true rfl) d_M_constituent_26 ⟨rfl, rfl, Nat.le_of_ble_eq_true rfl, Nat.le_of_ble_eq_true rfl⟩ ⟨Nat.zero_le _, Nat.zero_le _⟩ ?_
          refine lv_if_eq hx hb d_M_constituent_29 (tgt := 36) (by decide) (fun q5 => ?_) (fun q5 => ?_)
          · have q5 := zb_f q5
            refine lv_iconst hx hb d_M_constituent_36 (v := (nI 0)) rfl ?_
            refine lv_istore hx hb d_M_constituent_37 hl (by decide) (lv' := [(7, .int (nI 0)), (0, .ref (am 0)), (1, .int u), (2, .int v), (3, .long x), (5, .long z)]) rfl (fun ls hl => ?_)
            refine lv_aload_n hx hb d_M_constituent_39 rfl (lv_at hl 1 rfl) ?_
            refine lv_iload_n hx hb d_M_constituent_40 rfl (lv_at hl 2 rfl) ?_
            refine tq_S ⟨hx, hb, hml, hown, hts⟩ hT (c_M_isOne l u) lk_M_61 wN_mv trivial rfl hl.1 rfl (Nat.le_of_ble_eq_true rfl) d_M_constituent_41 ⟨rfl, rfl, Nat.le_of_ble_eq_true rfl, Nat.le_of_ble_eq_true rfl⟩ ⟨Nat.zero_le _, Nat.zero_le _⟩ ?_
            refine lv_if_ne hx hb d_M_constituent_44 (tgt := 51) (by decide) (fun q6 => ?_) (fun q6 => ?_)
            · have q6 := zb_t q6
              refine lv_iload hx hb d_M_constituent_51 (lv_at hl 0 rfl) ?_
              refine lv_if_ne hx hb d_M_constituent_53 (tgt := 60) (by decide) (fun q7 => ?_) (fun q7 => ?_)
              · have q7 := mt iv_eq0.mpr q7
                rw [nI_toInt (n := 0) (by decide)] at q7
                refine lv_iconst hx hb d_M_constituent_60 (v := (nI 0)) rfl ?_
                exfalso
                omega
              · have q7 := iv_eq0.mp q7
                rw [nI_toInt (n := 0) (by decide)] at q7
                refine lv_iconst hx hb d_M_constituent_56 (v := (nI 2)) rfl ?_
                refine lv_goto hx hb d_M_constituent_57 (tgt := 61) (by decide) ?_
                exfalso
                omega
            · have q6 := zb_f q6
              refine lv_iconst hx hb d_M_constituent_47 (v := (nI 1)) rfl ?_
              refine lv_goto hx hb d_M_constituent_48 (tgt := 61) (by decide) ?_
              refine tq_put (F := mF am) hx hb hts (fun w h => hT w (uM_in w h)) tM tM_ok nM hown hK (tm_one hM 0 rfl) (ci := 1) rfl 0 (by decide) (hts _ (hT _ k_M_43)) (fun _ h => h) rfl (ty := .int) rfl rfl rfl (Nat.le_of_ble_eq_true rfl) ⟨0, by decide, rfl⟩ hL d_M_constituent_61 (fun H1 locs1 hP1 hz1 hq1 hL => ?_)
              have hM : tm D ci am g (nI 1) fo sz hs mi hi tx H1 := tm_set hD hM 0 (by decide) rfl hP1 (fun j hj => by rcases j with _ | _ | _ | _ | _ | _ | _ | _ | _ | _ | _ | j <;> first | rfl | exact absurd rfl hj) hq1
              have hO := hO.tr (mO.put (k := 0) (by decide) hz1 hq1)
              refine lv_aload_n hx hb d_M_constituent_64 rfl (lv_at hl 1 rfl) ?_
              refine va_get hx hb hts (fun w h => hT w (uM_in w h)) hown hK hM 0 rfl rfl 0 (by decide) (hts _ (hT _ k_M_43)) (fun _ h => h) rfl d_M_constituent_65 ?_
              refine lv_if_eq hx hb d_M_constituent_68 (tgt := 72) (by decide) (fun hyes => absurd hyes (by decide)) (fun _ => ?_)
              exact W.vret hx hb hr (fun t ht hW => ⟨_, rfl, rfl, by rw [ht]; exact hM, by rw [ht]; exact hO⟩) hL d_M_constituent_71
          · have q5 := zb_t q5
            refine lv_iconst hx hb d_M_constituent_32 (v := (nI 1)) rfl ?_
            refine lv_goto hx hb d_M_constituent_33 (tgt := 37) (by decide) ?_
            refine lv_istore hx hb d_M_constituent_37 hl (by decide) (lv' := [(7, .int (nI 1)), (0, .ref (am 0)), (1, .int u), (2, .int v), (3, .long x), (5, .long z)]) rfl (fun ls hl => ?_)
            refine lv_aload_n hx hb d_M_constituent_39 rfl (lv_at hl 1 rfl) ?_
            refine lv_iload_n hx hb d_M_constituent_40 rfl (lv_at hl 2 rfl) ?_
            refine tq_S ⟨hx, hb, hml, hown, hts⟩ hT (c_M_isOne l u) lk_M_61 wN_mv trivial rfl hl.1 rfl (Nat.le_of_ble_eq_true rfl) d_M_constituent_41 ⟨rfl, rfl, Nat.le_of_ble_eq_true rfl, Nat.le_of_ble_eq_true rfl⟩ ⟨Nat.zero_le _, Nat.zero_le _⟩ ?_
            refine lv_if_ne hx hb d_M_constituent_44 (tgt := 51) (by decide) (fun q6 => ?_) (fun q6 => ?_)
            · have q6 := zb_t q6
              refine lv_iload hx hb d_M_constituent_51 (lv_at hl 0 rfl) ?_
              refine lv_if_ne hx hb d_M_constituent_53 (tgt := 60) (by decide) (fun q7 => ?_) (fun q7 => ?_)
              · have q7 := mt iv_eq0.mpr q7
                rw [nI_toInt (n := 1) (by decide)] at q7
                refine lv_iconst hx hb d_M_constituent_60 (v := (nI 0)) rfl ?_
                exfalso
                omega
              · have q7 := iv_eq0.mp q7
                rw [nI_toInt (n := 1) (by decide)] at q7
                refine lv_iconst hx hb d_M_constituent_56 (v := (nI 2)) rfl ?_
                refine lv_goto hx hb d_M_constituent_57 (tgt := 61) (by decide) ?_
                exfalso
                omega
            · have q6 := zb_f q6
              refine lv_iconst hx hb d_M_constituent_47 (v := (nI 1)) rfl ?_
              refine lv_goto hx hb d_M_constituent_48 (tgt := 61) (by decide) ?_
              refine tq_put (F := mF am) hx hb hts (fun w h => hT w (uM_in w h)) tM tM_ok nM hown hK (tm_one hM 0 rfl) (ci := 1) rfl 0 (by decide) (hts _ (hT _ k_M_43)) (fun _ h => h) rfl (ty := .int) rfl rfl rfl (Nat.le_of_ble_eq_true rfl) ⟨0, by decide, rfl⟩ hL d_M_constituent_61 (fun H1 locs1 hP1 hz1 hq1 hL => ?_)
              have hM : tm D ci am g (nI 1) fo sz hs mi hi tx H1 := tm_set hD hM 0 (by decide) rfl hP1 (fun j hj => by rcases j with _ | _ | _ | _ | _ | _ | _ | _ | _ | _ | _ | j <;> first | rfl | exact absurd rfl hj) hq1
              have hO := hO.tr (mO.put (k := 0) (by decide) hz1 hq1)
              refine lv_aload_n hx hb d_M_constituent_64 rfl (lv_at hl 1 rfl) ?_
              refine va_get hx hb hts (fun w h => hT w (uM_in w h)) hown hK hM 0 rfl rfl 0 (by decide) (hts _ (hT _ k_M_43)) (fun _ h => h) rfl d_M_constituent_65 ?_
              refine lv_if_eq hx hb d_M_constituent_68 (tgt := 72) (by decide) (fun hyes => absurd hyes (by decide)) (fun _ => ?_)
              exact W.vret hx hb hr (fun t ht hW => ⟨_, rfl, rfl, by rw [ht]; exact hM, by rw [ht]; exact hO⟩) hL d_M_constituent_71
set_option maxHeartbeats 4000000 in
set_option maxRecDepth 100000 in
theorem x_M_constituentA (l : Launch) (D : va_G) (ci : Nat → ClassId) (am : Nat → Nat) (g : TS) (th fo sz : Int32) (hs mi hi tx : Nat → Int32) (u v : Int32) (x z : Int64) (hv1 : 0 ≤ u.toInt ∧ u.toInt < 8) (hv0 : ¬ ((0 ≤ v.toInt ∧ v.toInt ≤ 100000) ∧ (0 ≤ x.toInt ∧ x.toInt < 1099511627776) ∧ 0 ≤ z.toInt ∧ z.toInt < 281474976710656)) : Met l y_M_constituent (wT y_M_constituent b_M_constituent 8 none) (rP 1 21) (tb (wMD D ci am g th fo sz hs mi hi tx) [.ref (am 0), .int u, .int v, .long x, .long z]) (qM D ci am g (nI 2) fo sz hs mi hi tx (none)) 0 0 (mF am) := by
  refine Met.ofW (cc := b_M_constituent) (maxL := 8) (ret := none) (by decide) rfl ?_
  intro p e s m args below meth c s₁ B hml hv
  obtain ⟨rfl, hK, hg, hM, hD⟩ := hv
  have hx := B.exec
  have hb := B.bytes
  have hr := B.returns
  have hts := atoms_spec (ws := wT y_M_constituent b_M_constituent 8 none) B.pre
  have hT : ∀ w ∈ TT, w ∈ wT y_M_constituent b_M_constituent 8 none := wT_T
  have hown : s.vm.findClass RM = some m.cls := findClass_of_methodNamed B.named
  have hlocks := B.notSynchronized
  have hl := lv_entry ([.ref (am 0), .int u, .int v, .long x, .long z]) (n := 8) (Nat.le_of_ble_eq_true rfl)
  rw [lg_entry_eq]
  generalize (lg_sl ([.ref (am 0), .int u, .int v, .long x, .long z]) ++ List.replicate (8 - (lg_sl ([.ref (am 0), .int u, .int v, .long x, .long z])).length) Slot.unset).toArray = ls at hl ⊢
  have hl : lv_has ls 8 [(0, .ref (am 0)), (1, .int u), (2, .int v), (3, .long x), (5, .long z)] := hl
  have hL : ∀ q ∈ ([] : List Loc), mF am q.base := fun q hq => nomatch hq
  have hO : mO am s.heap s.heap := mO.rf
  refine lv_iload_n hx hb d_M_constituent_0 rfl (lv_at hl 2 rfl) ?_
  refine lv_if_lt hx hb d_M_constituent_1 (tgt := 36) (by decide) (fun q1 => ?_) (fun q1 => ?_)
  · have q1 := iv_lt0.mp q1
    refine lv_iconst hx hb d_M_constituent_36 (v := (nI 0)) rfl ?_
    refine lv_istore hx hb d_M_constituent_37 hl (by decide) (lv' := [(7, .int (nI 0)), (0, .ref (am 0)), (1, .int u), (2, .int v), (3, .long x), (5, .long z)]) rfl (fun ls hl => ?_)
    refine lv_aload_n hx hb d_M_constituent_39 rfl (lv_at hl 1 rfl) ?_
    refine lv_iload_n hx hb d_M_constituent_40 rfl (lv_at hl 2 rfl) ?_
    refine tq_S ⟨hx, hb, hml, hown, hts⟩ hT (c_M_isOne l u) lk_M_61 wN_mv trivial rfl hl.1 rfl (Nat.le_of_ble_eq_true rfl) d_M_constituent_41 ⟨rfl, rfl, Nat.le_of_ble_eq_true rfl, Nat.le_of_ble_eq_true rfl⟩ ⟨Nat.zero_le _, Nat.zero_le _⟩ ?_
    refine lv_if_ne hx hb d_M_constituent_44 (tgt := 51) (by decide) (fun q2 => ?_) (fun q2 => ?_)
    · have q2 := zb_t q2
      refine lv_iload hx hb d_M_constituent_51 (lv_at hl 0 rfl) ?_
      refine lv_if_ne hx hb d_M_constituent_53 (tgt := 60) (by decide) (fun q3 => ?_) (fun q3 => ?_)
      · have q3 := mt iv_eq0.mpr q3
        rw [nI_toInt (n := 0) (by decide)] at q3
        refine lv_iconst hx hb d_M_constituent_60 (v := (nI 0)) rfl ?_
        exfalso
        omega
      · have q3 := iv_eq0.mp q3
        rw [nI_toInt (n := 0) (by decide)] at q3
        refine lv_iconst hx hb d_M_constituent_56 (v := (nI 2)) rfl ?_
        refine lv_goto hx hb d_M_constituent_57 (tgt := 61) (by decide) ?_
        refine tq_put (F := mF am) hx hb hts (fun w h => hT w (uM_in w h)) tM tM_ok nM hown hK (tm_one hM 0 rfl) (ci := 1) rfl 0 (by decide) (hts _ (hT _ k_M_43)) (fun _ h => h) rfl (ty := .int) rfl rfl rfl (Nat.le_of_ble_eq_true rfl) ⟨0, by decide, rfl⟩ hL d_M_constituent_61 (fun H1 locs1 hP1 hz1 hq1 hL => ?_)
        have hM : tm D ci am g (nI 2) fo sz hs mi hi tx H1 := tm_set hD hM 0 (by decide) rfl hP1 (fun j hj => by rcases j with _ | _ | _ | _ | _ | _ | _ | _ | _ | _ | _ | j <;> first | rfl | exact absurd rfl hj) hq1
        have hO := hO.tr (mO.put (k := 0) (by decide) hz1 hq1)
        refine lv_aload_n hx hb d_M_constituent_64 rfl (lv_at hl 1 rfl) ?_
        refine va_get hx hb hts (fun w h => hT w (uM_in w h)) hown hK hM 0 rfl rfl 0 (by decide) (hts _ (hT _ k_M_43)) (fun _ h => h) rfl d_M_constituent_65 ?_
        refine lv_if_eq hx hb d_M_constituent_68 (tgt := 72) (by decide) (fun hyes => absurd hyes (by decide)) (fun _ => ?_)
        exact W.vret hx hb hr (fun t ht hW => ⟨_, rfl, rfl, by rw [ht]; exact hM, by rw [ht]; exact hO⟩) hL d_M_constituent_71
    · have q2 := zb_f q2
      refine lv_iconst hx hb d_M_constituent_47 (v := (nI 1)) rfl ?_
      refine lv_goto hx hb d_M_constituent_48 (tgt := 61) (by decide) ?_
      exfalso
      omega
  · have q1 := mt iv_lt0.mpr q1
    refine lv_iload_n hx hb d_M_constituent_4 rfl (lv_at hl 2 rfl) ?_
    refine lv_ldc hx hb (v := (nI 100000)) hown (hts _ (hT _ k_M_54)) d_M_constituent_5 ?_
    refine lv_icmp_gt hx hb d_M_constituent_7 (tgt := 36) (by decide) (fun q2 => ?_) (fun q2 => ?_)
    · have q2 := Int32.lt_iff_toInt_lt.mp q2
      rw [nI_toInt (n := 100000) (by decide)] at q2
      refine lv_iconst hx hb d_M_constituent_36 (v := (nI 0)) rfl ?_
      refine lv_istore hx hb d_M_constituent_37 hl (by decide) (lv' := [(7, .int (nI 0)), (0, .ref (am 0)), (1, .int u), (2, .int v), (3, .long x), (5, .long z)]) rfl (fun ls hl => ?_)
      refine lv_aload_n hx hb d_M_constituent_39 rfl (lv_at hl 1 rfl) ?_
      refine lv_iload_n hx hb d_M_constituent_40 rfl (lv_at hl 2 rfl) ?_
      refine tq_S ⟨hx, hb, hml, hown, hts⟩ hT (c_M_isOne l u) lk_M_61 wN_mv trivial rfl hl.1 rfl (Nat.le_of_ble_eq_true rfl) d_M_constituent_41 ⟨rfl, rfl, Nat.le_of_ble_eq_true rfl, Nat.le_of_ble_eq_true rfl⟩ ⟨Nat.zero_le _, Nat.zero_le _⟩ ?_
      refine lv_if_ne hx hb d_M_constituent_44 (tgt := 51) (by decide) (fun q3 => ?_) (fun q3 => ?_)
      · have q3 := zb_t q3
        refine lv_iload hx hb d_M_constituent_51 (lv_at hl 0 rfl) ?_
        refine lv_if_ne hx hb d_M_constituent_53 (tgt := 60) (by decide) (fun q4 => ?_) (fun q4 => ?_)
        · have q4 := mt iv_eq0.mpr q4
          rw [nI_toInt (n := 0) (by decide)] at q4
          refine lv_iconst hx hb d_M_constituent_60 (v := (nI 0)) rfl ?_
          exfalso
          omega
        · have q4 := iv_eq0.mp q4
          rw [nI_toInt (n := 0) (by decide)] at q4
          refine lv_iconst hx hb d_M_constituent_56 (v := (nI 2)) rfl ?_
          refine lv_goto hx hb d_M_constituent_57 (tgt := 61) (by decide) ?_
          refine tq_put (F := mF am) hx hb hts (fun w h => hT w (uM_in w h)) tM tM_ok nM hown hK (tm_one hM 0 rfl) (ci := 1) rfl 0 (by decide) (hts _ (hT _ k_M_43)) (fun _ h => h) rfl (ty := .int) rfl rfl rfl (Nat.le_of_ble_eq_true rfl) ⟨0, by decide, rfl⟩ hL d_M_constituent_61 (fun H1 locs1 hP1 hz1 hq1 hL => ?_)
          have hM : tm D ci am g (nI 2) fo sz hs mi hi tx H1 := tm_set hD hM 0 (by decide) rfl hP1 (fun j hj => by rcases j with _ | _ | _ | _ | _ | _ | _ | _ | _ | _ | _ | j <;> first | rfl | exact absurd rfl hj) hq1
          have hO := hO.tr (mO.put (k := 0) (by decide) hz1 hq1)
          refine lv_aload_n hx hb d_M_constituent_64 rfl (lv_at hl 1 rfl) ?_
          refine va_get hx hb hts (fun w h => hT w (uM_in w h)) hown hK hM 0 rfl rfl 0 (by decide) (hts _ (hT _ k_M_43)) (fun _ h => h) rfl d_M_constituent_65 ?_
          refine lv_if_eq hx hb d_M_constituent_68 (tgt := 72) (by decide) (fun hyes => absurd hyes (by decide)) (fun _ => ?_)
          exact W.vret hx hb hr (fun t ht hW => ⟨_, rfl, rfl, by rw [ht]; exact hM, by rw [ht]; exact hO⟩) hL d_M_constituent_71
      · have q3 := zb_f q3
        refine lv_iconst hx hb d_M_constituent_47 (v := (nI 1)) rfl ?_
        refine lv_goto hx hb d_M_constituent_48 (tgt := 61) (by decide) ?_
        exfalso
        omega
    · have q2 := mt Int32.lt_iff_toInt_lt.mpr q2
      rw [nI_toInt (n := 100000) (by decide)] at q2
      refine lv_lload_n hx hb d_M_constituent_10 rfl (lv_at hl 3 rfl) ?_
      refine lv_lconst hx hb d_M_constituent_11 (v := (lN 0)) rfl ?_
      refine W.lcmp hx hb d_M_constituent_12 ?_
      refine lv_if_lt hx hb d_M_constituent_13 (tgt := 36) (by decide) (fun q3 => ?_) (fun q3 => ?_)
      · have q3 := ((lg_cmp_lt _ _).trans Int64.lt_iff_toInt_lt).mp q3
        rw [pk_lT (n := 0) (by decide)] at q3
        refine lv_iconst hx hb d_M_constituent_36 (v := (nI 0)) rfl ?_
        refine lv_istore hx hb d_M_constituent_37 hl (by decide) (lv' := [(7, .int (nI 0)), (0, .ref (am 0)), (1, .int u), (2, .int v), (3, .long x), (5, .long z)]) rfl (fun ls hl => ?_)
        refine lv_aload_n hx hb d_M_constituent_39 rfl (lv_at hl 1 rfl) ?_
        refine lv_iload_n hx hb d_M_constituent_40 rfl (lv_at hl 2 rfl) ?_
        refine tq_S ⟨hx, hb, hml, hown, hts⟩ hT (c_M_isOne l u) lk_M_61 wN_mv trivial rfl hl.1 rfl (Nat.le_of_ble_eq_true rfl) d_M_constituent_41 ⟨rfl, rfl, Nat.le_of_ble_eq_true rfl, Nat.le_of_ble_eq_true rfl⟩ ⟨Nat.zero_le _, Nat.zero_le _⟩ ?_
        refine lv_if_ne hx hb d_M_constituent_44 (tgt := 51) (by decide) (fun q4 => ?_) (fun q4 => ?_)
        · have q4 := zb_t q4
          refine lv_iload hx hb d_M_constituent_51 (lv_at hl 0 rfl) ?_
          refine lv_if_ne hx hb d_M_constituent_53 (tgt := 60) (by decide) (fun q5 => ?_) (fun q5 => ?_)
          · have q5 := mt iv_eq0.mpr q5
            rw [nI_toInt (n := 0) (by decide)] at q5
            refine lv_iconst hx hb d_M_constituent_60 (v := (nI 0)) rfl ?_
            exfalso
            omega
          · have q5 := iv_eq0.mp q5
            rw [nI_toInt (n := 0) (by decide)] at q5
            refine lv_iconst hx hb d_M_constituent_56 (v := (nI 2)) rfl ?_
            refine lv_goto hx hb d_M_constituent_57 (tgt := 61) (by decide) ?_
            refine tq_put (F := mF am) hx hb hts (fun w h => hT w (uM_in w h)) tM tM_ok nM hown hK (tm_one hM 0 rfl) (ci := 1) rfl 0 (by decide) (hts _ (hT _ k_M_43)) (fun _ h => h) rfl (ty := .int) rfl rfl rfl (Nat.le_of_ble_eq_true rfl) ⟨0, by decide, rfl⟩ hL d_M_constituent_61 (fun H1 locs1 hP1 hz1 hq1 hL => ?_)
            have hM : tm D ci am g (nI 2) fo sz hs mi hi tx H1 := tm_set hD hM 0 (by decide) rfl hP1 (fun j hj => by rcases j with _ | _ | _ | _ | _ | _ | _ | _ | _ | _ | _ | j <;> first | rfl | exact absurd rfl hj) hq1
            have hO := hO.tr (mO.put (k := 0) (by decide) hz1 hq1)
            refine lv_aload_n hx hb d_M_constituent_64 rfl (lv_at hl 1 rfl) ?_
            refine va_get hx hb hts (fun w h => hT w (uM_in w h)) hown hK hM 0 rfl rfl 0 (by decide) (hts _ (hT _ k_M_43)) (fun _ h => h) rfl d_M_constituent_65 ?_
            refine lv_if_eq hx hb d_M_constituent_68 (tgt := 72) (by decide) (fun hyes => absurd hyes (by decide)) (fun _ => ?_)
            exact W.vret hx hb hr (fun t ht hW => ⟨_, rfl, rfl, by rw [ht]; exact hM, by rw [ht]; exact hO⟩) hL d_M_constituent_71
        · have q4 := zb_f q4
          refine lv_iconst hx hb d_M_constituent_47 (v := (nI 1)) rfl ?_
          refine lv_goto hx hb d_M_constituent_48 (tgt := 61) (by decide) ?_
          exfalso
          omega
      · have q3 := mt ((lg_cmp_lt _ _).trans Int64.lt_iff_toInt_lt).mpr q3
        rw [pk_lT (n := 0) (by decide)] at q3
        refine lv_lload_n hx hb d_M_constituent_16 rfl (lv_at hl 3 rfl) ?_
        refine lv_ldc2 hx hb (v := (lN 1099511627776)) hown (hts _ (hT _ k_M_55)) d_M_constituent_17 ?_
        refine W.lcmp hx hb d_M_constituent_20 ?_
        refine lv_if_ge hx hb d_M_constituent_21 (tgt := 36) (by decide) (fun q4 => ?_) (fun q4 => ?_)
        · have q4 := ((lg_cmp_ge _ _).trans Int64.le_iff_toInt_le).mp q4
          rw [pk_lT (n := 1099511627776) (by decide)] at q4
          refine lv_iconst hx hb d_M_constituent_36 (v := (nI 0)) rfl ?_
          refine lv_istore hx hb d_M_constituent_37 hl (by decide) (lv' := [(7, .int (nI 0)), (0, .ref (am 0)), (1, .int u), (2, .int v), (3, .long x), (5, .long z)]) rfl (fun ls hl => ?_)
          refine lv_aload_n hx hb d_M_constituent_39 rfl (lv_at hl 1 rfl) ?_
          refine lv_iload_n hx hb d_M_constituent_40 rfl (lv_at hl 2 rfl) ?_
          refine tq_S ⟨hx, hb, hml, hown, hts⟩ hT (c_M_isOne l u) lk_M_61 wN_mv trivial rfl hl.1 rfl (Nat.le_of_ble_eq_true rfl) d_M_constituent_41 ⟨rfl, rfl, Nat.le_of_ble_eq_true rfl, Nat.le_of_ble_eq_true rfl⟩ ⟨Nat.zero_le _, Nat.zero_le _⟩ ?_
          refine lv_if_ne hx hb d_M_constituent_44 (tgt := 51) (by decide) (fun q5 => ?_) (fun q5 => ?_)
          · have q5 := zb_t q5
            refine lv_iload hx hb d_M_constituent_51 (lv_at hl 0 rfl) ?_
            refine lv_if_ne hx hb d_M_constituent_53 (tgt := 60) (by decide) (fun q6 => ?_) (fun q6 => ?_)
            · have q6 := mt iv_eq0.mpr q6
              rw [nI_toInt (n := 0) (by decide)] at q6
              refine lv_iconst hx hb d_M_constituent_60 (v := (nI 0)) rfl ?_
              exfalso
              omega
            · have q6 := iv_eq0.mp q6
              rw [nI_toInt (n := 0) (by decide)] at q6
              refine lv_iconst hx hb d_M_constituent_56 (v := (nI 2)) rfl ?_
              refine lv_goto hx hb d_M_constituent_57 (tgt := 61) (by decide) ?_
              refine tq_put (F := mF am) hx hb hts (fun w h => hT w (uM_in w h)) tM tM_ok nM hown hK (tm_one hM 0 rfl) (ci := 1) rfl 0 (by decide) (hts _ (hT _ k_M_43)) (fun _ h => h) rfl (ty := .int) rfl rfl rfl (Nat.le_of_ble_eq_true rfl) ⟨0, by decide, rfl⟩ hL d_M_constituent_61 (fun H1 locs1 hP1 hz1 hq1 hL => ?_)
              have hM : tm D ci am g (nI 2) fo sz hs mi hi tx H1 := tm_set hD hM 0 (by decide) rfl hP1 (fun j hj => by rcases j with _ | _ | _ | _ | _ | _ | _ | _ | _ | _ | _ | j <;> first | rfl | exact absurd rfl hj) hq1
              have hO := hO.tr (mO.put (k := 0) (by decide) hz1 hq1)
              refine lv_aload_n hx hb d_M_constituent_64 rfl (lv_at hl 1 rfl) ?_
              refine va_get hx hb hts (fun w h => hT w (uM_in w h)) hown hK hM 0 rfl rfl 0 (by decide) (hts _ (hT _ k_M_43)) (fun _ h => h) rfl d_M_constituent_65 ?_
              refine lv_if_eq hx hb d_M_constituent_68 (tgt := 72) (by decide) (fun hyes => absurd hyes (by decide)) (fun _ => ?_)
              exact W.vret hx hb hr (fun t ht hW => ⟨_, rfl, rfl, by rw [ht]; exact hM, by rw [ht]; exact hO⟩) hL d_M_constituent_71
          · have q5 := zb_f q5
            refine lv_iconst hx hb d_M_constituent_47 (v := (nI 1)) rfl ?_
            refine lv_goto hx hb d_M_constituent_48 (tgt := 61) (by decide) ?_
            exfalso
            omega
        · have q4 := mt ((lg_cmp_ge _ _).trans Int64.le_iff_toInt_le).mpr q4
          rw [pk_lT (n := 1099511627776) (by decide)] at q4
          refine lv_lload hx hb d_M_constituent_24 (lv_at hl 4 rfl) ?_
          refine tq_S ⟨hx, hb, hml, hown, hts⟩ hT (c_M_isTurn l z) lk_M_57 wN_mv trivial rfl hl.1 rfl (Nat.le_of_ble_eq_true rfl) d_M_constituent_26 ⟨rfl, rfl, Nat.le_of_ble_eq_true rfl, Nat.le_of_ble_eq_true rfl⟩ ⟨Nat.zero_le _, Nat.zero_le _⟩ ?_
          refine lv_if_eq hx hb d_M_constituent_29 (tgt := 36) (by decide) (fun q5 => ?_) (fun q5 => ?_)
          · have q5 := zb_f q5
            refine lv_iconst hx hb d_M_constituent_36 (v := (nI 0)) rfl ?_
            refine lv_istore hx hb d_M_constituent_37 hl (by decide) (lv' := [(7, .int (nI 0)), (0, .ref (am 0)), (1, .int u), (2, .int v), (3, .long x), (5, .long z)]) rfl (fun ls hl => ?_)
            refine lv_aload_n hx hb d_M_constituent_39 rfl (lv_at hl 1 rfl) ?_
            refine lv_iload_n hx hb d_M_constituent_40 rfl (lv_at hl 2 rfl) ?_
            refine tq_S ⟨hx, hb, hml, hown, hts⟩ hT (c_M_isOne l u) lk_M_61 wN_mv trivial rfl hl.1 rfl (Nat.le_of_ble_eq_true rfl) d_M_constituent_41 ⟨rfl, rfl, Nat.le_of_ble_eq_true rfl, Nat.le_of_ble_eq_true rfl⟩ ⟨Nat.zero_le _, Nat.zero_le _⟩ ?_
            refine lv_if_ne hx hb d_M_constituent_44 (tgt := 51) (by decide) (fun q6 => ?_) (fun q6 => ?_)
            · have q6 := zb_t q6
              refine lv_iload hx hb d_M_constituent_51 (lv_at hl 0 rfl) ?_
              refine lv_if_ne hx hb d_M_constituent_53 (tgt := 60) (by decide) (fun q7 => ?_) (fun q7 => ?_)
              · have q7 := mt iv_eq0.mpr q7
                rw [nI_toInt (n := 0) (by decide)] at q7
                refine lv_iconst hx hb d_M_constituent_60 (v := (nI 0)) rfl ?_
                exfalso
                omega
              · have q7 := iv_eq0.mp q7
                rw [nI_toInt (n := 0) (by decide)] at q7
                refine lv_iconst hx hb d_M_constituent_56 (v := (nI 2)) rfl ?_
                refine lv_goto hx hb d_M_constituent_57 (tgt := 61) (by decide) ?_
                refine tq_put (F := mF am) hx hb hts (fun w h => hT w (uM_in w h)) tM tM_ok nM hown hK (tm_one hM 0 rfl) (ci := 1) rfl 0 (by decide) (hts _ (hT _ k_M_43)) (fun _ h => h) rfl (ty := .int) rfl rfl rfl (Nat.le_of_ble_eq_true rfl) ⟨0, by decide, rfl⟩ hL d_M_constituent_61 (fun H1 locs1 hP1 hz1 hq1 hL => ?_)
                have hM : tm D ci am g (nI 2) fo sz hs mi hi tx H1 := tm_set hD hM 0 (by decide) rfl hP1 (fun j hj => by rcases j with _ | _ | _ | _ | _ | _ | _ | _ | _ | _ | _ | j <;> first | rfl | exact absurd rfl hj) hq1
                have hO := hO.tr (mO.put (k := 0) (by decide) hz1 hq1)
                refine lv_aload_n hx hb d_M_constituent_64 rfl (lv_at hl 1 rfl) ?_
                refine va_get hx hb hts (fun w h => hT w (uM_in w h)) hown hK hM 0 rfl rfl 0 (by decide) (hts _ (hT _ k_M_43)) (fun _ h => h) rfl d_M_constituent_65 ?_
                refine lv_if_eq hx hb d_M_constituent_68 (tgt := 72) (by decide) (fun hyes => absurd hyes (by decide)) (fun _ => ?_)
                exact W.vret hx hb hr (fun t ht hW => ⟨_, rfl, rfl, by rw [ht]; exact hM, by rw [ht]; exact hO⟩) hL d_M_constituent_71
            · have q6 := zb_f q6
              refine lv_iconst hx hb d_M_constituent_47 (v := (nI 1)) rfl ?_
              refine lv_goto hx hb d_M_constituent_48 (tgt := 61) (by decide) ?_
              exfalso
              omega
          · have q5 := zb_t q5
            refine lv_iconst hx hb d_M_constituent_32 (v := (nI 1)) rfl ?_
            refine lv_goto hx hb d_M_constituent_33 (tgt := 37) (by decide) ?_
            refine lv_istore hx hb d_M_constituent_37 hl (by decide) (lv' := [(7, .int (nI 1)), (0, .ref (am 0)), (1, .int u), (2, .int v), (3, .long x), (5, .long z)]) rfl (fun ls hl => ?_)
            refine lv_aload_n hx hb d_M_constituent_39 rfl (lv_at hl 1 rfl) ?_
            refine lv_iload_n hx hb d_M_constituent_40 rfl (lv_at hl 2 rfl) ?_
            refine tq_S ⟨hx, hb, hml, hown, hts⟩ hT (c_M_isOne l u) lk_M_61 wN_mv trivial rfl hl.1 rfl (Nat.le_of_ble_eq_true rfl) d_M_constituent_41 ⟨rfl, rfl, Nat.le_of_ble_eq_true rfl, Nat.le_of_ble_eq_true rfl⟩ ⟨Nat.zero_le _, Nat.zero_le _⟩ ?_
            refine lv_if_ne hx hb d_M_constituent_44 (tgt := 51) (by decide) (fun q6 => ?_) (fun q6 => ?_)
            · have q6 := zb_t q6
              refine lv_iload hx hb d_M_constituent_51 (lv_at hl 0 rfl) ?_
              refine lv_if_ne hx hb d_M_constituent_53 (tgt := 60) (by decide) (fun q7 => ?_) (fun q7 => ?_)
              · have q7 := mt iv_eq0.mpr q7
                rw [nI_toInt (n := 1) (by decide)] at q7
                refine lv_iconst hx hb d_M_constituent_60 (v := (nI 0)) rfl ?_
                exfalso
                omega
              · have q7 := iv_eq0.mp q7
                rw [nI_toInt (n := 1) (by decide)] at q7
                refine lv_iconst hx hb d_M_constituent_56 (v := (nI 2)) rfl ?_
                refine lv_goto hx hb d_M_constituent_57 (tgt := 61) (by decide) ?_
                refine tq_put (F := mF am) hx hb hts (fun w h => hT w (uM_in w h)) tM tM_ok nM hown hK (tm_one hM 0 rfl) (ci := 1) rfl 0 (by decide) (hts _ (hT _ k_M_43)) (fun _ h => h) rfl (ty := .int) rfl rfl rfl (Nat.le_of_ble_eq_true rfl) ⟨0, by decide, rfl⟩ hL d_M_constituent_61 (fun H1 locs1 hP1 hz1 hq1 hL => ?_)
                have hM : tm D ci am g (nI 2) fo sz hs mi hi tx H1 := tm_set hD hM 0 (by decide) rfl hP1 (fun j hj => by rcases j with _ | _ | _ | _ | _ | _ | _ | _ | _ | _ | _ | j <;> first | rfl | exact absurd rfl hj) hq1
                have hO := hO.tr (mO.put (k := 0) (by decide) hz1 hq1)
                refine lv_aload_n hx hb d_M_constituent_64 rfl (lv_at hl 1 rfl) ?_
                refine va_get hx hb hts (fun w h => hT w (uM_in w h)) hown hK hM 0 rfl rfl 0 (by decide) (hts _ (hT _ k_M_43)) (fun _ h => h) rfl d_M_constituent_65 ?_
                refine lv_if_eq hx hb d_M_constituent_68 (tgt := 72) (by decide) (fun hyes => absurd hyes (by decide)) (fun _ => ?_)
                exact W.vret hx hb hr (fun t ht hW => ⟨_, rfl, rfl, by rw [ht]; exact hM, by rw [ht]; exact hO⟩) hL d_M_constituent_71
            · have q6 := zb_f q6
              refine lv_iconst hx hb d_M_constituent_47 (v := (nI 1)) rfl ?_
              refine lv_goto hx hb d_M_constituent_48 (tgt := 61) (by decide) ?_
              exfalso
              omega
theorem up_fac {g : TS} {i y f : Nat} (hy : y < 10) : upd (fun j => nI (tt_fac g (j / 10) (j % 10))) (10 * i + y) (nI f) = fun j => nI (tt_fac (ts_fac g i y f) (j / 10) (j % 10)) := by
  funext j
  show _ = nI (if j / 10 = i ∧ j % 10 = y then f else tt_fac g (j / 10) (j % 10))
  unfold upd
  by_cases e : j = 10 * i + y
  · rw [if_pos e, if_pos (by omega)]
  · rw [if_neg e, if_neg (by omega)]
theorem up_shf {g : TS} {i y f : Nat} (hy : y < 10) : vp_updL (fun j => lN (tt_shf g (j / 10) (j % 10))) (10 * i + y) (lN f) = fun j => lN (tt_shf (ts_shf g i y f) (j / 10) (j % 10)) := by
  funext j
  show _ = lN (if j / 10 = i ∧ j % 10 = y then f else tt_shf g (j / 10) (j % 10))
  unfold vp_updL
  by_cases e : j = 10 * i + y
  · rw [if_pos e, if_pos (by omega)]
  · rw [if_neg e, if_neg (by omega)]
set_option maxHeartbeats 4000000 in
set_option maxRecDepth 100000 in
theorem c_M_node (l : Launch) (D : va_G) (ci : Nat → ClassId) (am : Nat → Nat) (g : TS) (th fo sz : Int32) (hs mi hi tx : Nat → Int32) {i y f sh : Nat} (hi8 : i < 8) (hy : y < 10) (hf : f ≤ 81920) (hsh : sh < 281474976710656) : Met l y_M_node (wT y_M_node b_M_node 6 none) (rP 1 21) (tb (wMD D ci am g th fo sz hs mi hi tx) [.ref (am 0), .int (nI i), .int (nI y), .int (nI f), .long (lN sh)]) (qM D ci am (ts_shf (ts_fac g i y f) i y sh) (nI 0) fo sz hs mi hi tx (none)) 0 0 (mF am) := by
  refine Met.ofW (cc := b_M_node) (maxL := 6) (ret := none) (by decide) rfl ?_
  intro p e s m args below meth c s₁ B hml hv
  obtain ⟨rfl, hK, hg, hM, hD⟩ := hv
  have hx := B.exec
  have hb := B.bytes
  have hr := B.returns
  have hts := atoms_spec (ws := wT y_M_node b_M_node 6 none) B.pre
  have hT : ∀ w ∈ TT, w ∈ wT y_M_node b_M_node 6 none := wT_T
  have hown : s.vm.findClass RM = some m.cls := findClass_of_methodNamed B.named
  have hlocks := B.notSynchronized
  have hl := lv_entry ([.ref (am 0), .int (nI i), .int (nI y), .int (nI f), .long (lN sh)]) (n := 6) (Nat.le_of_ble_eq_true rfl)
  rw [lg_entry_eq]
  generalize (lg_sl ([.ref (am 0), .int (nI i), .int (nI y), .int (nI f), .long (lN sh)]) ++ List.replicate (6 - (lg_sl ([.ref (am 0), .int (nI i), .int (nI y), .int (nI f), .long (lN sh)])).length) Slot.unset).toArray = ls at hl ⊢
  have hl : lv_has ls 6 [(0, .ref (am 0)), (1, .int (nI i)), (2, .int (nI y)), (3, .int (nI f)), (4, .long (lN sh))] := hl
  have hL : ∀ q ∈ ([] : List Loc), mF am q.base := fun q hq => nomatch hq
  have hO : mO am s.heap s.heap := mO.rf
  have ei : (nI i).toInt = i := nI_toInt (by omega)
  have ey : (nI y).toInt = y := nI_toInt (by omega)
  have ef : (nI f).toInt = f := nI_toInt (by omega)
  have es : (lN sh).toInt = sh := pk_lT (by omega)
  refine lv_aload_n hx hb d_M_node_0 rfl (lv_at hl 0 rfl) ?_
  refine lv_iload_n hx hb d_M_node_1 rfl (lv_at hl 1 rfl) ?_
  refine tq_S ⟨hx, hb, hml, hown, hts⟩ hT (c_M_isOne l (nI i)) lk_M_61 wN_mv trivial rfl hl.1 rfl (Nat.le_of_ble_eq_true rfl) d_M_node_2 ⟨rfl, rfl, Nat.le_of_ble_eq_true rfl, Nat.le_of_ble_eq_true rfl⟩ ⟨Nat.zero_le _, Nat.zero_le _⟩ ?_
  refine lv_if_eq hx hb d_M_node_5 (tgt := 15) (by decide) (fun q1 => ?_) (fun q1 => ?_)
  · have q1 := zb_f q1
    refine lv_iconst hx hb d_M_node_15 (v := (nI 1)) rfl ?_
    refine lv_goto hx hb d_M_node_16 (tgt := 42) (by decide) ?_
    exfalso
    omega
  · have q1 := zb_t q1
    refine lv_iload_n hx hb d_M_node_8 rfl (lv_at hl 2 rfl) ?_
    refine tq_S ⟨hx, hb, hml, hown, hts⟩ hT (c_M_isYear l (nI y)) lk_M_65 wN_mv trivial rfl hl.1 rfl (Nat.le_of_ble_eq_true rfl) d_M_node_9 ⟨rfl, rfl, Nat.le_of_ble_eq_true rfl, Nat.le_of_ble_eq_true rfl⟩ ⟨Nat.zero_le _, Nat.zero_le _⟩ ?_
    refine lv_if_ne hx hb d_M_node_12 (tgt := 19) (by decide) (fun q2 => ?_) (fun q2 => ?_)
    · have q2 := zb_t q2
      refine lv_iload_n hx hb d_M_node_19 rfl (lv_at hl 3 rfl) ?_
      refine lv_if_lt hx hb d_M_node_20 (tgt := 37) (by decide) (fun q3 => ?_) (fun q3 => ?_)
      · have q3 := iv_lt0.mp q3
        refine lv_iconst hx hb d_M_node_37 (v := (nI 2)) rfl ?_
        refine lv_goto hx hb d_M_node_38 (tgt := 42) (by decide) ?_
        exfalso
        omega
      · have q3 := mt iv_lt0.mpr q3
        refine lv_iload_n hx hb d_M_node_23 rfl (lv_at hl 3 rfl) ?_
        refine lv_ldc hx hb (v := (nI 81920)) hown (hts _ (hT _ k_M_68)) d_M_node_24 ?_
        refine lv_icmp_gt hx hb d_M_node_26 (tgt := 37) (by decide) (fun q4 => ?_) (fun q4 => ?_)
        · have q4 := Int32.lt_iff_toInt_lt.mp q4
          rw [nI_toInt (n := 81920) (by decide)] at q4
          refine lv_iconst hx hb d_M_node_37 (v := (nI 2)) rfl ?_
          refine lv_goto hx hb d_M_node_38 (tgt := 42) (by decide) ?_
          exfalso
          omega
        · have q4 := mt Int32.lt_iff_toInt_lt.mpr q4
          rw [nI_toInt (n := 81920) (by decide)] at q4
          refine lv_lload hx hb d_M_node_29 (lv_at hl 4 rfl) ?_
          refine tq_S ⟨hx, hb, hml, hown, hts⟩ hT (c_M_isTurn l (lN sh)) lk_M_57 wN_mv trivial rfl hl.1 rfl (Nat.le_of_ble_eq_true rfl) d_M_node_31 ⟨rfl, rfl, Nat.le_of_ble_eq_true rfl, Nat.le_of_ble_eq_true rfl⟩ ⟨Nat.zero_le _, Nat.zero_le _⟩ ?_
          refine lv_if_ne hx hb d_M_node_34 (tgt := 41) (by decide) (fun q5 => ?_) (fun q5 => ?_)
          · have q5 := zb_t q5
            refine lv_iconst hx hb d_M_node_41 (v := (nI 0)) rfl ?_
            refine tq_put (F := mF am) hx hb hts (fun w h => hT w (uM_in w h)) tM tM_ok nM hown hK (tm_one hM 0 rfl) (ci := 1) rfl 0 (by decide) (hts _ (hT _ k_M_43)) (fun _ h => h) rfl (ty := .int) rfl rfl rfl (Nat.le_of_ble_eq_true rfl) ⟨0, by decide, rfl⟩ hL d_M_node_42 (fun H1 locs1 hP1 hz1 hq1 hL => ?_)
            have hM : tm D ci am g (nI 0) fo sz hs mi hi tx H1 := tm_set hD hM 0 (by decide) rfl hP1 (fun j hj => by rcases j with _ | _ | _ | _ | _ | _ | _ | _ | _ | _ | _ | j <;> first | rfl | exact absurd rfl hj) hq1
            have hO := hO.tr (mO.put (k := 0) (by decide) hz1 hq1)
            refine lv_aload_n hx hb d_M_node_45 rfl (lv_at hl 0 rfl) ?_
            refine va_get hx hb hts (fun w h => hT w (uM_in w h)) hown hK hM 0 rfl rfl 0 (by decide) (hts _ (hT _ k_M_43)) (fun _ h => h) rfl d_M_node_46 ?_
            refine lv_if_eq hx hb d_M_node_49 (tgt := 53) (by decide) (fun _ => ?_) (fun hno => absurd (by decide) hno)
            refine lv_aload_n hx hb d_M_node_53 rfl (lv_at hl 0 rfl) ?_
            refine va_get hx hb hts (fun w h => hT w (uM_in w h)) hown hK hM 0 rfl rfl 6 (by decide) (hts _ (hT _ k_M_23)) (fun _ h => h) rfl d_M_node_54 ?_
            refine lv_bipush hx hb d_M_node_57 (v := (nI 10)) rfl ?_
            refine lv_iload_n hx hb d_M_node_59 rfl (lv_at hl 1 rfl) ?_
            refine lv_imul hx hb d_M_node_60 ?_
            refine lv_iload_n hx hb d_M_node_61 rfl (lv_at hl 2 rfl) ?_
            refine lv_iadd hx hb d_M_node_62 ?_
            refine tq_ti (show _ = (nI (10 * i + y)) from (by rw [pk_mul, nI_add])) ?_
            refine lv_iload_n hx hb d_M_node_63 rfl (lv_at hl 3 rfl) ?_
            refine tq_iast (F := mF am) hx hb hK 0 (tm_one hM 5 rfl) rfl (show 10 * i + y < 80 by omega) (by decide) ⟨5, by decide, rfl⟩ hL d_M_node_64 (fun H1 locs1 hP1 hz1 hq1 hL => ?_)
            rw [up_fac hy] at hP1
            have hM : tm D ci am (ts_fac g i y f) (nI 0) fo sz hs mi hi tx H1 := tm_set hD hM 5 (by decide) rfl hP1 (fun j hj => by rcases j with _ | _ | _ | _ | _ | _ | _ | _ | _ | _ | _ | j <;> first | rfl | exact absurd rfl hj) hq1
            have hO := hO.tr (mO.put (k := 5) (by decide) hz1 hq1)
            refine lv_aload_n hx hb d_M_node_65 rfl (lv_at hl 0 rfl) ?_
            refine va_get hx hb hts (fun w h => hT w (uM_in w h)) hown hK hM 0 rfl rfl 7 (by decide) (hts _ (hT _ k_M_26)) (fun _ h => h) rfl d_M_node_66 ?_
            refine lv_bipush hx hb d_M_node_69 (v := (nI 10)) rfl ?_
            refine lv_iload_n hx hb d_M_node_71 rfl (lv_at hl 1 rfl) ?_
            refine lv_imul hx hb d_M_node_72 ?_
            refine lv_iload_n hx hb d_M_node_73 rfl (lv_at hl 2 rfl) ?_
            refine lv_iadd hx hb d_M_node_74 ?_
            refine tq_ti (show _ = (nI (10 * i + y)) from (by rw [pk_mul, nI_add])) ?_
            refine lv_lload hx hb d_M_node_75 (lv_at hl 4 rfl) ?_
            refine tq_last (F := mF am) hx hb hK 1 (tm_one hM 6 rfl) rfl (show 10 * i + y < 80 by omega) (by decide) ⟨6, by decide, rfl⟩ hL d_M_node_77 (fun H1 locs1 hP1 hz1 hq1 hL => ?_)
            rw [up_shf hy] at hP1
            have hM : tm D ci am (ts_shf (ts_fac g i y f) i y sh) (nI 0) fo sz hs mi hi tx H1 := tm_set hD hM 6 (by decide) rfl hP1 (fun j hj => by rcases j with _ | _ | _ | _ | _ | _ | _ | _ | _ | _ | _ | j <;> first | rfl | exact absurd rfl hj) hq1
            have hO := hO.tr (mO.put (k := 6) (by decide) hz1 hq1)
            exact W.vret hx hb hr (fun t ht hW => ⟨_, rfl, rfl, by rw [ht]; exact hM, by rw [ht]; exact hO⟩) hL d_M_node_78
          · have q5 := zb_f q5
            refine lv_iconst hx hb d_M_node_37 (v := (nI 2)) rfl ?_
            refine lv_goto hx hb d_M_node_38 (tgt := 42) (by decide) ?_
            exfalso
            omega
    · have q2 := zb_f q2
      refine lv_iconst hx hb d_M_node_15 (v := (nI 1)) rfl ?_
      refine lv_goto hx hb d_M_node_16 (tgt := 42) (by decide) ?_
      exfalso
      omega
set_option maxHeartbeats 4000000 in
set_option maxRecDepth 100000 in
theorem x_M_nodeI (l : Launch) (D : va_G) (ci : Nat → ClassId) (am : Nat → Nat) (g : TS) (th fo sz : Int32) (hs mi hi tx : Nat → Int32) (u v x : Int32) (z : Int64) (hv0 : ¬ ((0 ≤ u.toInt ∧ u.toInt < 8) ∧ 0 ≤ v.toInt ∧ v.toInt < 10)) : Met l y_M_node (wT y_M_node b_M_node 6 none) (rP 1 21) (tb (wMD D ci am g th fo sz hs mi hi tx) [.ref (am 0), .int u, .int v, .int x, .long z]) (qM D ci am g (nI 1) fo sz hs mi hi tx (none)) 0 0 (mF am) := by
  refine Met.ofW (cc := b_M_node) (maxL := 6) (ret := none) (by decide) rfl ?_
  intro p e s m args below meth c s₁ B hml hv
  obtain ⟨rfl, hK, hg, hM, hD⟩ := hv
  have hx := B.exec
  have hb := B.bytes
  have hr := B.returns
  have hts := atoms_spec (ws := wT y_M_node b_M_node 6 none) B.pre
  have hT : ∀ w ∈ TT, w ∈ wT y_M_node b_M_node 6 none := wT_T
  have hown : s.vm.findClass RM = some m.cls := findClass_of_methodNamed B.named
  have hlocks := B.notSynchronized
  have hl := lv_entry ([.ref (am 0), .int u, .int v, .int x, .long z]) (n := 6) (Nat.le_of_ble_eq_true rfl)
  rw [lg_entry_eq]
  generalize (lg_sl ([.ref (am 0), .int u, .int v, .int x, .long z]) ++ List.replicate (6 - (lg_sl ([.ref (am 0), .int u, .int v, .int x, .long z])).length) Slot.unset).toArray = ls at hl ⊢
  have hl : lv_has ls 6 [(0, .ref (am 0)), (1, .int u), (2, .int v), (3, .int x), (4, .long z)] := hl
  have hL : ∀ q ∈ ([] : List Loc), mF am q.base := fun q hq => nomatch hq
  have hO : mO am s.heap s.heap := mO.rf
  refine lv_aload_n hx hb d_M_node_0 rfl (lv_at hl 0 rfl) ?_
  refine lv_iload_n hx hb d_M_node_1 rfl (lv_at hl 1 rfl) ?_
  refine tq_S ⟨hx, hb, hml, hown, hts⟩ hT (c_M_isOne l u) lk_M_61 wN_mv trivial rfl hl.1 rfl (Nat.le_of_ble_eq_true rfl) d_M_node_2 ⟨rfl, rfl, Nat.le_of_ble_eq_true rfl, Nat.le_of_ble_eq_true rfl⟩ ⟨Nat.zero_le _, Nat.zero_le _⟩ ?_
  refine lv_if_eq hx hb d_M_node_5 (tgt := 15) (by decide) (fun q1 => ?_) (fun q1 => ?_)
  · have q1 := zb_f q1
    refine lv_iconst hx hb d_M_node_15 (v := (nI 1)) rfl ?_
    refine lv_goto hx hb d_M_node_16 (tgt := 42) (by decide) ?_
    refine tq_put (F := mF am) hx hb hts (fun w h => hT w (uM_in w h)) tM tM_ok nM hown hK (tm_one hM 0 rfl) (ci := 1) rfl 0 (by decide) (hts _ (hT _ k_M_43)) (fun _ h => h) rfl (ty := .int) rfl rfl rfl (Nat.le_of_ble_eq_true rfl) ⟨0, by decide, rfl⟩ hL d_M_node_42 (fun H1 locs1 hP1 hz1 hq1 hL => ?_)
    have hM : tm D ci am g (nI 1) fo sz hs mi hi tx H1 := tm_set hD hM 0 (by decide) rfl hP1 (fun j hj => by rcases j with _ | _ | _ | _ | _ | _ | _ | _ | _ | _ | _ | j <;> first | rfl | exact absurd rfl hj) hq1
    have hO := hO.tr (mO.put (k := 0) (by decide) hz1 hq1)
    refine lv_aload_n hx hb d_M_node_45 rfl (lv_at hl 0 rfl) ?_
    refine va_get hx hb hts (fun w h => hT w (uM_in w h)) hown hK hM 0 rfl rfl 0 (by decide) (hts _ (hT _ k_M_43)) (fun _ h => h) rfl d_M_node_46 ?_
    refine lv_if_eq hx hb d_M_node_49 (tgt := 53) (by decide) (fun hyes => absurd hyes (by decide)) (fun _ => ?_)
    exact W.vret hx hb hr (fun t ht hW => ⟨_, rfl, rfl, by rw [ht]; exact hM, by rw [ht]; exact hO⟩) hL d_M_node_52
  · have q1 := zb_t q1
    refine lv_iload_n hx hb d_M_node_8 rfl (lv_at hl 2 rfl) ?_
    refine tq_S ⟨hx, hb, hml, hown, hts⟩ hT (c_M_isYear l v) lk_M_65 wN_mv trivial rfl hl.1 rfl (Nat.le_of_ble_eq_true rfl) d_M_node_9 ⟨rfl, rfl, Nat.le_of_ble_eq_true rfl, Nat.le_of_ble_eq_true rfl⟩ ⟨Nat.zero_le _, Nat.zero_le _⟩ ?_
    refine lv_if_ne hx hb d_M_node_12 (tgt := 19) (by decide) (fun q2 => ?_) (fun q2 => ?_)
    · have q2 := zb_t q2
      refine lv_iload_n hx hb d_M_node_19 rfl (lv_at hl 3 rfl) ?_
      refine lv_if_lt hx hb d_M_node_20 (tgt := 37) (by decide) (fun q3 => ?_) (fun q3 => ?_)
      · have q3 := iv_lt0.mp q3
        refine lv_iconst hx hb d_M_node_37 (v := (nI 2)) rfl ?_
        refine lv_goto hx hb d_M_node_38 (tgt := 42) (by decide) ?_
        exfalso
        omega
      · have q3 := mt iv_lt0.mpr q3
        refine lv_iload_n hx hb d_M_node_23 rfl (lv_at hl 3 rfl) ?_
        refine lv_ldc hx hb (v := (nI 81920)) hown (hts _ (hT _ k_M_68)) d_M_node_24 ?_
        refine lv_icmp_gt hx hb d_M_node_26 (tgt := 37) (by decide) (fun q4 => ?_) (fun q4 => ?_)
        · have q4 := Int32.lt_iff_toInt_lt.mp q4
          rw [nI_toInt (n := 81920) (by decide)] at q4
          refine lv_iconst hx hb d_M_node_37 (v := (nI 2)) rfl ?_
          refine lv_goto hx hb d_M_node_38 (tgt := 42) (by decide) ?_
          exfalso
          omega
        · have q4 := mt Int32.lt_iff_toInt_lt.mpr q4
          rw [nI_toInt (n := 81920) (by decide)] at q4
          refine lv_lload hx hb d_M_node_29 (lv_at hl 4 rfl) ?_
          refine tq_S ⟨hx, hb, hml, hown, hts⟩ hT (c_M_isTurn l z) lk_M_57 wN_mv trivial rfl hl.1 rfl (Nat.le_of_ble_eq_true rfl) d_M_node_31 ⟨rfl, rfl, Nat.le_of_ble_eq_true rfl, Nat.le_of_ble_eq_true rfl⟩ ⟨Nat.zero_le _, Nat.zero_le _⟩ ?_
          refine lv_if_ne hx hb d_M_node_34 (tgt := 41) (by decide) (fun q5 => ?_) (fun q5 => ?_)
          · have q5 := zb_t q5
            refine lv_iconst hx hb d_M_node_41 (v := (nI 0)) rfl ?_
            exfalso
            omega
          · have q5 := zb_f q5
            refine lv_iconst hx hb d_M_node_37 (v := (nI 2)) rfl ?_
            refine lv_goto hx hb d_M_node_38 (tgt := 42) (by decide) ?_
            exfalso
            omega
    · have q2 := zb_f q2
      refine lv_iconst hx hb d_M_node_15 (v := (nI 1)) rfl ?_
      refine lv_goto hx hb d_M_node_16 (tgt := 42) (by decide) ?_
      refine tq_put (F := mF am) hx hb hts (fun w h => hT w (uM_in w h)) tM tM_ok nM hown hK (tm_one hM 0 rfl) (ci := 1) rfl 0 (by decide) (hts _ (hT _ k_M_43)) (fun _ h => h) rfl (ty := .int) rfl rfl rfl (Nat.le_of_ble_eq_true rfl) ⟨0, by decide, rfl⟩ hL d_M_node_42 (fun H1 locs1 hP1 hz1 hq1 hL => ?_)
      have hM : tm D ci am g (nI 1) fo sz hs mi hi tx H1 := tm_set hD hM 0 (by decide) rfl hP1 (fun j hj => by rcases j with _ | _ | _ | _ | _ | _ | _ | _ | _ | _ | _ | j <;> first | rfl | exact absurd rfl hj) hq1
      have hO := hO.tr (mO.put (k := 0) (by decide) hz1 hq1)
      refine lv_aload_n hx hb d_M_node_45 rfl (lv_at hl 0 rfl) ?_
      refine va_get hx hb hts (fun w h => hT w (uM_in w h)) hown hK hM 0 rfl rfl 0 (by decide) (hts _ (hT _ k_M_43)) (fun _ h => h) rfl d_M_node_46 ?_
      refine lv_if_eq hx hb d_M_node_49 (tgt := 53) (by decide) (fun hyes => absurd hyes (by decide)) (fun _ => ?_)
      exact W.vret hx hb hr (fun t ht hW => ⟨_, rfl, rfl, by rw [ht]; exact hM, by rw [ht]; exact hO⟩) hL d_M_node_52
set_option maxHeartbeats 4000000 in
set_option maxRecDepth 100000 in
theorem x_M_nodeA (l : Launch) (D : va_G) (ci : Nat → ClassId) (am : Nat → Nat) (g : TS) (th fo sz : Int32) (hs mi hi tx : Nat → Int32) (u v x : Int32) (z : Int64) (hv1 : (0 ≤ u.toInt ∧ u.toInt < 8) ∧ 0 ≤ v.toInt ∧ v.toInt < 10) (hv0 : ¬ ((0 ≤ x.toInt ∧ x.toInt ≤ 81920) ∧ 0 ≤ z.toInt ∧ z.toInt < 281474976710656)) : Met l y_M_node (wT y_M_node b_M_node 6 none) (rP 1 21) (tb (wMD D ci am g th fo sz hs mi hi tx) [.ref (am 0), .int u, .int v, .int x, .long z]) (qM D ci am g (nI 2) fo sz hs mi hi tx (none)) 0 0 (mF am) := by
  refine Met.ofW (cc := b_M_node) (maxL := 6) (ret := none) (by decide) rfl ?_
  intro p e s m args below meth c s₁ B hml hv
  obtain ⟨rfl, hK, hg, hM, hD⟩ := hv
  have hx := B.exec
  have hb := B.bytes
  have hr := B.returns
  have hts := atoms_spec (ws := wT y_M_node b_M_node 6 none) B.pre
  have hT : ∀ w ∈ TT, w ∈ wT y_M_node b_M_node 6 none := wT_T
  have hown : s.vm.findClass RM = some m.cls := findClass_of_methodNamed B.named
  have hlocks := B.notSynchronized
  have hl := lv_entry ([.ref (am 0), .int u, .int v, .int x, .long z]) (n := 6) (Nat.le_of_ble_eq_true rfl)
  rw [lg_entry_eq]
  generalize (lg_sl ([.ref (am 0), .int u, .int v, .int x, .long z]) ++ List.replicate (6 - (lg_sl ([.ref (am 0), .int u, .int v, .int x, .long z])).length) Slot.unset).toArray = ls at hl ⊢
  have hl : lv_has ls 6 [(0, .ref (am 0)), (1, .int u), (2, .int v), (3, .int x), (4, .long z)] := hl
  have hL : ∀ q ∈ ([] : List Loc), mF am q.base := fun q hq => nomatch hq
  have hO : mO am s.heap s.heap := mO.rf
  refine lv_aload_n hx hb d_M_node_0 rfl (lv_at hl 0 rfl) ?_
  refine lv_iload_n hx hb d_M_node_1 rfl (lv_at hl 1 rfl) ?_
  refine tq_S ⟨hx, hb, hml, hown, hts⟩ hT (c_M_isOne l u) lk_M_61 wN_mv trivial rfl hl.1 rfl (Nat.le_of_ble_eq_true rfl) d_M_node_2 ⟨rfl, rfl, Nat.le_of_ble_eq_true rfl, Nat.le_of_ble_eq_true rfl⟩ ⟨Nat.zero_le _, Nat.zero_le _⟩ ?_
  refine lv_if_eq hx hb d_M_node_5 (tgt := 15) (by decide) (fun q1 => ?_) (fun q1 => ?_)
  · have q1 := zb_f q1
    refine lv_iconst hx hb d_M_node_15 (v := (nI 1)) rfl ?_
    refine lv_goto hx hb d_M_node_16 (tgt := 42) (by decide) ?_
    exfalso
    omega
  · have q1 := zb_t q1
    refine lv_iload_n hx hb d_M_node_8 rfl (lv_at hl 2 rfl) ?_
    refine tq_S ⟨hx, hb, hml, hown, hts⟩ hT (c_M_isYear l v) lk_M_65 wN_mv trivial rfl hl.1 rfl (Nat.le_of_ble_eq_true rfl) d_M_node_9 ⟨rfl, rfl, Nat.le_of_ble_eq_true rfl, Nat.le_of_ble_eq_true rfl⟩ ⟨Nat.zero_le _, Nat.zero_le _⟩ ?_
    refine lv_if_ne hx hb d_M_node_12 (tgt := 19) (by decide) (fun q2 => ?_) (fun q2 => ?_)
    · have q2 := zb_t q2
      refine lv_iload_n hx hb d_M_node_19 rfl (lv_at hl 3 rfl) ?_
      refine lv_if_lt hx hb d_M_node_20 (tgt := 37) (by decide) (fun q3 => ?_) (fun q3 => ?_)
      · have q3 := iv_lt0.mp q3
        refine lv_iconst hx hb d_M_node_37 (v := (nI 2)) rfl ?_
        refine lv_goto hx hb d_M_node_38 (tgt := 42) (by decide) ?_
        refine tq_put (F := mF am) hx hb hts (fun w h => hT w (uM_in w h)) tM tM_ok nM hown hK (tm_one hM 0 rfl) (ci := 1) rfl 0 (by decide) (hts _ (hT _ k_M_43)) (fun _ h => h) rfl (ty := .int) rfl rfl rfl (Nat.le_of_ble_eq_true rfl) ⟨0, by decide, rfl⟩ hL d_M_node_42 (fun H1 locs1 hP1 hz1 hq1 hL => ?_)
        have hM : tm D ci am g (nI 2) fo sz hs mi hi tx H1 := tm_set hD hM 0 (by decide) rfl hP1 (fun j hj => by rcases j with _ | _ | _ | _ | _ | _ | _ | _ | _ | _ | _ | j <;> first | rfl | exact absurd rfl hj) hq1
        have hO := hO.tr (mO.put (k := 0) (by decide) hz1 hq1)
        refine lv_aload_n hx hb d_M_node_45 rfl (lv_at hl 0 rfl) ?_
        refine va_get hx hb hts (fun w h => hT w (uM_in w h)) hown hK hM 0 rfl rfl 0 (by decide) (hts _ (hT _ k_M_43)) (fun _ h => h) rfl d_M_node_46 ?_
        refine lv_if_eq hx hb d_M_node_49 (tgt := 53) (by decide) (fun hyes => absurd hyes (by decide)) (fun _ => ?_)
        exact W.vret hx hb hr (fun t ht hW => ⟨_, rfl, rfl, by rw [ht]; exact hM, by rw [ht]; exact hO⟩) hL d_M_node_52
      · have q3 := mt iv_lt0.mpr q3
        refine lv_iload_n hx hb d_M_node_23 rfl (lv_at hl 3 rfl) ?_
        refine lv_ldc hx hb (v := (nI 81920)) hown (hts _ (hT _ k_M_68)) d_M_node_24 ?_
        refine lv_icmp_gt hx hb d_M_node_26 (tgt := 37) (by decide) (fun q4 => ?_) (fun q4 => ?_)
        · have q4 := Int32.lt_iff_toInt_lt.mp q4
          rw [nI_toInt (n := 81920) (by decide)] at q4
          refine lv_iconst hx hb d_M_node_37 (v := (nI 2)) rfl ?_
          refine lv_goto hx hb d_M_node_38 (tgt := 42) (by decide) ?_
          refine tq_put (F := mF am) hx hb hts (fun w h => hT w (uM_in w h)) tM tM_ok nM hown hK (tm_one hM 0 rfl) (ci := 1) rfl 0 (by decide) (hts _ (hT _ k_M_43)) (fun _ h => h) rfl (ty := .int) rfl rfl rfl (Nat.le_of_ble_eq_true rfl) ⟨0, by decide, rfl⟩ hL d_M_node_42 (fun H1 locs1 hP1 hz1 hq1 hL => ?_)
          have hM : tm D ci am g (nI 2) fo sz hs mi hi tx H1 := tm_set hD hM 0 (by decide) rfl hP1 (fun j hj => by rcases j with _ | _ | _ | _ | _ | _ | _ | _ | _ | _ | _ | j <;> first | rfl | exact absurd rfl hj) hq1
          have hO := hO.tr (mO.put (k := 0) (by decide) hz1 hq1)
          refine lv_aload_n hx hb d_M_node_45 rfl (lv_at hl 0 rfl) ?_
          refine va_get hx hb hts (fun w h => hT w (uM_in w h)) hown hK hM 0 rfl rfl 0 (by decide) (hts _ (hT _ k_M_43)) (fun _ h => h) rfl d_M_node_46 ?_
          refine lv_if_eq hx hb d_M_node_49 (tgt := 53) (by decide) (fun hyes => absurd hyes (by decide)) (fun _ => ?_)
          exact W.vret hx hb hr (fun t ht hW => ⟨_, rfl, rfl, by rw [ht]; exact hM, by rw [ht]; exact hO⟩) hL d_M_node_52
        · have q4 := mt Int32.lt_iff_toInt_lt.mpr q4
          rw [nI_toInt (n := 81920) (by decide)] at q4
          refine lv_lload hx hb d_M_node_29 (lv_at hl 4 rfl) ?_
          refine tq_S ⟨hx, hb, hml, hown, hts⟩ hT (c_M_isTurn l z) lk_M_57 wN_mv trivial rfl hl.1 rfl (Nat.le_of_ble_eq_true rfl) d_M_node_31 ⟨rfl, rfl, Nat.le_of_ble_eq_true rfl, Nat.le_of_ble_eq_true rfl⟩ ⟨Nat.zero_le _, Nat.zero_le _⟩ ?_
          refine lv_if_ne hx hb d_M_node_34 (tgt := 41) (by decide) (fun q5 => ?_) (fun q5 => ?_)
          · have q5 := zb_t q5
            refine lv_iconst hx hb d_M_node_41 (v := (nI 0)) rfl ?_
            exfalso
            omega
          · have q5 := zb_f q5
            refine lv_iconst hx hb d_M_node_37 (v := (nI 2)) rfl ?_
            refine lv_goto hx hb d_M_node_38 (tgt := 42) (by decide) ?_
            refine tq_put (F := mF am) hx hb hts (fun w h => hT w (uM_in w h)) tM tM_ok nM hown hK (tm_one hM 0 rfl) (ci := 1) rfl 0 (by decide) (hts _ (hT _ k_M_43)) (fun _ h => h) rfl (ty := .int) rfl rfl rfl (Nat.le_of_ble_eq_true rfl) ⟨0, by decide, rfl⟩ hL d_M_node_42 (fun H1 locs1 hP1 hz1 hq1 hL => ?_)
            have hM : tm D ci am g (nI 2) fo sz hs mi hi tx H1 := tm_set hD hM 0 (by decide) rfl hP1 (fun j hj => by rcases j with _ | _ | _ | _ | _ | _ | _ | _ | _ | _ | _ | j <;> first | rfl | exact absurd rfl hj) hq1
            have hO := hO.tr (mO.put (k := 0) (by decide) hz1 hq1)
            refine lv_aload_n hx hb d_M_node_45 rfl (lv_at hl 0 rfl) ?_
            refine va_get hx hb hts (fun w h => hT w (uM_in w h)) hown hK hM 0 rfl rfl 0 (by decide) (hts _ (hT _ k_M_43)) (fun _ h => h) rfl d_M_node_46 ?_
            refine lv_if_eq hx hb d_M_node_49 (tgt := 53) (by decide) (fun hyes => absurd hyes (by decide)) (fun _ => ?_)
            exact W.vret hx hb hr (fun t ht hW => ⟨_, rfl, rfl, by rw [ht]; exact hM, by rw [ht]; exact hO⟩) hL d_M_node_52
    · have q2 := zb_f q2
      refine lv_iconst hx hb d_M_node_15 (v := (nI 1)) rfl ?_
      refine lv_goto hx hb d_M_node_16 (tgt := 42) (by decide) ?_
      exfalso
      omega
set_option maxHeartbeats 4000000 in
set_option maxRecDepth 100000 in
theorem c_M_days (l : Launch) (D : va_G) (ci : Nat → ClassId) (am : Nat → Nat) (g : TS) (th fo sz : Int32) (hs mi hi tx : Nat → Int32) {y n : Nat} (hy : y < 10) (hn : n = 365 ∨ n = 366) : Met l y_M_days (wT y_M_days b_M_days 4 (some .int)) (rP 1 20) (tb (wMD D ci am g th fo sz hs mi hi tx) [.ref (am 0), .int (nI y), .int (nI n)]) (qM D ci am (ts_day g y n) (nI 0) fo sz hs mi hi tx (some (.int (nI (tt_day g y))))) 0 0 (mF am) := by
  refine Met.ofW (cc := b_M_days) (maxL := 4) (ret := (some .int)) (by decide) rfl ?_
  intro p e s m args below meth c s₁ B hml hv
  obtain ⟨rfl, hK, hg, hM, hD⟩ := hv
  have hx := B.exec
  have hb := B.bytes
  have hr := B.returns
  have hts := atoms_spec (ws := wT y_M_days b_M_days 4 (some .int)) B.pre
  have hT : ∀ w ∈ TT, w ∈ wT y_M_days b_M_days 4 (some .int) := wT_T
  have hown : s.vm.findClass RM = some m.cls := findClass_of_methodNamed B.named
  have hlocks := B.notSynchronized
  have hl := lv_entry ([.ref (am 0), .int (nI y), .int (nI n)]) (n := 4) (Nat.le_of_ble_eq_true rfl)
  rw [lg_entry_eq]
  generalize (lg_sl ([.ref (am 0), .int (nI y), .int (nI n)]) ++ List.replicate (4 - (lg_sl ([.ref (am 0), .int (nI y), .int (nI n)])).length) Slot.unset).toArray = ls at hl ⊢
  have hl : lv_has ls 4 [(0, .ref (am 0)), (1, .int (nI y)), (2, .int (nI n))] := hl
  have hL : ∀ q ∈ ([] : List Loc), mF am q.base := fun q hq => nomatch hq
  have hO : mO am s.heap s.heap := mO.rf
  have ey : (nI y).toInt = y := nI_toInt (by omega)
  have en : (nI n).toInt = n := nI_toInt (by omega)
  refine lv_aload_n hx hb d_M_days_0 rfl (lv_at hl 0 rfl) ?_
  refine lv_iload_n hx hb d_M_days_1 rfl (lv_at hl 1 rfl) ?_
  refine tq_S ⟨hx, hb, hml, hown, hts⟩ hT (c_M_isYear l (nI y)) lk_M_65 wN_mv trivial rfl hl.1 rfl (Nat.le_of_ble_eq_true rfl) d_M_days_2 ⟨rfl, rfl, Nat.le_of_ble_eq_true rfl, Nat.le_of_ble_eq_true rfl⟩ ⟨Nat.zero_le _, Nat.zero_le _⟩ ?_
  refine lv_if_ne hx hb d_M_days_5 (tgt := 12) (by decide) (fun q1 => ?_) (fun q1 => ?_)
  · have q1 := zb_t q1
    refine lv_iload_n hx hb d_M_days_12 rfl (lv_at hl 2 rfl) ?_
    refine lv_sipush hx hb d_M_days_13 (v := (nI 365)) rfl ?_
    refine lv_icmp_eq hx hb d_M_days_16 (tgt := 30) (by decide) (fun q2 => ?_) (fun q2 => ?_)
    · have q2 := Int32.toInt_inj.symm.mp q2
      rw [nI_toInt (n := 365) (by decide)] at q2
      refine lv_iconst hx hb d_M_days_30 (v := (nI 0)) rfl ?_
      refine tq_put (F := mF am) hx hb hts (fun w h => hT w (uM_in w h)) tM tM_ok nM hown hK (tm_one hM 0 rfl) (ci := 1) rfl 0 (by decide) (hts _ (hT _ k_M_43)) (fun _ h => h) rfl (ty := .int) rfl rfl rfl (Nat.le_of_ble_eq_true rfl) ⟨0, by decide, rfl⟩ hL d_M_days_31 (fun H1 locs1 hP1 hz1 hq1 hL => ?_)
      have hM : tm D ci am g (nI 0) fo sz hs mi hi tx H1 := tm_set hD hM 0 (by decide) rfl hP1 (fun j hj => by rcases j with _ | _ | _ | _ | _ | _ | _ | _ | _ | _ | _ | j <;> first | rfl | exact absurd rfl hj) hq1
      have hO := hO.tr (mO.put (k := 0) (by decide) hz1 hq1)
      refine lv_aload_n hx hb d_M_days_34 rfl (lv_at hl 0 rfl) ?_
      refine va_get hx hb hts (fun w h => hT w (uM_in w h)) hown hK hM 0 rfl rfl 0 (by decide) (hts _ (hT _ k_M_43)) (fun _ h => h) rfl d_M_days_35 ?_
      refine lv_if_eq hx hb d_M_days_38 (tgt := 43) (by decide) (fun _ => ?_) (fun hno => absurd (by decide) hno)
      refine lv_aload_n hx hb d_M_days_43 rfl (lv_at hl 0 rfl) ?_
      refine va_get hx hb hts (fun w h => hT w (uM_in w h)) hown hK hM 0 rfl rfl 2 (by decide) (hts _ (hT _ k_M_7)) (fun _ h => h) rfl d_M_days_44 ?_
      refine lv_iload_n hx hb d_M_days_47 rfl (lv_at hl 1 rfl) ?_
      refine tq_iald hx hb hK hM 1 0 rfl rfl hy (by decide) d_M_days_48 ?_
      refine lv_istore_n hx hb d_M_days_49 rfl hl (by decide) (lv' := [(3, .int (nI (tt_day g y))), (0, .ref (am 0)), (1, .int (nI y)), (2, .int (nI n))]) rfl (fun ls hl => ?_)
      refine lv_aload_n hx hb d_M_days_50 rfl (lv_at hl 1 rfl) ?_
      refine va_get hx hb hts (fun w h => hT w (uM_in w h)) hown hK hM 0 rfl rfl 2 (by decide) (hts _ (hT _ k_M_7)) (fun _ h => h) rfl d_M_days_51 ?_
      refine lv_iload_n hx hb d_M_days_54 rfl (lv_at hl 2 rfl) ?_
      refine lv_iload_n hx hb d_M_days_55 rfl (lv_at hl 3 rfl) ?_
      refine tq_iast (F := mF am) hx hb hK 0 (tm_one hM 1 rfl) rfl hy (by decide) ⟨1, by decide, rfl⟩ hL d_M_days_56 (fun H1 locs1 hP1 hz1 hq1 hL => ?_)
      rw [up_nI] at hP1
      have hM : tm D ci am (ts_day g y n) (nI 0) fo sz hs mi hi tx H1 := tm_set hD hM 1 (by decide) rfl hP1 (fun j hj => by rcases j with _ | _ | _ | _ | _ | _ | _ | _ | _ | _ | _ | j <;> first | rfl | exact absurd rfl hj) hq1
      have hO := hO.tr (mO.put (k := 1) (by decide) hz1 hq1)
      refine lv_iload_n hx hb d_M_days_57 rfl (lv_at hl 0 rfl) ?_
      exact W.iret hx hb hr (fun t ht hW => ⟨_, rfl, rfl, by rw [ht]; exact hM, by rw [ht]; exact hO⟩) hL d_M_days_58
    · have q2 := mt Int32.toInt_inj.symm.mpr q2
      rw [nI_toInt (n := 365) (by decide)] at q2
      refine lv_iload_n hx hb d_M_days_19 rfl (lv_at hl 2 rfl) ?_
      refine lv_sipush hx hb d_M_days_20 (v := (nI 366)) rfl ?_
      refine lv_icmp_eq hx hb d_M_days_23 (tgt := 30) (by decide) (fun q3 => ?_) (fun q3 => ?_)
      · have q3 := Int32.toInt_inj.symm.mp q3
        rw [nI_toInt (n := 366) (by decide)] at q3
        refine lv_iconst hx hb d_M_days_30 (v := (nI 0)) rfl ?_
        refine tq_put (F := mF am) hx hb hts (fun w h => hT w (uM_in w h)) tM tM_ok nM hown hK (tm_one hM 0 rfl) (ci := 1) rfl 0 (by decide) (hts _ (hT _ k_M_43)) (fun _ h => h) rfl (ty := .int) rfl rfl rfl (Nat.le_of_ble_eq_true rfl) ⟨0, by decide, rfl⟩ hL d_M_days_31 (fun H1 locs1 hP1 hz1 hq1 hL => ?_)
        have hM : tm D ci am g (nI 0) fo sz hs mi hi tx H1 := tm_set hD hM 0 (by decide) rfl hP1 (fun j hj => by rcases j with _ | _ | _ | _ | _ | _ | _ | _ | _ | _ | _ | j <;> first | rfl | exact absurd rfl hj) hq1
        have hO := hO.tr (mO.put (k := 0) (by decide) hz1 hq1)
        refine lv_aload_n hx hb d_M_days_34 rfl (lv_at hl 0 rfl) ?_
        refine va_get hx hb hts (fun w h => hT w (uM_in w h)) hown hK hM 0 rfl rfl 0 (by decide) (hts _ (hT _ k_M_43)) (fun _ h => h) rfl d_M_days_35 ?_
        refine lv_if_eq hx hb d_M_days_38 (tgt := 43) (by decide) (fun _ => ?_) (fun hno => absurd (by decide) hno)
        refine lv_aload_n hx hb d_M_days_43 rfl (lv_at hl 0 rfl) ?_
        refine va_get hx hb hts (fun w h => hT w (uM_in w h)) hown hK hM 0 rfl rfl 2 (by decide) (hts _ (hT _ k_M_7)) (fun _ h => h) rfl d_M_days_44 ?_
        refine lv_iload_n hx hb d_M_days_47 rfl (lv_at hl 1 rfl) ?_
        refine tq_iald hx hb hK hM 1 0 rfl rfl hy (by decide) d_M_days_48 ?_
        refine lv_istore_n hx hb d_M_days_49 rfl hl (by decide) (lv' := [(3, .int (nI (tt_day g y))), (0, .ref (am 0)), (1, .int (nI y)), (2, .int (nI n))]) rfl (fun ls hl => ?_)
        refine lv_aload_n hx hb d_M_days_50 rfl (lv_at hl 1 rfl) ?_
        refine va_get hx hb hts (fun w h => hT w (uM_in w h)) hown hK hM 0 rfl rfl 2 (by decide) (hts _ (hT _ k_M_7)) (fun _ h => h) rfl d_M_days_51 ?_
        refine lv_iload_n hx hb d_M_days_54 rfl (lv_at hl 2 rfl) ?_
        refine lv_iload_n hx hb d_M_days_55 rfl (lv_at hl 3 rfl) ?_
        refine tq_iast (F := mF am) hx hb hK 0 (tm_one hM 1 rfl) rfl hy (by decide) ⟨1, by decide, rfl⟩ hL d_M_days_56 (fun H1 locs1 hP1 hz1 hq1 hL => ?_)
        rw [up_nI] at hP1
        have hM : tm D ci am (ts_day g y n) (nI 0) fo sz hs mi hi tx H1 := tm_set hD hM 1 (by decide) rfl hP1 (fun j hj => by rcases j with _ | _ | _ | _ | _ | _ | _ | _ | _ | _ | _ | j <;> first | rfl | exact absurd rfl hj) hq1
        have hO := hO.tr (mO.put (k := 1) (by decide) hz1 hq1)
        refine lv_iload_n hx hb d_M_days_57 rfl (lv_at hl 0 rfl) ?_
        exact W.iret hx hb hr (fun t ht hW => ⟨_, rfl, rfl, by rw [ht]; exact hM, by rw [ht]; exact hO⟩) hL d_M_days_58
      · have q3 := mt Int32.toInt_inj.symm.mpr q3
        rw [nI_toInt (n := 366) (by decide)] at q3
        refine lv_iconst hx hb d_M_days_26 (v := (nI 2)) rfl ?_
        refine lv_goto hx hb d_M_days_27 (tgt := 31) (by decide) ?_
        exfalso
        omega
  · have q1 := zb_f q1
    refine lv_iconst hx hb d_M_days_8 (v := (nI 1)) rfl ?_
    refine lv_goto hx hb d_M_days_9 (tgt := 31) (by decide) ?_
    exfalso
    omega
set_option maxHeartbeats 4000000 in
set_option maxRecDepth 100000 in
theorem x_M_daysI (l : Launch) (D : va_G) (ci : Nat → ClassId) (am : Nat → Nat) (g : TS) (th fo sz : Int32) (hs mi hi tx : Nat → Int32) (u v : Int32) (hv0 : ¬ (0 ≤ u.toInt ∧ u.toInt < 10)) : Met l y_M_days (wT y_M_days b_M_days 4 (some .int)) (rP 1 20) (tb (wMD D ci am g th fo sz hs mi hi tx) [.ref (am 0), .int u, .int v]) (qM D ci am g (nI 1) fo sz hs mi hi tx (some (.int (nI 0)))) 0 0 (mF am) := by
  refine Met.ofW (cc := b_M_days) (maxL := 4) (ret := (some .int)) (by decide) rfl ?_
  intro p e s m args below meth c s₁ B hml hv
  obtain ⟨rfl, hK, hg, hM, hD⟩ := hv
  have hx := B.exec
  have hb := B.bytes
  have hr := B.returns
  have hts := atoms_spec (ws := wT y_M_days b_M_days 4 (some .int)) B.pre
  have hT : ∀ w ∈ TT, w ∈ wT y_M_days b_M_days 4 (some .int) := wT_T
  have hown : s.vm.findClass RM = some m.cls := findClass_of_methodNamed B.named
  have hlocks := B.notSynchronized
  have hl := lv_entry ([.ref (am 0), .int u, .int v]) (n := 4) (Nat.le_of_ble_eq_true rfl)
  rw [lg_entry_eq]
  generalize (lg_sl ([.ref (am 0), .int u, .int v]) ++ List.replicate (4 - (lg_sl ([.ref (am 0), .int u, .int v])).length) Slot.unset).toArray = ls at hl ⊢
  have hl : lv_has ls 4 [(0, .ref (am 0)), (1, .int u), (2, .int v)] := hl
  have hL : ∀ q ∈ ([] : List Loc), mF am q.base := fun q hq => nomatch hq
  have hO : mO am s.heap s.heap := mO.rf
  refine lv_aload_n hx hb d_M_days_0 rfl (lv_at hl 0 rfl) ?_
  refine lv_iload_n hx hb d_M_days_1 rfl (lv_at hl 1 rfl) ?_
  refine tq_S ⟨hx, hb, hml, hown, hts⟩ hT (c_M_isYear l u) lk_M_65 wN_mv trivial rfl hl.1 rfl (Nat.le_of_ble_eq_true rfl) d_M_days_2 ⟨rfl, rfl, Nat.le_of_ble_eq_true rfl, Nat.le_of_ble_eq_true rfl⟩ ⟨Nat.zero_le _, Nat.zero_le _⟩ ?_
  refine lv_if_ne hx hb d_M_days_5 (tgt := 12) (by decide) (fun q1 => ?_) (fun q1 => ?_)
  · have q1 := zb_t q1
    refine lv_iload_n hx hb d_M_days_12 rfl (lv_at hl 2 rfl) ?_
    refine lv_sipush hx hb d_M_days_13 (v := (nI 365)) rfl ?_
    refine lv_icmp_eq hx hb d_M_days_16 (tgt := 30) (by decide) (fun q2 => ?_) (fun q2 => ?_)
    · have q2 := Int32.toInt_inj.symm.mp q2
      rw [nI_toInt (n := 365) (by decide)] at q2
      refine lv_iconst hx hb d_M_days_30 (v := (nI 0)) rfl ?_
      exfalso
      omega
    · have q2 := mt Int32.toInt_inj.symm.mpr q2
      rw [nI_toInt (n := 365) (by decide)] at q2
      refine lv_iload_n hx hb d_M_days_19 rfl (lv_at hl 2 rfl) ?_
      refine lv_sipush hx hb d_M_days_20 (v := (nI 366)) rfl ?_
      refine lv_icmp_eq hx hb d_M_days_23 (tgt := 30) (by decide) (fun q3 => ?_) (fun q3 => ?_)
      · have q3 := Int32.toInt_inj.symm.mp q3
        rw [nI_toInt (n := 366) (by decide)] at q3
        refine lv_iconst hx hb d_M_days_30 (v := (nI 0)) rfl ?_
        exfalso
        omega
      · have q3 := mt Int32.toInt_inj.symm.mpr q3
        rw [nI_toInt (n := 366) (by decide)] at q3
        refine lv_iconst hx hb d_M_days_26 (v := (nI 2)) rfl ?_
        refine lv_goto hx hb d_M_days_27 (tgt := 31) (by decide) ?_
        exfalso
        omega
  · have q1 := zb_f q1
    refine lv_iconst hx hb d_M_days_8 (v := (nI 1)) rfl ?_
    refine lv_goto hx hb d_M_days_9 (tgt := 31) (by decide) ?_
    refine tq_put (F := mF am) hx hb hts (fun w h => hT w (uM_in w h)) tM tM_ok nM hown hK (tm_one hM 0 rfl) (ci := 1) rfl 0 (by decide) (hts _ (hT _ k_M_43)) (fun _ h => h) rfl (ty := .int) rfl rfl rfl (Nat.le_of_ble_eq_true rfl) ⟨0, by decide, rfl⟩ hL d_M_days_31 (fun H1 locs1 hP1 hz1 hq1 hL => ?_)
    have hM : tm D ci am g (nI 1) fo sz hs mi hi tx H1 := tm_set hD hM 0 (by decide) rfl hP1 (fun j hj => by rcases j with _ | _ | _ | _ | _ | _ | _ | _ | _ | _ | _ | j <;> first | rfl | exact absurd rfl hj) hq1
    have hO := hO.tr (mO.put (k := 0) (by decide) hz1 hq1)
    refine lv_aload_n hx hb d_M_days_34 rfl (lv_at hl 0 rfl) ?_
    refine va_get hx hb hts (fun w h => hT w (uM_in w h)) hown hK hM 0 rfl rfl 0 (by decide) (hts _ (hT _ k_M_43)) (fun _ h => h) rfl d_M_days_35 ?_
    refine lv_if_eq hx hb d_M_days_38 (tgt := 43) (by decide) (fun hyes => absurd hyes (by decide)) (fun _ => ?_)
    refine lv_iconst hx hb d_M_days_41 (v := (nI 0)) rfl ?_
    exact W.iret hx hb hr (fun t ht hW => ⟨_, rfl, rfl, by rw [ht]; exact hM, by rw [ht]; exact hO⟩) hL d_M_days_42
set_option maxHeartbeats 4000000 in
set_option maxRecDepth 100000 in
theorem x_M_daysA (l : Launch) (D : va_G) (ci : Nat → ClassId) (am : Nat → Nat) (g : TS) (th fo sz : Int32) (hs mi hi tx : Nat → Int32) (u v : Int32) (hv1 : 0 ≤ u.toInt ∧ u.toInt < 10) (hv0 : ¬ (v.toInt = 365 ∨ v.toInt = 366)) : Met l y_M_days (wT y_M_days b_M_days 4 (some .int)) (rP 1 20) (tb (wMD D ci am g th fo sz hs mi hi tx) [.ref (am 0), .int u, .int v]) (qM D ci am g (nI 2) fo sz hs mi hi tx (some (.int (nI 0)))) 0 0 (mF am) := by
  refine Met.ofW (cc := b_M_days) (maxL := 4) (ret := (some .int)) (by decide) rfl ?_
  intro p e s m args below meth c s₁ B hml hv
  obtain ⟨rfl, hK, hg, hM, hD⟩ := hv
  have hx := B.exec
  have hb := B.bytes
  have hr := B.returns
  have hts := atoms_spec (ws := wT y_M_days b_M_days 4 (some .int)) B.pre
  have hT : ∀ w ∈ TT, w ∈ wT y_M_days b_M_days 4 (some .int) := wT_T
  have hown : s.vm.findClass RM = some m.cls := findClass_of_methodNamed B.named
  have hlocks := B.notSynchronized
  have hl := lv_entry ([.ref (am 0), .int u, .int v]) (n := 4) (Nat.le_of_ble_eq_true rfl)
  rw [lg_entry_eq]
  generalize (lg_sl ([.ref (am 0), .int u, .int v]) ++ List.replicate (4 - (lg_sl ([.ref (am 0), .int u, .int v])).length) Slot.unset).toArray = ls at hl ⊢
  have hl : lv_has ls 4 [(0, .ref (am 0)), (1, .int u), (2, .int v)] := hl
  have hL : ∀ q ∈ ([] : List Loc), mF am q.base := fun q hq => nomatch hq
  have hO : mO am s.heap s.heap := mO.rf
  refine lv_aload_n hx hb d_M_days_0 rfl (lv_at hl 0 rfl) ?_
  refine lv_iload_n hx hb d_M_days_1 rfl (lv_at hl 1 rfl) ?_
  refine tq_S ⟨hx, hb, hml, hown, hts⟩ hT (c_M_isYear l u) lk_M_65 wN_mv trivial rfl hl.1 rfl (Nat.le_of_ble_eq_true rfl) d_M_days_2 ⟨rfl, rfl, Nat.le_of_ble_eq_true rfl, Nat.le_of_ble_eq_true rfl⟩ ⟨Nat.zero_le _, Nat.zero_le _⟩ ?_
  refine lv_if_ne hx hb d_M_days_5 (tgt := 12) (by decide) (fun q1 => ?_) (fun q1 => ?_)
  · have q1 := zb_t q1
    refine lv_iload_n hx hb d_M_days_12 rfl (lv_at hl 2 rfl) ?_
    refine lv_sipush hx hb d_M_days_13 (v := (nI 365)) rfl ?_
    refine lv_icmp_eq hx hb d_M_days_16 (tgt := 30) (by decide) (fun q2 => ?_) (fun q2 => ?_)
    · have q2 := Int32.toInt_inj.symm.mp q2
      rw [nI_toInt (n := 365) (by decide)] at q2
      refine lv_iconst hx hb d_M_days_30 (v := (nI 0)) rfl ?_
      exfalso
      omega
    · have q2 := mt Int32.toInt_inj.symm.mpr q2
      rw [nI_toInt (n := 365) (by decide)] at q2
      refine lv_iload_n hx hb d_M_days_19 rfl (lv_at hl 2 rfl) ?_
      refine lv_sipush hx hb d_M_days_20 (v := (nI 366)) rfl ?_
      refine lv_icmp_eq hx hb d_M_days_23 (tgt := 30) (by decide) (fun q3 => ?_) (fun q3 => ?_)
      · have q3 := Int32.toInt_inj.symm.mp q3
        rw [nI_toInt (n := 366) (by decide)] at q3
        refine lv_iconst hx hb d_M_days_30 (v := (nI 0)) rfl ?_
        exfalso
        omega
      · have q3 := mt Int32.toInt_inj.symm.mpr q3
        rw [nI_toInt (n := 366) (by decide)] at q3
        refine lv_iconst hx hb d_M_days_26 (v := (nI 2)) rfl ?_
        refine lv_goto hx hb d_M_days_27 (tgt := 31) (by decide) ?_
        refine tq_put (F := mF am) hx hb hts (fun w h => hT w (uM_in w h)) tM tM_ok nM hown hK (tm_one hM 0 rfl) (ci := 1) rfl 0 (by decide) (hts _ (hT _ k_M_43)) (fun _ h => h) rfl (ty := .int) rfl rfl rfl (Nat.le_of_ble_eq_true rfl) ⟨0, by decide, rfl⟩ hL d_M_days_31 (fun H1 locs1 hP1 hz1 hq1 hL => ?_)
        have hM : tm D ci am g (nI 2) fo sz hs mi hi tx H1 := tm_set hD hM 0 (by decide) rfl hP1 (fun j hj => by rcases j with _ | _ | _ | _ | _ | _ | _ | _ | _ | _ | _ | j <;> first | rfl | exact absurd rfl hj) hq1
        have hO := hO.tr (mO.put (k := 0) (by decide) hz1 hq1)
        refine lv_aload_n hx hb d_M_days_34 rfl (lv_at hl 0 rfl) ?_
        refine va_get hx hb hts (fun w h => hT w (uM_in w h)) hown hK hM 0 rfl rfl 0 (by decide) (hts _ (hT _ k_M_43)) (fun _ h => h) rfl d_M_days_35 ?_
        refine lv_if_eq hx hb d_M_days_38 (tgt := 43) (by decide) (fun hyes => absurd hyes (by decide)) (fun _ => ?_)
        refine lv_iconst hx hb d_M_days_41 (v := (nI 0)) rfl ?_
        exact W.iret hx hb hr (fun t ht hW => ⟨_, rfl, rfl, by rw [ht]; exact hM, by rw [ht]; exact hO⟩) hL d_M_days_42
  · have q1 := zb_f q1
    refine lv_iconst hx hb d_M_days_8 (v := (nI 1)) rfl ?_
    refine lv_goto hx hb d_M_days_9 (tgt := 31) (by decide) ?_
    exfalso
    omega
set_option maxHeartbeats 4000000 in
set_option maxRecDepth 100000 in
theorem c_M_first (l : Launch) (D : va_G) (ci : Nat → ClassId) (am : Nat → Nat) (g : TS) (th fo sz : Int32) (hs mi hi tx : Nat → Int32) {y : Nat} (hy : y ≤ 10) : Met l y_M_first (wT y_M_first b_M_first 2 (some .int)) (rP 1 23) (tb (wMD D ci am g th fo sz hs mi hi tx) [.ref (am 0), .int (nI y)]) (qM D ci am g (nI 0) fo sz hs mi hi tx (some (.int (nI (tt_fst g y))))) 0 0 (mF am) := by
  refine Met.ofW (cc := b_M_first) (maxL := 2) (ret := (some .int)) (by decide) rfl ?_
  intro p e s m args below meth c s₁ B hml hv
  obtain ⟨rfl, hK, hg, hM, hD⟩ := hv
  have hx := B.exec
  have hb := B.bytes
  have hr := B.returns
  have hts := atoms_spec (ws := wT y_M_first b_M_first 2 (some .int)) B.pre
  have hT : ∀ w ∈ TT, w ∈ wT y_M_first b_M_first 2 (some .int) := wT_T
  have hown : s.vm.findClass RM = some m.cls := findClass_of_methodNamed B.named
  have hlocks := B.notSynchronized
  have hl := lv_entry ([.ref (am 0), .int (nI y)]) (n := 2) (Nat.le_of_ble_eq_true rfl)
  rw [lg_entry_eq]
  generalize (lg_sl ([.ref (am 0), .int (nI y)]) ++ List.replicate (2 - (lg_sl ([.ref (am 0), .int (nI y)])).length) Slot.unset).toArray = ls at hl ⊢
  have hl : lv_has ls 2 [(0, .ref (am 0)), (1, .int (nI y))] := hl
  have hL : ∀ q ∈ ([] : List Loc), mF am q.base := fun q hq => nomatch hq
  have hO : mO am s.heap s.heap := mO.rf
  have ey : (nI y).toInt = y := nI_toInt (by omega)
  refine lv_aload_n hx hb d_M_first_0 rfl (lv_at hl 0 rfl) ?_
  refine lv_iload_n hx hb d_M_first_1 rfl (lv_at hl 1 rfl) ?_
  refine lv_if_lt hx hb d_M_first_2 (tgt := 11) (by decide) (fun q1 => ?_) (fun q1 => ?_)
  · have q1 := iv_lt0.mp q1
    refine lv_iconst hx hb d_M_first_11 (v := (nI 1)) rfl ?_
    refine lv_goto hx hb d_M_first_12 (tgt := 16) (by decide) ?_
    exfalso
    omega
  · have q1 := mt iv_lt0.mpr q1
    refine lv_iload_n hx hb d_M_first_5 rfl (lv_at hl 1 rfl) ?_
    refine lv_bipush hx hb d_M_first_6 (v := (nI 10)) rfl ?_
    refine lv_icmp_le hx hb d_M_first_8 (tgt := 15) (by decide) (fun q2 => ?_) (fun q2 => ?_)
    · have q2 := Int32.le_iff_toInt_le.mp q2
      rw [nI_toInt (n := 10) (by decide)] at q2
      refine lv_iconst hx hb d_M_first_15 (v := (nI 0)) rfl ?_
      refine tq_put (F := mF am) hx hb hts (fun w h => hT w (uM_in w h)) tM tM_ok nM hown hK (tm_one hM 0 rfl) (ci := 1) rfl 0 (by decide) (hts _ (hT _ k_M_43)) (fun _ h => h) rfl (ty := .int) rfl rfl rfl (Nat.le_of_ble_eq_true rfl) ⟨0, by decide, rfl⟩ hL d_M_first_16 (fun H1 locs1 hP1 hz1 hq1 hL => ?_)
      have hM : tm D ci am g (nI 0) fo sz hs mi hi tx H1 := tm_set hD hM 0 (by decide) rfl hP1 (fun j hj => by rcases j with _ | _ | _ | _ | _ | _ | _ | _ | _ | _ | _ | j <;> first | rfl | exact absurd rfl hj) hq1
      have hO := hO.tr (mO.put (k := 0) (by decide) hz1 hq1)
      refine lv_aload_n hx hb d_M_first_19 rfl (lv_at hl 0 rfl) ?_
      refine va_get hx hb hts (fun w h => hT w (uM_in w h)) hown hK hM 0 rfl rfl 0 (by decide) (hts _ (hT _ k_M_43)) (fun _ h => h) rfl d_M_first_20 ?_
      refine lv_if_ne hx hb d_M_first_23 (tgt := 38) (by decide) (fun hyes => absurd (by decide) hyes) (fun _ => ?_)
      refine lv_sipush hx hb d_M_first_26 (v := (nI 1440)) rfl ?_
      refine lv_aload_n hx hb d_M_first_29 rfl (lv_at hl 0 rfl) ?_
      refine lv_iload_n hx hb d_M_first_30 rfl (lv_at hl 1 rfl) ?_
      refine tq_V ⟨hx, hb, hml, hown, hts⟩ hT (c_M_daysBefore l D ci am g (nI 0) fo sz hs mi hi tx hy) lk_M_69 wM_mv ⟨hK, hg, hM⟩ (wM_rc hK hM) rfl hl.1 rfl (Nat.le_of_ble_eq_true rfl) d_M_first_31 ⟨rfl, rfl, Nat.le_of_ble_eq_true rfl, Nat.le_of_ble_eq_true rfl⟩ ⟨Nat.zero_le _, Nat.zero_le _⟩ ?_
      refine lv_imul hx hb d_M_first_34 ?_
      refine tq_ti (show _ = (nI (tt_fst g y)) from pk_mul _ _) ?_
      refine lv_goto hx hb d_M_first_35 (tgt := 39) (by decide) ?_
      exact W.iret hx hb hr (fun t ht hW => ⟨_, rfl, rfl, by rw [ht]; exact hM, by rw [ht]; exact hO⟩) hL d_M_first_39
    · have q2 := mt Int32.le_iff_toInt_le.mpr q2
      rw [nI_toInt (n := 10) (by decide)] at q2
      refine lv_iconst hx hb d_M_first_11 (v := (nI 1)) rfl ?_
      refine lv_goto hx hb d_M_first_12 (tgt := 16) (by decide) ?_
      exfalso
      omega
set_option maxHeartbeats 4000000 in
set_option maxRecDepth 100000 in
theorem x_M_first (l : Launch) (D : va_G) (ci : Nat → ClassId) (am : Nat → Nat) (g : TS) (th fo sz : Int32) (hs mi hi tx : Nat → Int32) (v : Int32) (hv0 : ¬ (0 ≤ v.toInt ∧ v.toInt ≤ 10)) : Met l y_M_first (wT y_M_first b_M_first 2 (some .int)) (rP 1 23) (tb (wMD D ci am g th fo sz hs mi hi tx) [.ref (am 0), .int v]) (qM D ci am g (nI 1) fo sz hs mi hi tx (some (.int (nI 0)))) 0 0 (mF am) := by
  refine Met.ofW (cc := b_M_first) (maxL := 2) (ret := (some .int)) (by decide) rfl ?_
  intro p e s m args below meth c s₁ B hml hv
  obtain ⟨rfl, hK, hg, hM, hD⟩ := hv
  have hx := B.exec
  have hb := B.bytes
  have hr := B.returns
  have hts := atoms_spec (ws := wT y_M_first b_M_first 2 (some .int)) B.pre
  have hT : ∀ w ∈ TT, w ∈ wT y_M_first b_M_first 2 (some .int) := wT_T
  have hown : s.vm.findClass RM = some m.cls := findClass_of_methodNamed B.named
  have hlocks := B.notSynchronized
  have hl := lv_entry ([.ref (am 0), .int v]) (n := 2) (Nat.le_of_ble_eq_true rfl)
  rw [lg_entry_eq]
  generalize (lg_sl ([.ref (am 0), .int v]) ++ List.replicate (2 - (lg_sl ([.ref (am 0), .int v])).length) Slot.unset).toArray = ls at hl ⊢
  have hl : lv_has ls 2 [(0, .ref (am 0)), (1, .int v)] := hl
  have hL : ∀ q ∈ ([] : List Loc), mF am q.base := fun q hq => nomatch hq
  have hO : mO am s.heap s.heap := mO.rf
  refine lv_aload_n hx hb d_M_first_0 rfl (lv_at hl 0 rfl) ?_
  refine lv_iload_n hx hb d_M_first_1 rfl (lv_at hl 1 rfl) ?_
  refine lv_if_lt hx hb d_M_first_2 (tgt := 11) (by decide) (fun q1 => ?_) (fun q1 => ?_)
  · have q1 := iv_lt0.mp q1
    refine lv_iconst hx hb d_M_first_11 (v := (nI 1)) rfl ?_
    refine lv_goto hx hb d_M_first_12 (tgt := 16) (by decide) ?_
    refine tq_put (F := mF am) hx hb hts (fun w h => hT w (uM_in w h)) tM tM_ok nM hown hK (tm_one hM 0 rfl) (ci := 1) rfl 0 (by decide) (hts _ (hT _ k_M_43)) (fun _ h => h) rfl (ty := .int) rfl rfl rfl (Nat.le_of_ble_eq_true rfl) ⟨0, by decide, rfl⟩ hL d_M_first_16 (fun H1 locs1 hP1 hz1 hq1 hL => ?_)
    have hM : tm D ci am g (nI 1) fo sz hs mi hi tx H1 := tm_set hD hM 0 (by decide) rfl hP1 (fun j hj => by rcases j with _ | _ | _ | _ | _ | _ | _ | _ | _ | _ | _ | j <;> first | rfl | exact absurd rfl hj) hq1
    have hO := hO.tr (mO.put (k := 0) (by decide) hz1 hq1)
    refine lv_aload_n hx hb d_M_first_19 rfl (lv_at hl 0 rfl) ?_
    refine va_get hx hb hts (fun w h => hT w (uM_in w h)) hown hK hM 0 rfl rfl 0 (by decide) (hts _ (hT _ k_M_43)) (fun _ h => h) rfl d_M_first_20 ?_
    refine lv_if_ne hx hb d_M_first_23 (tgt := 38) (by decide) (fun _ => ?_) (fun hno => absurd hno (by decide))
    refine lv_iconst hx hb d_M_first_38 (v := (nI 0)) rfl ?_
    exact W.iret hx hb hr (fun t ht hW => ⟨_, rfl, rfl, by rw [ht]; exact hM, by rw [ht]; exact hO⟩) hL d_M_first_39
  · have q1 := mt iv_lt0.mpr q1
    refine lv_iload_n hx hb d_M_first_5 rfl (lv_at hl 1 rfl) ?_
    refine lv_bipush hx hb d_M_first_6 (v := (nI 10)) rfl ?_
    refine lv_icmp_le hx hb d_M_first_8 (tgt := 15) (by decide) (fun q2 => ?_) (fun q2 => ?_)
    · have q2 := Int32.le_iff_toInt_le.mp q2
      rw [nI_toInt (n := 10) (by decide)] at q2
      refine lv_iconst hx hb d_M_first_15 (v := (nI 0)) rfl ?_
      exfalso
      omega
    · have q2 := mt Int32.le_iff_toInt_le.mpr q2
      rw [nI_toInt (n := 10) (by decide)] at q2
      refine lv_iconst hx hb d_M_first_11 (v := (nI 1)) rfl ?_
      refine lv_goto hx hb d_M_first_12 (tgt := 16) (by decide) ?_
      refine tq_put (F := mF am) hx hb hts (fun w h => hT w (uM_in w h)) tM tM_ok nM hown hK (tm_one hM 0 rfl) (ci := 1) rfl 0 (by decide) (hts _ (hT _ k_M_43)) (fun _ h => h) rfl (ty := .int) rfl rfl rfl (Nat.le_of_ble_eq_true rfl) ⟨0, by decide, rfl⟩ hL d_M_first_16 (fun H1 locs1 hP1 hz1 hq1 hL => ?_)
      have hM : tm D ci am g (nI 1) fo sz hs mi hi tx H1 := tm_set hD hM 0 (by decide) rfl hP1 (fun j hj => by rcases j with _ | _ | _ | _ | _ | _ | _ | _ | _ | _ | _ | j <;> first | rfl | exact absurd rfl hj) hq1
      have hO := hO.tr (mO.put (k := 0) (by decide) hz1 hq1)
      refine lv_aload_n hx hb d_M_first_19 rfl (lv_at hl 0 rfl) ?_
      refine va_get hx hb hts (fun w h => hT w (uM_in w h)) hown hK hM 0 rfl rfl 0 (by decide) (hts _ (hT _ k_M_43)) (fun _ h => h) rfl d_M_first_20 ?_
      refine lv_if_ne hx hb d_M_first_23 (tgt := 38) (by decide) (fun _ => ?_) (fun hno => absurd hno (by decide))
      refine lv_iconst hx hb d_M_first_38 (v := (nI 0)) rfl ?_
      exact W.iret hx hb hr (fun t ht hW => ⟨_, rfl, rfl, by rw [ht]; exact hM, by rw [ht]; exact hO⟩) hL d_M_first_39
set_option maxHeartbeats 4000000 in
set_option maxRecDepth 100000 in
theorem c_M_year (l : Launch) (D : va_G) (ci : Nat → ClassId) (am : Nat → Nat) (g : TS) (th fo sz : Int32) (hs mi hi tx : Nat → Int32) {mm : Nat} (hm : mm < tt_fst g 10) : Met l y_M_year (wT y_M_year b_M_year 2 (some .int)) (rP 2 45) (tb (wMD D ci am g th fo sz hs mi hi tx) [.ref (am 0), .int (nI mm)]) (qM D ci am g (nI 0) fo sz hs mi hi tx (some (.int (nI (tt_yr g mm))))) 0 0 (mF am) := by
  refine Met.ofW (cc := b_M_year) (maxL := 2) (ret := (some .int)) (by decide) rfl ?_
  intro p e s m args below meth c s₁ B hml hv
  obtain ⟨rfl, hK, hg, hM, hD⟩ := hv
  have hx := B.exec
  have hb := B.bytes
  have hr := B.returns
  have hts := atoms_spec (ws := wT y_M_year b_M_year 2 (some .int)) B.pre
  have hT : ∀ w ∈ TT, w ∈ wT y_M_year b_M_year 2 (some .int) := wT_T
  have hown : s.vm.findClass RM = some m.cls := findClass_of_methodNamed B.named
  have hlocks := B.notSynchronized
  have hl := lv_entry ([.ref (am 0), .int (nI mm)]) (n := 2) (Nat.le_of_ble_eq_true rfl)
  rw [lg_entry_eq]
  generalize (lg_sl ([.ref (am 0), .int (nI mm)]) ++ List.replicate (2 - (lg_sl ([.ref (am 0), .int (nI mm)])).length) Slot.unset).toArray = ls at hl ⊢
  have hl : lv_has ls 2 [(0, .ref (am 0)), (1, .int (nI mm))] := hl
  have hL : ∀ q ∈ ([] : List Loc), mF am q.base := fun q hq => nomatch hq
  have hO : mO am s.heap s.heap := mO.rf
  have hdb := tt_db_in hg.2.2.2 10 (Nat.le_refl _)
  have hf10 : tt_fst g 10 = 1440 * tt_db (tt_day g) 10 := rfl
  have ev : (nI mm).toInt = mm := nI_toInt (by omega)
  refine lv_aload_n hx hb d_M_year_0 rfl (lv_at hl 0 rfl) ?_
  refine lv_aload_n hx hb d_M_year_1 rfl (lv_at hl 0 rfl) ?_
  refine lv_iload_n hx hb d_M_year_2 rfl (lv_at hl 1 rfl) ?_
  refine tq_V ⟨hx, hb, hml, hown, hts⟩ hT (c_M_isMinute l D ci am g th fo sz hs mi hi tx (nI mm)) lk_M_73 wM_mv ⟨hK, hg, hM⟩ (wM_rc hK hM) rfl hl.1 rfl (Nat.le_of_ble_eq_true rfl) d_M_year_3 ⟨rfl, rfl, Nat.le_of_ble_eq_true rfl, Nat.le_of_ble_eq_true rfl⟩ ⟨Nat.zero_le _, Nat.zero_le _⟩ ?_
  refine lv_if_eq hx hb d_M_year_6 (tgt := 13) (by decide) (fun q1 => ?_) (fun q1 => ?_)
  · have q1 := zb_f q1
    refine lv_iconst hx hb d_M_year_13 (v := (nI 1)) rfl ?_
    exfalso
    omega
  · have q1 := zb_t q1
    refine lv_iconst hx hb d_M_year_9 (v := (nI 0)) rfl ?_
    refine lv_goto hx hb d_M_year_10 (tgt := 14) (by decide) ?_
    refine tq_put (F := mF am) hx hb hts (fun w h => hT w (uM_in w h)) tM tM_ok nM hown hK (tm_one hM 0 rfl) (ci := 1) rfl 0 (by decide) (hts _ (hT _ k_M_43)) (fun _ h => h) rfl (ty := .int) rfl rfl rfl (Nat.le_of_ble_eq_true rfl) ⟨0, by decide, rfl⟩ hL d_M_year_14 (fun H1 locs1 hP1 hz1 hq1 hL => ?_)
    have hM : tm D ci am g (nI 0) fo sz hs mi hi tx H1 := tm_set hD hM 0 (by decide) rfl hP1 (fun j hj => by rcases j with _ | _ | _ | _ | _ | _ | _ | _ | _ | _ | _ | j <;> first | rfl | exact absurd rfl hj) hq1
    have hO := hO.tr (mO.put (k := 0) (by decide) hz1 hq1)
    refine lv_aload_n hx hb d_M_year_17 rfl (lv_at hl 0 rfl) ?_
    refine va_get hx hb hts (fun w h => hT w (uM_in w h)) hown hK hM 0 rfl rfl 0 (by decide) (hts _ (hT _ k_M_43)) (fun _ h => h) rfl d_M_year_18 ?_
    refine lv_if_ne hx hb d_M_year_21 (tgt := 36) (by decide) (fun hyes => absurd (by decide) hyes) (fun _ => ?_)
    refine lv_aload_n hx hb d_M_year_24 rfl (lv_at hl 0 rfl) ?_
    refine lv_iload_n hx hb d_M_year_25 rfl (lv_at hl 1 rfl) ?_
    refine lv_sipush hx hb d_M_year_26 (v := (nI 1440)) rfl ?_
    refine lv_idiv hx hb d_M_year_29 (by decide) ?_
    refine tq_ti (show _ = (nI (mm / 1440)) from pk_div (by omega) (by decide) (by decide)) ?_
    refine tq_V ⟨hx, hb, hml, hown, hts⟩ hT (c_M_yearOfDay l D ci am g (nI 0) fo sz hs mi hi tx (d := mm / 1440) (by omega)) lk_M_76 wM_mv ⟨hK, hg, hM⟩ (wM_rc hK hM) rfl hl.1 rfl (Nat.le_of_ble_eq_true rfl) d_M_year_30 ⟨rfl, rfl, Nat.le_of_ble_eq_true rfl, Nat.le_of_ble_eq_true rfl⟩ ⟨Nat.zero_le _, Nat.zero_le _⟩ ?_
    refine tq_ti (show _ = (nI (tt_yr g mm)) from (by rw [← tt_yr_day])) ?_
    refine lv_goto hx hb d_M_year_33 (tgt := 37) (by decide) ?_
    exact W.iret hx hb hr (fun t ht hW => ⟨_, rfl, rfl, by rw [ht]; exact hM, by rw [ht]; exact hO⟩) hL d_M_year_37
set_option maxHeartbeats 4000000 in
set_option maxRecDepth 100000 in
theorem x_M_year (l : Launch) (D : va_G) (ci : Nat → ClassId) (am : Nat → Nat) (g : TS) (th fo sz : Int32) (hs mi hi tx : Nat → Int32) (v : Int32) (hv0 : ¬ (0 ≤ v.toInt ∧ v.toInt < (tt_fst g 10 : Nat))) : Met l y_M_year (wT y_M_year b_M_year 2 (some .int)) (rP 2 45) (tb (wMD D ci am g th fo sz hs mi hi tx) [.ref (am 0), .int v]) (qM D ci am g (nI 1) fo sz hs mi hi tx (some (.int (nI 0)))) 0 0 (mF am) := by
  refine Met.ofW (cc := b_M_year) (maxL := 2) (ret := (some .int)) (by decide) rfl ?_
  intro p e s m args below meth c s₁ B hml hv
  obtain ⟨rfl, hK, hg, hM, hD⟩ := hv
  have hx := B.exec
  have hb := B.bytes
  have hr := B.returns
  have hts := atoms_spec (ws := wT y_M_year b_M_year 2 (some .int)) B.pre
  have hT : ∀ w ∈ TT, w ∈ wT y_M_year b_M_year 2 (some .int) := wT_T
  have hown : s.vm.findClass RM = some m.cls := findClass_of_methodNamed B.named
  have hlocks := B.notSynchronized
  have hl := lv_entry ([.ref (am 0), .int v]) (n := 2) (Nat.le_of_ble_eq_true rfl)
  rw [lg_entry_eq]
  generalize (lg_sl ([.ref (am 0), .int v]) ++ List.replicate (2 - (lg_sl ([.ref (am 0), .int v])).length) Slot.unset).toArray = ls at hl ⊢
  have hl : lv_has ls 2 [(0, .ref (am 0)), (1, .int v)] := hl
  have hL : ∀ q ∈ ([] : List Loc), mF am q.base := fun q hq => nomatch hq
  have hO : mO am s.heap s.heap := mO.rf
  refine lv_aload_n hx hb d_M_year_0 rfl (lv_at hl 0 rfl) ?_
  refine lv_aload_n hx hb d_M_year_1 rfl (lv_at hl 0 rfl) ?_
  refine lv_iload_n hx hb d_M_year_2 rfl (lv_at hl 1 rfl) ?_
  refine tq_V ⟨hx, hb, hml, hown, hts⟩ hT (c_M_isMinute l D ci am g th fo sz hs mi hi tx v) lk_M_73 wM_mv ⟨hK, hg, hM⟩ (wM_rc hK hM) rfl hl.1 rfl (Nat.le_of_ble_eq_true rfl) d_M_year_3 ⟨rfl, rfl, Nat.le_of_ble_eq_true rfl, Nat.le_of_ble_eq_true rfl⟩ ⟨Nat.zero_le _, Nat.zero_le _⟩ ?_
  refine lv_if_eq hx hb d_M_year_6 (tgt := 13) (by decide) (fun q1 => ?_) (fun q1 => ?_)
  · have q1 := zb_f q1
    refine lv_iconst hx hb d_M_year_13 (v := (nI 1)) rfl ?_
    refine tq_put (F := mF am) hx hb hts (fun w h => hT w (uM_in w h)) tM tM_ok nM hown hK (tm_one hM 0 rfl) (ci := 1) rfl 0 (by decide) (hts _ (hT _ k_M_43)) (fun _ h => h) rfl (ty := .int) rfl rfl rfl (Nat.le_of_ble_eq_true rfl) ⟨0, by decide, rfl⟩ hL d_M_year_14 (fun H1 locs1 hP1 hz1 hq1 hL => ?_)
    have hM : tm D ci am g (nI 1) fo sz hs mi hi tx H1 := tm_set hD hM 0 (by decide) rfl hP1 (fun j hj => by rcases j with _ | _ | _ | _ | _ | _ | _ | _ | _ | _ | _ | j <;> first | rfl | exact absurd rfl hj) hq1
    have hO := hO.tr (mO.put (k := 0) (by decide) hz1 hq1)
    refine lv_aload_n hx hb d_M_year_17 rfl (lv_at hl 0 rfl) ?_
    refine va_get hx hb hts (fun w h => hT w (uM_in w h)) hown hK hM 0 rfl rfl 0 (by decide) (hts _ (hT _ k_M_43)) (fun _ h => h) rfl d_M_year_18 ?_
    refine lv_if_ne hx hb d_M_year_21 (tgt := 36) (by decide) (fun _ => ?_) (fun hno => absurd hno (by decide))
    refine lv_iconst hx hb d_M_year_36 (v := (nI 0)) rfl ?_
    exact W.iret hx hb hr (fun t ht hW => ⟨_, rfl, rfl, by rw [ht]; exact hM, by rw [ht]; exact hO⟩) hL d_M_year_37
  · have q1 := zb_t q1
    refine lv_iconst hx hb d_M_year_9 (v := (nI 0)) rfl ?_
    refine lv_goto hx hb d_M_year_10 (tgt := 14) (by decide) ?_
    exfalso
    omega
set_option maxHeartbeats 4000000 in
set_option maxRecDepth 100000 in
theorem c_M_position (l : Launch) (D : va_G) (ci : Nat → ClassId) (am : Nat → Nat) (g : TS) (th fo sz : Int32) (hs mi hi tx : Nat → Int32) {i mm : Nat} (hi8 : i < 8) (hm : mm < tt_fst g 10) : Met l y_M_position (wT y_M_position b_M_position 3 (some .long)) (rP 2 45) (tb (wMD D ci am g th fo sz hs mi hi tx) [.ref (am 0), .int (nI i), .int (nI mm)]) (qM D ci am g (nI 0) fo sz hs mi hi tx (some (.long (lN (tt_pos g i mm (tt_yr g mm)))))) 0 0 (mF am) := by
  refine Met.ofW (cc := b_M_position) (maxL := 3) (ret := (some .long)) (by decide) rfl ?_
  intro p e s m args below meth c s₁ B hml hv
  obtain ⟨rfl, hK, hg, hM, hD⟩ := hv
  have hx := B.exec
  have hb := B.bytes
  have hr := B.returns
  have hts := atoms_spec (ws := wT y_M_position b_M_position 3 (some .long)) B.pre
  have hT : ∀ w ∈ TT, w ∈ wT y_M_position b_M_position 3 (some .long) := wT_T
  have hown : s.vm.findClass RM = some m.cls := findClass_of_methodNamed B.named
  have hlocks := B.notSynchronized
  have hl := lv_entry ([.ref (am 0), .int (nI i), .int (nI mm)]) (n := 3) (Nat.le_of_ble_eq_true rfl)
  rw [lg_entry_eq]
  generalize (lg_sl ([.ref (am 0), .int (nI i), .int (nI mm)]) ++ List.replicate (3 - (lg_sl ([.ref (am 0), .int (nI i), .int (nI mm)])).length) Slot.unset).toArray = ls at hl ⊢
  have hl : lv_has ls 3 [(0, .ref (am 0)), (1, .int (nI i)), (2, .int (nI mm))] := hl
  have hL : ∀ q ∈ ([] : List Loc), mF am q.base := fun q hq => nomatch hq
  have hO : mO am s.heap s.heap := mO.rf
  have hdb := tt_db_in hg.2.2.2 10 (Nat.le_refl _)
  have hf10 : tt_fst g 10 = 1440 * tt_db (tt_day g) 10 := rfl
  have ev : (nI mm).toInt = mm := nI_toInt (by omega)
  have ei : (nI i).toInt = i := nI_toInt (by omega)
  refine lv_aload_n hx hb d_M_position_0 rfl (lv_at hl 0 rfl) ?_
  refine lv_iload_n hx hb d_M_position_1 rfl (lv_at hl 1 rfl) ?_
  refine tq_S ⟨hx, hb, hml, hown, hts⟩ hT (c_M_isOne l (nI i)) lk_M_61 wN_mv trivial rfl hl.1 rfl (Nat.le_of_ble_eq_true rfl) d_M_position_2 ⟨rfl, rfl, Nat.le_of_ble_eq_true rfl, Nat.le_of_ble_eq_true rfl⟩ ⟨Nat.zero_le _, Nat.zero_le _⟩ ?_
  refine lv_if_eq hx hb d_M_position_5 (tgt := 20) (by decide) (fun q1 => ?_) (fun q1 => ?_)
  · have q1 := zb_f q1
    refine lv_iconst hx hb d_M_position_20 (v := (nI 1)) rfl ?_
    exfalso
    omega
  · have q1 := zb_t q1
    refine lv_aload_n hx hb d_M_position_8 rfl (lv_at hl 0 rfl) ?_
    refine lv_iload_n hx hb d_M_position_9 rfl (lv_at hl 2 rfl) ?_
    refine tq_V ⟨hx, hb, hml, hown, hts⟩ hT (c_M_isMinute l D ci am g th fo sz hs mi hi tx (nI mm)) lk_M_73 wM_mv ⟨hK, hg, hM⟩ (wM_rc hK hM) rfl hl.1 rfl (Nat.le_of_ble_eq_true rfl) d_M_position_10 ⟨rfl, rfl, Nat.le_of_ble_eq_true rfl, Nat.le_of_ble_eq_true rfl⟩ ⟨Nat.zero_le _, Nat.zero_le _⟩ ?_
    refine lv_if_eq hx hb d_M_position_13 (tgt := 20) (by decide) (fun q2 => ?_) (fun q2 => ?_)
    · have q2 := zb_f q2
      refine lv_iconst hx hb d_M_position_20 (v := (nI 1)) rfl ?_
      exfalso
      omega
    · have q2 := zb_t q2
      refine lv_iconst hx hb d_M_position_16 (v := (nI 0)) rfl ?_
      refine lv_goto hx hb d_M_position_17 (tgt := 21) (by decide) ?_
      refine tq_put (F := mF am) hx hb hts (fun w h => hT w (uM_in w h)) tM tM_ok nM hown hK (tm_one hM 0 rfl) (ci := 1) rfl 0 (by decide) (hts _ (hT _ k_M_43)) (fun _ h => h) rfl (ty := .int) rfl rfl rfl (Nat.le_of_ble_eq_true rfl) ⟨0, by decide, rfl⟩ hL d_M_position_21 (fun H1 locs1 hP1 hz1 hq1 hL => ?_)
      have hM : tm D ci am g (nI 0) fo sz hs mi hi tx H1 := tm_set hD hM 0 (by decide) rfl hP1 (fun j hj => by rcases j with _ | _ | _ | _ | _ | _ | _ | _ | _ | _ | _ | j <;> first | rfl | exact absurd rfl hj) hq1
      have hO := hO.tr (mO.put (k := 0) (by decide) hz1 hq1)
      refine lv_aload_n hx hb d_M_position_24 rfl (lv_at hl 0 rfl) ?_
      refine va_get hx hb hts (fun w h => hT w (uM_in w h)) hown hK hM 0 rfl rfl 0 (by decide) (hts _ (hT _ k_M_43)) (fun _ h => h) rfl d_M_position_25 ?_
      refine lv_if_ne hx hb d_M_position_28 (tgt := 49) (by decide) (fun hyes => absurd (by decide) hyes) (fun _ => ?_)
      refine lv_aload_n hx hb d_M_position_31 rfl (lv_at hl 0 rfl) ?_
      refine lv_iload_n hx hb d_M_position_32 rfl (lv_at hl 1 rfl) ?_
      refine lv_iload_n hx hb d_M_position_33 rfl (lv_at hl 2 rfl) ?_
      refine lv_aload_n hx hb d_M_position_34 rfl (lv_at hl 0 rfl) ?_
      refine lv_iload_n hx hb d_M_position_35 rfl (lv_at hl 2 rfl) ?_
      refine lv_sipush hx hb d_M_position_36 (v := (nI 1440)) rfl ?_
      refine lv_idiv hx hb d_M_position_39 (by decide) ?_
      refine tq_ti (show _ = (nI (mm / 1440)) from pk_div (by omega) (by decide) (by decide)) ?_
      refine tq_V ⟨hx, hb, hml, hown, hts⟩ hT (c_M_yearOfDay l D ci am g (nI 0) fo sz hs mi hi tx (d := mm / 1440) (by omega)) lk_M_76 wM_mv ⟨hK, hg, hM⟩ (wM_rc hK hM) rfl hl.1 rfl (Nat.le_of_ble_eq_true rfl) d_M_position_40 ⟨rfl, rfl, Nat.le_of_ble_eq_true rfl, Nat.le_of_ble_eq_true rfl⟩ ⟨Nat.zero_le _, Nat.zero_le _⟩ ?_
      refine tq_ti (show _ = (nI (tt_yr g mm)) from (by rw [← tt_yr_day])) ?_
      refine tq_V ⟨hx, hb, hml, hown, hts⟩ hT (c_M_positionOf l D ci am g (nI 0) fo sz hs mi hi tx hi8 (mm := mm) (by omega) (tt_yr_lt g mm)) lk_M_79 wM_mv ⟨hK, hg, hM⟩ (wM_rc hK hM) rfl hl.1 rfl (Nat.le_of_ble_eq_true rfl) d_M_position_43 ⟨rfl, rfl, Nat.le_of_ble_eq_true rfl, Nat.le_of_ble_eq_true rfl⟩ ⟨Nat.zero_le _, Nat.zero_le _⟩ ?_
      refine lv_goto hx hb d_M_position_46 (tgt := 50) (by decide) ?_
      exact W.lret hx hb hr (fun t ht hW => ⟨_, rfl, rfl, by rw [ht]; exact hM, by rw [ht]; exact hO⟩) hL d_M_position_50
set_option maxHeartbeats 4000000 in
set_option maxRecDepth 100000 in
theorem x_M_position (l : Launch) (D : va_G) (ci : Nat → ClassId) (am : Nat → Nat) (g : TS) (th fo sz : Int32) (hs mi hi tx : Nat → Int32) (u v : Int32) (hv0 : ¬ ((0 ≤ u.toInt ∧ u.toInt < 8) ∧ 0 ≤ v.toInt ∧ v.toInt < (tt_fst g 10 : Nat))) : Met l y_M_position (wT y_M_position b_M_position 3 (some .long)) (rP 2 45) (tb (wMD D ci am g th fo sz hs mi hi tx) [.ref (am 0), .int u, .int v]) (qM D ci am g (nI 1) fo sz hs mi hi tx (some (.long (lN 0)))) 0 0 (mF am) := by
  refine Met.ofW (cc := b_M_position) (maxL := 3) (ret := (some .long)) (by decide) rfl ?_
  intro p e s m args below meth c s₁ B hml hv
  obtain ⟨rfl, hK, hg, hM, hD⟩ := hv
  have hx := B.exec
  have hb := B.bytes
  have hr := B.returns
  have hts := atoms_spec (ws := wT y_M_position b_M_position 3 (some .long)) B.pre
  have hT : ∀ w ∈ TT, w ∈ wT y_M_position b_M_position 3 (some .long) := wT_T
  have hown : s.vm.findClass RM = some m.cls := findClass_of_methodNamed B.named
  have hlocks := B.notSynchronized
  have hl := lv_entry ([.ref (am 0), .int u, .int v]) (n := 3) (Nat.le_of_ble_eq_true rfl)
  rw [lg_entry_eq]
  generalize (lg_sl ([.ref (am 0), .int u, .int v]) ++ List.replicate (3 - (lg_sl ([.ref (am 0), .int u, .int v])).length) Slot.unset).toArray = ls at hl ⊢
  have hl : lv_has ls 3 [(0, .ref (am 0)), (1, .int u), (2, .int v)] := hl
  have hL : ∀ q ∈ ([] : List Loc), mF am q.base := fun q hq => nomatch hq
  have hO : mO am s.heap s.heap := mO.rf
  refine lv_aload_n hx hb d_M_position_0 rfl (lv_at hl 0 rfl) ?_
  refine lv_iload_n hx hb d_M_position_1 rfl (lv_at hl 1 rfl) ?_
  refine tq_S ⟨hx, hb, hml, hown, hts⟩ hT (c_M_isOne l u) lk_M_61 wN_mv trivial rfl hl.1 rfl (Nat.le_of_ble_eq_true rfl) d_M_position_2 ⟨rfl, rfl, Nat.le_of_ble_eq_true rfl, Nat.le_of_ble_eq_true rfl⟩ ⟨Nat.zero_le _, Nat.zero_le _⟩ ?_
  refine lv_if_eq hx hb d_M_position_5 (tgt := 20) (by decide) (fun q1 => ?_) (fun q1 => ?_)
  · have q1 := zb_f q1
    refine lv_iconst hx hb d_M_position_20 (v := (nI 1)) rfl ?_
    refine tq_put (F := mF am) hx hb hts (fun w h => hT w (uM_in w h)) tM tM_ok nM hown hK (tm_one hM 0 rfl) (ci := 1) rfl 0 (by decide) (hts _ (hT _ k_M_43)) (fun _ h => h) rfl (ty := .int) rfl rfl rfl (Nat.le_of_ble_eq_true rfl) ⟨0, by decide, rfl⟩ hL d_M_position_21 (fun H1 locs1 hP1 hz1 hq1 hL => ?_)
    have hM : tm D ci am g (nI 1) fo sz hs mi hi tx H1 := tm_set hD hM 0 (by decide) rfl hP1 (fun j hj => by rcases j with _ | _ | _ | _ | _ | _ | _ | _ | _ | _ | _ | j <;> first | rfl | exact absurd rfl hj) hq1
    have hO := hO.tr (mO.put (k := 0) (by decide) hz1 hq1)
    refine lv_aload_n hx hb d_M_position_24 rfl (lv_at hl 0 rfl) ?_
    refine va_get hx hb hts (fun w h => hT w (uM_in w h)) hown hK hM 0 rfl rfl 0 (by decide) (hts _ (hT _ k_M_43)) (fun _ h => h) rfl d_M_position_25 ?_
    refine lv_if_ne hx hb d_M_position_28 (tgt := 49) (by decide) (fun _ => ?_) (fun hno => absurd hno (by decide))
    refine lv_lconst hx hb d_M_position_49 (v := (lN 0)) rfl ?_
    exact W.lret hx hb hr (fun t ht hW => ⟨_, rfl, rfl, by rw [ht]; exact hM, by rw [ht]; exact hO⟩) hL d_M_position_50
  · have q1 := zb_t q1
    refine lv_aload_n hx hb d_M_position_8 rfl (lv_at hl 0 rfl) ?_
    refine lv_iload_n hx hb d_M_position_9 rfl (lv_at hl 2 rfl) ?_
    refine tq_V ⟨hx, hb, hml, hown, hts⟩ hT (c_M_isMinute l D ci am g th fo sz hs mi hi tx v) lk_M_73 wM_mv ⟨hK, hg, hM⟩ (wM_rc hK hM) rfl hl.1 rfl (Nat.le_of_ble_eq_true rfl) d_M_position_10 ⟨rfl, rfl, Nat.le_of_ble_eq_true rfl, Nat.le_of_ble_eq_true rfl⟩ ⟨Nat.zero_le _, Nat.zero_le _⟩ ?_
    refine lv_if_eq hx hb d_M_position_13 (tgt := 20) (by decide) (fun q2 => ?_) (fun q2 => ?_)
    · have q2 := zb_f q2
      refine lv_iconst hx hb d_M_position_20 (v := (nI 1)) rfl ?_
      refine tq_put (F := mF am) hx hb hts (fun w h => hT w (uM_in w h)) tM tM_ok nM hown hK (tm_one hM 0 rfl) (ci := 1) rfl 0 (by decide) (hts _ (hT _ k_M_43)) (fun _ h => h) rfl (ty := .int) rfl rfl rfl (Nat.le_of_ble_eq_true rfl) ⟨0, by decide, rfl⟩ hL d_M_position_21 (fun H1 locs1 hP1 hz1 hq1 hL => ?_)
      have hM : tm D ci am g (nI 1) fo sz hs mi hi tx H1 := tm_set hD hM 0 (by decide) rfl hP1 (fun j hj => by rcases j with _ | _ | _ | _ | _ | _ | _ | _ | _ | _ | _ | j <;> first | rfl | exact absurd rfl hj) hq1
      have hO := hO.tr (mO.put (k := 0) (by decide) hz1 hq1)
      refine lv_aload_n hx hb d_M_position_24 rfl (lv_at hl 0 rfl) ?_
      refine va_get hx hb hts (fun w h => hT w (uM_in w h)) hown hK hM 0 rfl rfl 0 (by decide) (hts _ (hT _ k_M_43)) (fun _ h => h) rfl d_M_position_25 ?_
      refine lv_if_ne hx hb d_M_position_28 (tgt := 49) (by decide) (fun _ => ?_) (fun hno => absurd hno (by decide))
      refine lv_lconst hx hb d_M_position_49 (v := (lN 0)) rfl ?_
      exact W.lret hx hb hr (fun t ht hW => ⟨_, rfl, rfl, by rw [ht]; exact hM, by rw [ht]; exact hO⟩) hL d_M_position_50
    · have q2 := zb_t q2
      refine lv_iconst hx hb d_M_position_16 (v := (nI 0)) rfl ?_
      refine lv_goto hx hb d_M_position_17 (tgt := 21) (by decide) ?_
      exfalso
      omega
set_option maxHeartbeats 4000000 in
set_option maxRecDepth 100000 in
theorem c_M_cosine (l : Launch) (D : va_G) (ci : Nat → ClassId) (am : Nat → Nat) (g : TS) (th fo sz : Int32) (hs mi hi tx : Nat → Int32) {n : Nat} (hn : n < 281474976710656) : Met l y_M_cosine (wT y_M_cosine b_M_cosine 3 (some .int)) (rP 1 35) (tb (wMD D ci am g th fo sz hs mi hi tx) [.ref (am 0), .long (lN n)]) (qM D ci am g (nI 0) fo sz hs mi hi tx (some (.int (iZ (tt_cos n))))) 0 0 (mF am) := by
  refine Met.ofW (cc := b_M_cosine) (maxL := 3) (ret := (some .int)) (by decide) rfl ?_
  intro p e s m args below meth c s₁ B hml hv
  obtain ⟨rfl, hK, hg, hM, hD⟩ := hv
  have hx := B.exec
  have hb := B.bytes
  have hr := B.returns
  have hts := atoms_spec (ws := wT y_M_cosine b_M_cosine 3 (some .int)) B.pre
  have hT : ∀ w ∈ TT, w ∈ wT y_M_cosine b_M_cosine 3 (some .int) := wT_T
  have hown : s.vm.findClass RM = some m.cls := findClass_of_methodNamed B.named
  have hlocks := B.notSynchronized
  have hl := lv_entry ([.ref (am 0), .long (lN n)]) (n := 3) (Nat.le_of_ble_eq_true rfl)
  rw [lg_entry_eq]
  generalize (lg_sl ([.ref (am 0), .long (lN n)]) ++ List.replicate (3 - (lg_sl ([.ref (am 0), .long (lN n)])).length) Slot.unset).toArray = ls at hl ⊢
  have hl : lv_has ls 3 [(0, .ref (am 0)), (1, .long (lN n))] := hl
  have hL : ∀ q ∈ ([] : List Loc), mF am q.base := fun q hq => nomatch hq
  have hO : mO am s.heap s.heap := mO.rf
  have ev : (lN n).toInt = n := pk_lT (by omega)
  refine lv_aload_n hx hb d_M_cosine_0 rfl (lv_at hl 0 rfl) ?_
  refine lv_lload_n hx hb d_M_cosine_1 rfl (lv_at hl 1 rfl) ?_
  refine tq_S ⟨hx, hb, hml, hown, hts⟩ hT (c_M_isTurn l (lN n)) lk_M_57 wN_mv trivial rfl hl.1 rfl (Nat.le_of_ble_eq_true rfl) d_M_cosine_2 ⟨rfl, rfl, Nat.le_of_ble_eq_true rfl, Nat.le_of_ble_eq_true rfl⟩ ⟨Nat.zero_le _, Nat.zero_le _⟩ ?_
  refine lv_if_eq hx hb d_M_cosine_5 (tgt := 12) (by decide) (fun q1 => ?_) (fun q1 => ?_)
  · have q1 := zb_f q1
    refine lv_iconst hx hb d_M_cosine_12 (v := (nI 1)) rfl ?_
    exfalso
    omega
  · have q1 := zb_t q1
    refine lv_iconst hx hb d_M_cosine_8 (v := (nI 0)) rfl ?_
    refine lv_goto hx hb d_M_cosine_9 (tgt := 13) (by decide) ?_
    refine tq_put (F := mF am) hx hb hts (fun w h => hT w (uM_in w h)) tM tM_ok nM hown hK (tm_one hM 0 rfl) (ci := 1) rfl 0 (by decide) (hts _ (hT _ k_M_43)) (fun _ h => h) rfl (ty := .int) rfl rfl rfl (Nat.le_of_ble_eq_true rfl) ⟨0, by decide, rfl⟩ hL d_M_cosine_13 (fun H1 locs1 hP1 hz1 hq1 hL => ?_)
    have hM : tm D ci am g (nI 0) fo sz hs mi hi tx H1 := tm_set hD hM 0 (by decide) rfl hP1 (fun j hj => by rcases j with _ | _ | _ | _ | _ | _ | _ | _ | _ | _ | _ | j <;> first | rfl | exact absurd rfl hj) hq1
    have hO := hO.tr (mO.put (k := 0) (by decide) hz1 hq1)
    refine lv_aload_n hx hb d_M_cosine_16 rfl (lv_at hl 0 rfl) ?_
    refine va_get hx hb hts (fun w h => hT w (uM_in w h)) hown hK hM 0 rfl rfl 0 (by decide) (hts _ (hT _ k_M_43)) (fun _ h => h) rfl d_M_cosine_17 ?_
    refine lv_if_ne hx hb d_M_cosine_20 (tgt := 31) (by decide) (fun hyes => absurd (by decide) hyes) (fun _ => ?_)
    refine lv_lload_n hx hb d_M_cosine_23 rfl (lv_at hl 1 rfl) ?_
    refine tq_S ⟨hx, hb, hml, hown, hts⟩ hT (c_M_cosineOf l hn) lk_M_99 wN_mv trivial rfl hl.1 rfl (Nat.le_of_ble_eq_true rfl) d_M_cosine_24 ⟨rfl, rfl, Nat.le_of_ble_eq_true rfl, Nat.le_of_ble_eq_true rfl⟩ ⟨Nat.zero_le _, Nat.zero_le _⟩ ?_
    refine lv_l2i hx hb d_M_cosine_27 (v := (lZ (tt_cos n)).toInt32) rfl ?_
    refine tq_ti (show _ = (iZ (tt_cos n)) from lZ_i _) ?_
    refine lv_goto hx hb d_M_cosine_28 (tgt := 32) (by decide) ?_
    exact W.iret hx hb hr (fun t ht hW => ⟨_, rfl, rfl, by rw [ht]; exact hM, by rw [ht]; exact hO⟩) hL d_M_cosine_32
set_option maxHeartbeats 4000000 in
set_option maxRecDepth 100000 in
theorem x_M_cosine (l : Launch) (D : va_G) (ci : Nat → ClassId) (am : Nat → Nat) (g : TS) (th fo sz : Int32) (hs mi hi tx : Nat → Int32) (v : Int64) (hv0 : ¬ (0 ≤ v.toInt ∧ v.toInt < 281474976710656)) : Met l y_M_cosine (wT y_M_cosine b_M_cosine 3 (some .int)) (rP 1 35) (tb (wMD D ci am g th fo sz hs mi hi tx) [.ref (am 0), .long v]) (qM D ci am g (nI 1) fo sz hs mi hi tx (some (.int (nI 0)))) 0 0 (mF am) := by
  refine Met.ofW (cc := b_M_cosine) (maxL := 3) (ret := (some .int)) (by decide) rfl ?_
  intro p e s m args below meth c s₁ B hml hv
  obtain ⟨rfl, hK, hg, hM, hD⟩ := hv
  have hx := B.exec
  have hb := B.bytes
  have hr := B.returns
  have hts := atoms_spec (ws := wT y_M_cosine b_M_cosine 3 (some .int)) B.pre
  have hT : ∀ w ∈ TT, w ∈ wT y_M_cosine b_M_cosine 3 (some .int) := wT_T
  have hown : s.vm.findClass RM = some m.cls := findClass_of_methodNamed B.named
  have hlocks := B.notSynchronized
  have hl := lv_entry ([.ref (am 0), .long v]) (n := 3) (Nat.le_of_ble_eq_true rfl)
  rw [lg_entry_eq]
  generalize (lg_sl ([.ref (am 0), .long v]) ++ List.replicate (3 - (lg_sl ([.ref (am 0), .long v])).length) Slot.unset).toArray = ls at hl ⊢
  have hl : lv_has ls 3 [(0, .ref (am 0)), (1, .long v)] := hl
  have hL : ∀ q ∈ ([] : List Loc), mF am q.base := fun q hq => nomatch hq
  have hO : mO am s.heap s.heap := mO.rf
  refine lv_aload_n hx hb d_M_cosine_0 rfl (lv_at hl 0 rfl) ?_
  refine lv_lload_n hx hb d_M_cosine_1 rfl (lv_at hl 1 rfl) ?_
  refine tq_S ⟨hx, hb, hml, hown, hts⟩ hT (c_M_isTurn l v) lk_M_57 wN_mv trivial rfl hl.1 rfl (Nat.le_of_ble_eq_true rfl) d_M_cosine_2 ⟨rfl, rfl, Nat.le_of_ble_eq_true rfl, Nat.le_of_ble_eq_true rfl⟩ ⟨Nat.zero_le _, Nat.zero_le _⟩ ?_
  refine lv_if_eq hx hb d_M_cosine_5 (tgt := 12) (by decide) (fun q1 => ?_) (fun q1 => ?_)
  · have q1 := zb_f q1
    refine lv_iconst hx hb d_M_cosine_12 (v := (nI 1)) rfl ?_
    refine tq_put (F := mF am) hx hb hts (fun w h => hT w (uM_in w h)) tM tM_ok nM hown hK (tm_one hM 0 rfl) (ci := 1) rfl 0 (by decide) (hts _ (hT _ k_M_43)) (fun _ h => h) rfl (ty := .int) rfl rfl rfl (Nat.le_of_ble_eq_true rfl) ⟨0, by decide, rfl⟩ hL d_M_cosine_13 (fun H1 locs1 hP1 hz1 hq1 hL => ?_)
    have hM : tm D ci am g (nI 1) fo sz hs mi hi tx H1 := tm_set hD hM 0 (by decide) rfl hP1 (fun j hj => by rcases j with _ | _ | _ | _ | _ | _ | _ | _ | _ | _ | _ | j <;> first | rfl | exact absurd rfl hj) hq1
    have hO := hO.tr (mO.put (k := 0) (by decide) hz1 hq1)
    refine lv_aload_n hx hb d_M_cosine_16 rfl (lv_at hl 0 rfl) ?_
    refine va_get hx hb hts (fun w h => hT w (uM_in w h)) hown hK hM 0 rfl rfl 0 (by decide) (hts _ (hT _ k_M_43)) (fun _ h => h) rfl d_M_cosine_17 ?_
    refine lv_if_ne hx hb d_M_cosine_20 (tgt := 31) (by decide) (fun _ => ?_) (fun hno => absurd hno (by decide))
    refine lv_iconst hx hb d_M_cosine_31 (v := (nI 0)) rfl ?_
    exact W.iret hx hb hr (fun t ht hW => ⟨_, rfl, rfl, by rw [ht]; exact hM, by rw [ht]; exact hO⟩) hL d_M_cosine_32
  · have q1 := zb_t q1
    refine lv_iconst hx hb d_M_cosine_8 (v := (nI 0)) rfl ?_
    refine lv_goto hx hb d_M_cosine_9 (tgt := 13) (by decide) ?_
    exfalso
    omega
set_option maxHeartbeats 4000000 in
set_option maxRecDepth 100000 in
theorem c_M_height (l : Launch) (D : va_G) (ci : Nat → ClassId) (am : Nat → Nat) (g : TS) (th fo sz : Int32) (hs mi hi tx : Nat → Int32) {mm : Nat} (hm : mm < tt_fst g 10) : Met l y_M_height (wT y_M_height b_M_height 2 (some .int)) (rP 3 70) (tb (wMD D ci am g th fo sz hs mi hi tx) [.ref (am 0), .int (nI mm)]) (qM D ci am g (nI 0) fo sz hs mi hi tx (some (.int (iZ (tt_hgt g mm))))) 0 0 (mF am) := by
  refine Met.ofW (cc := b_M_height) (maxL := 2) (ret := (some .int)) (by decide) rfl ?_
  intro p e s m args below meth c s₁ B hml hv
  obtain ⟨rfl, hK, hg, hM, hD⟩ := hv
  have hx := B.exec
  have hb := B.bytes
  have hr := B.returns
  have hts := atoms_spec (ws := wT y_M_height b_M_height 2 (some .int)) B.pre
  have hT : ∀ w ∈ TT, w ∈ wT y_M_height b_M_height 2 (some .int) := wT_T
  have hown : s.vm.findClass RM = some m.cls := findClass_of_methodNamed B.named
  have hlocks := B.notSynchronized
  have hl := lv_entry ([.ref (am 0), .int (nI mm)]) (n := 2) (Nat.le_of_ble_eq_true rfl)
  rw [lg_entry_eq]
  generalize (lg_sl ([.ref (am 0), .int (nI mm)]) ++ List.replicate (2 - (lg_sl ([.ref (am 0), .int (nI mm)])).length) Slot.unset).toArray = ls at hl ⊢
  have hl : lv_has ls 2 [(0, .ref (am 0)), (1, .int (nI mm))] := hl
  have hL : ∀ q ∈ ([] : List Loc), mF am q.base := fun q hq => nomatch hq
  have hO : mO am s.heap s.heap := mO.rf
  have hdb := tt_db_in hg.2.2.2 10 (Nat.le_refl _)
  have hf10 : tt_fst g 10 = 1440 * tt_db (tt_day g) 10 := rfl
  have ev : (nI mm).toInt = mm := nI_toInt (by omega)
  refine lv_aload_n hx hb d_M_height_0 rfl (lv_at hl 0 rfl) ?_
  refine lv_aload_n hx hb d_M_height_1 rfl (lv_at hl 0 rfl) ?_
  refine lv_iload_n hx hb d_M_height_2 rfl (lv_at hl 1 rfl) ?_
  refine tq_V ⟨hx, hb, hml, hown, hts⟩ hT (c_M_isMinute l D ci am g th fo sz hs mi hi tx (nI mm)) lk_M_73 wM_mv ⟨hK, hg, hM⟩ (wM_rc hK hM) rfl hl.1 rfl (Nat.le_of_ble_eq_true rfl) d_M_height_3 ⟨rfl, rfl, Nat.le_of_ble_eq_true rfl, Nat.le_of_ble_eq_true rfl⟩ ⟨Nat.zero_le _, Nat.zero_le _⟩ ?_
  refine lv_if_eq hx hb d_M_height_6 (tgt := 13) (by decide) (fun q1 => ?_) (fun q1 => ?_)
  · have q1 := zb_f q1
    refine lv_iconst hx hb d_M_height_13 (v := (nI 1)) rfl ?_
    exfalso
    omega
  · have q1 := zb_t q1
    refine lv_iconst hx hb d_M_height_9 (v := (nI 0)) rfl ?_
    refine lv_goto hx hb d_M_height_10 (tgt := 14) (by decide) ?_
    refine tq_put (F := mF am) hx hb hts (fun w h => hT w (uM_in w h)) tM tM_ok nM hown hK (tm_one hM 0 rfl) (ci := 1) rfl 0 (by decide) (hts _ (hT _ k_M_43)) (fun _ h => h) rfl (ty := .int) rfl rfl rfl (Nat.le_of_ble_eq_true rfl) ⟨0, by decide, rfl⟩ hL d_M_height_14 (fun H1 locs1 hP1 hz1 hq1 hL => ?_)
    have hM : tm D ci am g (nI 0) fo sz hs mi hi tx H1 := tm_set hD hM 0 (by decide) rfl hP1 (fun j hj => by rcases j with _ | _ | _ | _ | _ | _ | _ | _ | _ | _ | _ | j <;> first | rfl | exact absurd rfl hj) hq1
    have hO := hO.tr (mO.put (k := 0) (by decide) hz1 hq1)
    refine lv_aload_n hx hb d_M_height_17 rfl (lv_at hl 0 rfl) ?_
    refine va_get hx hb hts (fun w h => hT w (uM_in w h)) hown hK hM 0 rfl rfl 0 (by decide) (hts _ (hT _ k_M_43)) (fun _ h => h) rfl d_M_height_18 ?_
    refine lv_if_ne hx hb d_M_height_21 (tgt := 32) (by decide) (fun hyes => absurd (by decide) hyes) (fun _ => ?_)
    refine lv_aload_n hx hb d_M_height_24 rfl (lv_at hl 0 rfl) ?_
    refine lv_iload_n hx hb d_M_height_25 rfl (lv_at hl 1 rfl) ?_
    refine tq_V ⟨hx, hb, hml, hown, hts⟩ hT (c_M_heightAt l D ci am g (nI 0) fo sz hs mi hi tx (mm := mm) (by omega)) lk_M_109 wM_mv ⟨hK, hg, hM⟩ (wM_rc hK hM) rfl hl.1 rfl (Nat.le_of_ble_eq_true rfl) d_M_height_26 ⟨rfl, rfl, Nat.le_of_ble_eq_true rfl, Nat.le_of_ble_eq_true rfl⟩ ⟨Nat.zero_le _, Nat.zero_le _⟩ ?_
    refine lv_goto hx hb d_M_height_29 (tgt := 33) (by decide) ?_
    exact W.iret hx hb hr (fun t ht hW => ⟨_, rfl, rfl, by rw [ht]; exact hM, by rw [ht]; exact hO⟩) hL d_M_height_33
set_option maxHeartbeats 4000000 in
set_option maxRecDepth 100000 in
theorem x_M_height (l : Launch) (D : va_G) (ci : Nat → ClassId) (am : Nat → Nat) (g : TS) (th fo sz : Int32) (hs mi hi tx : Nat → Int32) (v : Int32) (hv0 : ¬ (0 ≤ v.toInt ∧ v.toInt < (tt_fst g 10 : Nat))) : Met l y_M_height (wT y_M_height b_M_height 2 (some .int)) (rP 3 70) (tb (wMD D ci am g th fo sz hs mi hi tx) [.ref (am 0), .int v]) (qM D ci am g (nI 1) fo sz hs mi hi tx (some (.int (nI 0)))) 0 0 (mF am) := by
  refine Met.ofW (cc := b_M_height) (maxL := 2) (ret := (some .int)) (by decide) rfl ?_
  intro p e s m args below meth c s₁ B hml hv
  obtain ⟨rfl, hK, hg, hM, hD⟩ := hv
  have hx := B.exec
  have hb := B.bytes
  have hr := B.returns
  have hts := atoms_spec (ws := wT y_M_height b_M_height 2 (some .int)) B.pre
  have hT : ∀ w ∈ TT, w ∈ wT y_M_height b_M_height 2 (some .int) := wT_T
  have hown : s.vm.findClass RM = some m.cls := findClass_of_methodNamed B.named
  have hlocks := B.notSynchronized
  have hl := lv_entry ([.ref (am 0), .int v]) (n := 2) (Nat.le_of_ble_eq_true rfl)
  rw [lg_entry_eq]
  generalize (lg_sl ([.ref (am 0), .int v]) ++ List.replicate (2 - (lg_sl ([.ref (am 0), .int v])).length) Slot.unset).toArray = ls at hl ⊢
  have hl : lv_has ls 2 [(0, .ref (am 0)), (1, .int v)] := hl
  have hL : ∀ q ∈ ([] : List Loc), mF am q.base := fun q hq => nomatch hq
  have hO : mO am s.heap s.heap := mO.rf
  refine lv_aload_n hx hb d_M_height_0 rfl (lv_at hl 0 rfl) ?_
  refine lv_aload_n hx hb d_M_height_1 rfl (lv_at hl 0 rfl) ?_
  refine lv_iload_n hx hb d_M_height_2 rfl (lv_at hl 1 rfl) ?_
  refine tq_V ⟨hx, hb, hml, hown, hts⟩ hT (c_M_isMinute l D ci am g th fo sz hs mi hi tx v) lk_M_73 wM_mv ⟨hK, hg, hM⟩ (wM_rc hK hM) rfl hl.1 rfl (Nat.le_of_ble_eq_true rfl) d_M_height_3 ⟨rfl, rfl, Nat.le_of_ble_eq_true rfl, Nat.le_of_ble_eq_true rfl⟩ ⟨Nat.zero_le _, Nat.zero_le _⟩ ?_
  refine lv_if_eq hx hb d_M_height_6 (tgt := 13) (by decide) (fun q1 => ?_) (fun q1 => ?_)
  · have q1 := zb_f q1
    refine lv_iconst hx hb d_M_height_13 (v := (nI 1)) rfl ?_
    refine tq_put (F := mF am) hx hb hts (fun w h => hT w (uM_in w h)) tM tM_ok nM hown hK (tm_one hM 0 rfl) (ci := 1) rfl 0 (by decide) (hts _ (hT _ k_M_43)) (fun _ h => h) rfl (ty := .int) rfl rfl rfl (Nat.le_of_ble_eq_true rfl) ⟨0, by decide, rfl⟩ hL d_M_height_14 (fun H1 locs1 hP1 hz1 hq1 hL => ?_)
    have hM : tm D ci am g (nI 1) fo sz hs mi hi tx H1 := tm_set hD hM 0 (by decide) rfl hP1 (fun j hj => by rcases j with _ | _ | _ | _ | _ | _ | _ | _ | _ | _ | _ | j <;> first | rfl | exact absurd rfl hj) hq1
    have hO := hO.tr (mO.put (k := 0) (by decide) hz1 hq1)
    refine lv_aload_n hx hb d_M_height_17 rfl (lv_at hl 0 rfl) ?_
    refine va_get hx hb hts (fun w h => hT w (uM_in w h)) hown hK hM 0 rfl rfl 0 (by decide) (hts _ (hT _ k_M_43)) (fun _ h => h) rfl d_M_height_18 ?_
    refine lv_if_ne hx hb d_M_height_21 (tgt := 32) (by decide) (fun _ => ?_) (fun hno => absurd hno (by decide))
    refine lv_iconst hx hb d_M_height_32 (v := (nI 0)) rfl ?_
    exact W.iret hx hb hr (fun t ht hW => ⟨_, rfl, rfl, by rw [ht]; exact hM, by rw [ht]; exact hO⟩) hL d_M_height_33
  · have q1 := zb_t q1
    refine lv_iconst hx hb d_M_height_9 (v := (nI 0)) rfl ?_
    refine lv_goto hx hb d_M_height_10 (tgt := 14) (by decide) ?_
    exfalso
    omega
