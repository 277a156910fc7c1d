/-! the reference's extremes. Written by wip/whole/gen.py -/
set_option maxHeartbeats 4000000 in
set_option maxRecDepth 100000 in
theorem c_M_extremes (l : Launch) (D : va_G) (ci : Nat → ClassId) (am : Nat → Nat) (g : TS) (th fo sz : Int32) (hs mi hi tx : Nat → Int32) {dd : Nat} (hd : dd < tt_db (tt_day g) 10) : Met l y_M_extremes (wT y_M_extremes b_M_extremes 2 (some .int)) (rP 4 94) (tb (wMD D ci am g th fo sz hs mi hi tx) [.ref (am 0), .int (nI dd)]) (tq_Q (fun o9 H H1 => o9 = some (.int (nI (tt_L (tt_dh g dd) 1440).length)) ∧ ∃ fo1 hs1 mi1 hi1, tm D ci am g (nI 0) fo1 sz hs1 mi1 hi1 tx H1 ∧ tt_MH (tt_dh g dd) hs1 ∧ tt_MC (tt_dh g dd) (tt_L (tt_dh g dd) 1440) fo1 mi1 hi1 ∧ mO am H H1)) 0 0 (mF am) := by
  refine Met.ofW (cc := b_M_extremes) (maxL := 2) (ret := (some .int)) (by decide) rfl ?_
  intro p e s m args below meth c s₁ B hml hv
  obtain ⟨rfl, hK, hg, hM, hD⟩ := hv
  have hx := B.exec
  have hb := B.bytes
  have hr := B.returns
  have hts := atoms_spec (ws := wT y_M_extremes b_M_extremes 2 (some .int)) B.pre
  have hT : ∀ w ∈ TT, w ∈ wT y_M_extremes b_M_extremes 2 (some .int) := wT_T
  have hown : s.vm.findClass RM = some m.cls := findClass_of_methodNamed B.named
  have hlocks := B.notSynchronized
  have hl := lv_entry ([.ref (am 0), .int (nI dd)]) (n := 2) (Nat.le_of_ble_eq_true rfl)
  rw [lg_entry_eq]
  generalize (lg_sl ([.ref (am 0), .int (nI dd)]) ++ List.replicate (2 - (lg_sl ([.ref (am 0), .int (nI dd)])).length) Slot.unset).toArray = ls at hl ⊢
  have hl : lv_has ls 2 [(0, .ref (am 0)), (1, .int (nI dd))] := hl
  have hL : ∀ q ∈ ([] : List Loc), mF am q.base := fun q hq => nomatch hq
  have hO : mO am s.heap s.heap := mO.rf
  have hdb := (tt_db_in hg.2.2.2 10 (Nat.le_refl _)).2
  have ed : (nI dd).toInt = dd := nI_toInt (by omega)
  have hlen := tt_L1440 (tt_dh g dd)
  refine lv_aload_n hx hb d_M_extremes_0 rfl (lv_at hl 0 rfl) ?_
  refine lv_aload_n hx hb d_M_extremes_1 rfl (lv_at hl 0 rfl) ?_
  refine lv_iload_n hx hb d_M_extremes_2 rfl (lv_at hl 1 rfl) ?_
  refine tq_V ⟨hx, hb, hml, hown, hts⟩ hT (c_M_isDay l D ci am g th fo sz hs mi hi tx (nI dd)) lk_M_115 wM_mv ⟨hK, hg, hM⟩ (wM_rc hK hM) rfl hl.1 rfl (Nat.le_of_ble_eq_true rfl) d_M_extremes_3 ⟨rfl, rfl, Nat.le_of_ble_eq_true rfl, Nat.le_of_ble_eq_true rfl⟩ ⟨Nat.zero_le _, Nat.zero_le _⟩ ?_
  refine lv_if_eq hx hb d_M_extremes_6 (tgt := 13) (by decide) (fun q1 => ?_) (fun q1 => ?_)
  · have q1 := zb_f q1
    refine lv_iconst hx hb d_M_extremes_13 (v := (nI 1)) rfl ?_
    exfalso
    omega
  · have q1 := zb_t q1
    refine lv_iconst hx hb d_M_extremes_9 (v := (nI 0)) rfl ?_
    refine lv_goto hx hb d_M_extremes_10 (tgt := 14) (by decide) ?_
    refine tq_put (F := mF am) hx hb hts (fun w h => hT w (uM_in w h)) tM tM_ok nM hown hK (tm_one hM 0 rfl) (ci := 1) rfl 0 (by decide) (hts _ (hT _ k_M_43)) (fun _ h => h) rfl (ty := .int) rfl rfl rfl (Nat.le_of_ble_eq_true rfl) ⟨0, by decide, rfl⟩ hL d_M_extremes_14 (fun H1 locs1 hP1 hz1 hq1 hL => ?_)
    have hM : tm D ci am g (nI 0) fo sz hs mi hi tx H1 := tm_set hD hM 0 (by decide) rfl hP1 (fun j hj => by rcases j with _ | _ | _ | _ | _ | _ | _ | _ | _ | _ | _ | j <;> first | rfl | exact absurd rfl hj) hq1
    have hO := hO.tr (mO.put (k := 0) (by decide) hz1 hq1)
    refine lv_aload_n hx hb d_M_extremes_17 rfl (lv_at hl 0 rfl) ?_
    refine va_get hx hb hts (fun w h => hT w (uM_in w h)) hown hK hM 0 rfl rfl 0 (by decide) (hts _ (hT _ k_M_43)) (fun _ h => h) rfl d_M_extremes_18 ?_
    refine lv_if_eq hx hb d_M_extremes_21 (tgt := 26) (by decide) (fun _ => ?_) (fun hno => absurd (by decide) hno)
    refine lv_aload_n hx hb d_M_extremes_26 rfl (lv_at hl 0 rfl) ?_
    refine lv_iload_n hx hb d_M_extremes_27 rfl (lv_at hl 1 rfl) ?_
    refine tq_VW ⟨hx, hb, hml, hown, hts⟩ hT (c_M_look l D ci am g (nI 0) fo sz hs mi hi tx (dd := dd) (by omega)) lk_M_118 wMD_mv ⟨hK, hg, hM, hD⟩ (wM_rc hK hM) rfl hl.1 rfl (Nat.le_of_ble_eq_true rfl) d_M_extremes_28 ⟨rfl, rfl, Nat.le_of_ble_eq_true rfl, Nat.le_of_ble_eq_true rfl⟩ ⟨Nat.zero_le _, Nat.zero_le _⟩ hL (fun v9 H1 locs1 hF9 hL => ?_)
    obtain ⟨rfl, fo1, hs1, mi1, hi1, hM, hH, hC, hO9⟩ := hF9
    have hO := hO.tr hO9
    obtain rfl := hC.1
    refine lv_aload_n hx hb d_M_extremes_31 rfl (lv_at hl 0 rfl) ?_
    refine va_get hx hb hts (fun w h => hT w (uM_in w h)) hown hK hM 0 rfl rfl 9 (by decide) (hts _ (hT _ k_M_112)) (fun _ h => h) rfl d_M_extremes_32 ?_
    exact W.iret hx hb hr (fun t ht hW => ⟨_, rfl, rfl, _, hs1, mi1, hi1, by rw [ht]; exact hM, hH, hC, by rw [ht]; exact hO⟩) hL d_M_extremes_35
set_option maxHeartbeats 4000000 in
set_option maxRecDepth 100000 in
theorem x_M_extremes (l : Launch) (D : va_G) (ci : Nat → ClassId) (am : Nat → Nat) (g : TS) (th fo sz : Int32) (hs mi hi tx : Nat → Int32) (u : Int32) (hv0 : ¬ (0 ≤ u.toInt ∧ u.toInt < (tt_db (tt_day g) 10 : Nat))) : Met l y_M_extremes (wT y_M_extremes b_M_extremes 2 (some .int)) (rP 4 94) (tb (wMD D ci am g th fo sz hs mi hi tx) [.ref (am 0), .int u]) (qM D ci am g (nI 1) fo sz hs mi hi tx (some (.int (nI 0)))) 0 0 (mF am) := by
  refine Met.ofW (cc := b_M_extremes) (maxL := 2) (ret := (some .int)) (by decide) rfl ?_
  intro p e s m args below meth c s₁ B hml hv
  obtain ⟨rfl, hK, hg, hM, hD⟩ := hv
  have hx := B.exec
  have hb := B.bytes
  have hr := B.returns
  have hts := atoms_spec (ws := wT y_M_extremes b_M_extremes 2 (some .int)) B.pre
  have hT : ∀ w ∈ TT, w ∈ wT y_M_extremes b_M_extremes 2 (some .int) := wT_T
  have hown : s.vm.findClass RM = some m.cls := findClass_of_methodNamed B.named
  have hlocks := B.notSynchronized
  have hl := lv_entry ([.ref (am 0), .int u]) (n := 2) (Nat.le_of_ble_eq_true rfl)
  rw [lg_entry_eq]
  generalize (lg_sl ([.ref (am 0), .int u]) ++ List.replicate (2 - (lg_sl ([.ref (am 0), .int u])).length) Slot.unset).toArray = ls at hl ⊢
  have hl : lv_has ls 2 [(0, .ref (am 0)), (1, .int u)] := hl
  have hL : ∀ q ∈ ([] : List Loc), mF am q.base := fun q hq => nomatch hq
  have hO : mO am s.heap s.heap := mO.rf
  refine lv_aload_n hx hb d_M_extremes_0 rfl (lv_at hl 0 rfl) ?_
  refine lv_aload_n hx hb d_M_extremes_1 rfl (lv_at hl 0 rfl) ?_
  refine lv_iload_n hx hb d_M_extremes_2 rfl (lv_at hl 1 rfl) ?_
  refine tq_V ⟨hx, hb, hml, hown, hts⟩ hT (c_M_isDay l D ci am g th fo sz hs mi hi tx u) lk_M_115 wM_mv ⟨hK, hg, hM⟩ (wM_rc hK hM) rfl hl.1 rfl (Nat.le_of_ble_eq_true rfl) d_M_extremes_3 ⟨rfl, rfl, Nat.le_of_ble_eq_true rfl, Nat.le_of_ble_eq_true rfl⟩ ⟨Nat.zero_le _, Nat.zero_le _⟩ ?_
  refine lv_if_eq hx hb d_M_extremes_6 (tgt := 13) (by decide) (fun q1 => ?_) (fun q1 => ?_)
  · have q1 := zb_f q1
    refine lv_iconst hx hb d_M_extremes_13 (v := (nI 1)) rfl ?_
    refine tq_put (F := mF am) hx hb hts (fun w h => hT w (uM_in w h)) tM tM_ok nM hown hK (tm_one hM 0 rfl) (ci := 1) rfl 0 (by decide) (hts _ (hT _ k_M_43)) (fun _ h => h) rfl (ty := .int) rfl rfl rfl (Nat.le_of_ble_eq_true rfl) ⟨0, by decide, rfl⟩ hL d_M_extremes_14 (fun H1 locs1 hP1 hz1 hq1 hL => ?_)
    have hM : tm D ci am g (nI 1) fo sz hs mi hi tx H1 := tm_set hD hM 0 (by decide) rfl hP1 (fun j hj => by rcases j with _ | _ | _ | _ | _ | _ | _ | _ | _ | _ | _ | j <;> first | rfl | exact absurd rfl hj) hq1
    have hO := hO.tr (mO.put (k := 0) (by decide) hz1 hq1)
    refine lv_aload_n hx hb d_M_extremes_17 rfl (lv_at hl 0 rfl) ?_
    refine va_get hx hb hts (fun w h => hT w (uM_in w h)) hown hK hM 0 rfl rfl 0 (by decide) (hts _ (hT _ k_M_43)) (fun _ h => h) rfl d_M_extremes_18 ?_
    refine lv_if_eq hx hb d_M_extremes_21 (tgt := 26) (by decide) (fun hyes => absurd hyes (by decide)) (fun _ => ?_)
    refine lv_iconst hx hb d_M_extremes_24 (v := (nI 0)) rfl ?_
    exact W.iret hx hb hr (fun t ht hW => ⟨_, rfl, rfl, by rw [ht]; exact hM, by rw [ht]; exact hO⟩) hL d_M_extremes_25
  · have q1 := zb_t q1
    refine lv_iconst hx hb d_M_extremes_9 (v := (nI 0)) rfl ?_
    refine lv_goto hx hb d_M_extremes_10 (tgt := 14) (by decide) ?_
    exfalso
    omega
set_option maxHeartbeats 4000000 in
set_option maxRecDepth 100000 in
theorem c_M_isExtreme (l : Launch) (D : va_G) (ci : Nat → ClassId) (am : Nat → Nat) (g : TS) (th fo sz : Int32) (hs mi hi tx : Nat → Int32) {dd : Nat} (hd : dd < tt_db (tt_day g) 10) (v : Int32) : Met l y_M_isExtreme (wT y_M_isExtreme b_M_isExtreme 3 (some .boolean)) (rP 4 94) (tb (wMD D ci am g th fo sz hs mi hi tx) [.ref (am 0), .int (nI dd), .int v]) (tq_Q (fun o9 H H1 => o9 = some (.int (zb (0 ≤ v.toInt ∧ v.toInt < ((tt_L (tt_dh g dd) 1440).length : Nat)))) ∧ ∃ fo1 hs1 mi1 hi1, tm D ci am g th fo1 sz hs1 mi1 hi1 tx H1 ∧ tt_MH (tt_dh g dd) hs1 ∧ tt_MC (tt_dh g dd) (tt_L (tt_dh g dd) 1440) fo1 mi1 hi1 ∧ mO am H H1)) 0 0 (mF am) := by
  refine Met.ofW (cc := b_M_isExtreme) (maxL := 3) (ret := (some .boolean)) (by decide) rfl ?_
  intro p e s m args below meth c s₁ B hml hv
  obtain ⟨rfl, hK, hg, hM, hD⟩ := hv
  have hx := B.exec
  have hb := B.bytes
  have hr := B.returns
  have hts := atoms_spec (ws := wT y_M_isExtreme b_M_isExtreme 3 (some .boolean)) B.pre
  have hT : ∀ w ∈ TT, w ∈ wT y_M_isExtreme b_M_isExtreme 3 (some .boolean) := wT_T
  have hown : s.vm.findClass RM = some m.cls := findClass_of_methodNamed B.named
  have hlocks := B.notSynchronized
  have hl := lv_entry ([.ref (am 0), .int (nI dd), .int v]) (n := 3) (Nat.le_of_ble_eq_true rfl)
  rw [lg_entry_eq]
  generalize (lg_sl ([.ref (am 0), .int (nI dd), .int v]) ++ List.replicate (3 - (lg_sl ([.ref (am 0), .int (nI dd), .int v])).length) Slot.unset).toArray = ls at hl ⊢
  have hl : lv_has ls 3 [(0, .ref (am 0)), (1, .int (nI dd)), (2, .int v)] := hl
  have hL : ∀ q ∈ ([] : List Loc), mF am q.base := fun q hq => nomatch hq
  have hO : mO am s.heap s.heap := mO.rf
  have hdb := (tt_db_in hg.2.2.2 10 (Nat.le_refl _)).2
  have ed : (nI dd).toInt = dd := nI_toInt (by omega)
  have hlen := tt_L1440 (tt_dh g dd)
  refine lv_aload_n hx hb d_M_isExtreme_0 rfl (lv_at hl 0 rfl) ?_
  refine lv_iload_n hx hb d_M_isExtreme_1 rfl (lv_at hl 1 rfl) ?_
  refine tq_V ⟨hx, hb, hml, hown, hts⟩ hT (c_M_isDay l D ci am g th fo sz hs mi hi tx (nI dd)) lk_M_115 wM_mv ⟨hK, hg, hM⟩ (wM_rc hK hM) rfl hl.1 rfl (Nat.le_of_ble_eq_true rfl) d_M_isExtreme_2 ⟨rfl, rfl, Nat.le_of_ble_eq_true rfl, Nat.le_of_ble_eq_true rfl⟩ ⟨Nat.zero_le _, Nat.zero_le _⟩ ?_
  refine lv_if_ne hx hb d_M_isExtreme_5 (tgt := 10) (by decide) (fun q1 => ?_) (fun q1 => ?_)
  · have q1 := zb_t q1
    refine lv_aload_n hx hb d_M_isExtreme_10 rfl (lv_at hl 0 rfl) ?_
    refine lv_iload_n hx hb d_M_isExtreme_11 rfl (lv_at hl 1 rfl) ?_
    refine tq_VW ⟨hx, hb, hml, hown, hts⟩ hT (c_M_look l D ci am g th fo sz hs mi hi tx (dd := dd) (by omega)) lk_M_118 wMD_mv ⟨hK, hg, hM, hD⟩ (wM_rc hK hM) rfl hl.1 rfl (Nat.le_of_ble_eq_true rfl) d_M_isExtreme_12 ⟨rfl, rfl, Nat.le_of_ble_eq_true rfl, Nat.le_of_ble_eq_true rfl⟩ ⟨Nat.zero_le _, Nat.zero_le _⟩ hL (fun v9 H1 locs1 hF9 hL => ?_)
    obtain ⟨rfl, fo1, hs1, mi1, hi1, hM, hH, hC, hO9⟩ := hF9
    have hO := hO.tr hO9
    obtain rfl := hC.1
    refine lv_iload_n hx hb d_M_isExtreme_15 rfl (lv_at hl 2 rfl) ?_
    refine lv_if_lt hx hb d_M_isExtreme_16 (tgt := 31) (by decide) (fun q2 => ?_) (fun q2 => ?_)
    · have q2 := iv_lt0.mp q2
      refine lv_iconst hx hb d_M_isExtreme_31 (v := (nI 0)) rfl ?_
      exact W.zret hx hb hr narrow_b0 (fun t ht hW => ⟨_, rfl, zb_0 (by omega), _, hs1, mi1, hi1, by rw [ht]; exact hM, hH, hC, by rw [ht]; exact hO⟩) hL d_M_isExtreme_32
    · have q2 := mt iv_lt0.mpr q2
      refine lv_iload_n hx hb d_M_isExtreme_19 rfl (lv_at hl 2 rfl) ?_
      refine lv_aload_n hx hb d_M_isExtreme_20 rfl (lv_at hl 0 rfl) ?_
      refine va_get hx hb hts (fun w h => hT w (uM_in w h)) hown hK hM 0 rfl rfl 9 (by decide) (hts _ (hT _ k_M_112)) (fun _ h => h) rfl d_M_isExtreme_21 ?_
      refine lv_icmp_ge hx hb d_M_isExtreme_24 (tgt := 31) (by decide) (fun q3 => ?_) (fun q3 => ?_)
      · have q3 := Int32.le_iff_toInt_le.mp q3
        rw [nI_toInt (n := (tt_L (tt_dh g dd) 1440).length) (by omega)] at q3
        refine lv_iconst hx hb d_M_isExtreme_31 (v := (nI 0)) rfl ?_
        exact W.zret hx hb hr narrow_b0 (fun t ht hW => ⟨_, rfl, zb_0 (by omega), _, hs1, mi1, hi1, by rw [ht]; exact hM, hH, hC, by rw [ht]; exact hO⟩) hL d_M_isExtreme_32
      · have q3 := mt Int32.le_iff_toInt_le.mpr q3
        rw [nI_toInt (n := (tt_L (tt_dh g dd) 1440).length) (by omega)] at q3
        refine lv_iconst hx hb d_M_isExtreme_27 (v := (nI 1)) rfl ?_
        refine lv_goto hx hb d_M_isExtreme_28 (tgt := 32) (by decide) ?_
        exact W.zret hx hb hr narrow_b1 (fun t ht hW => ⟨_, rfl, zb_1 (by omega), _, hs1, mi1, hi1, by rw [ht]; exact hM, hH, hC, by rw [ht]; exact hO⟩) hL d_M_isExtreme_32
  · have q1 := zb_f q1
    exfalso
    omega
set_option maxHeartbeats 4000000 in
set_option maxRecDepth 100000 in
theorem c_M_isExtreme0 (l : Launch) (D : va_G) (ci : Nat → ClassId) (am : Nat → Nat) (g : TS) (th fo sz : Int32) (hs mi hi tx : Nat → Int32) (u : Int32) (hv0 : ¬ (0 ≤ u.toInt ∧ u.toInt < (tt_db (tt_day g) 10 : Nat))) (v : Int32) : Met l y_M_isExtreme (wT y_M_isExtreme b_M_isExtreme 3 (some .boolean)) (rP 4 94) (tb (wMD D ci am g th fo sz hs mi hi tx) [.ref (am 0), .int u, .int v]) (qM D ci am g th fo sz hs mi hi tx (some (.int 0))) 0 0 (mF am) := by
  refine Met.ofW (cc := b_M_isExtreme) (maxL := 3) (ret := (some .boolean)) (by decide) rfl ?_
  intro p e s m args below meth c s₁ B hml hv
  obtain ⟨rfl, hK, hg, hM, hD⟩ := hv
  have hx := B.exec
  have hb := B.bytes
  have hr := B.returns
  have hts := atoms_spec (ws := wT y_M_isExtreme b_M_isExtreme 3 (some .boolean)) B.pre
  have hT : ∀ w ∈ TT, w ∈ wT y_M_isExtreme b_M_isExtreme 3 (some .boolean) := wT_T
  have hown : s.vm.findClass RM = some m.cls := findClass_of_methodNamed B.named
  have hlocks := B.notSynchronized
  have hl := lv_entry ([.ref (am 0), .int u, .int v]) (n := 3) (Nat.le_of_ble_eq_true rfl)
  rw [lg_entry_eq]
  generalize (lg_sl ([.ref (am 0), .int u, .int v]) ++ List.replicate (3 - (lg_sl ([.ref (am 0), .int u, .int v])).length) Slot.unset).toArray = ls at hl ⊢
  have hl : lv_has ls 3 [(0, .ref (am 0)), (1, .int u), (2, .int v)] := hl
  have hL : ∀ q ∈ ([] : List Loc), mF am q.base := fun q hq => nomatch hq
  have hO : mO am s.heap s.heap := mO.rf
  refine lv_aload_n hx hb d_M_isExtreme_0 rfl (lv_at hl 0 rfl) ?_
  refine lv_iload_n hx hb d_M_isExtreme_1 rfl (lv_at hl 1 rfl) ?_
  refine tq_V ⟨hx, hb, hml, hown, hts⟩ hT (c_M_isDay l D ci am g th fo sz hs mi hi tx u) lk_M_115 wM_mv ⟨hK, hg, hM⟩ (wM_rc hK hM) rfl hl.1 rfl (Nat.le_of_ble_eq_true rfl) d_M_isExtreme_2 ⟨rfl, rfl, Nat.le_of_ble_eq_true rfl, Nat.le_of_ble_eq_true rfl⟩ ⟨Nat.zero_le _, Nat.zero_le _⟩ ?_
  refine lv_if_ne hx hb d_M_isExtreme_5 (tgt := 10) (by decide) (fun q1 => ?_) (fun q1 => ?_)
  · have q1 := zb_t q1
    exfalso
    omega
  · have q1 := zb_f q1
    refine lv_iconst hx hb d_M_isExtreme_8 (v := (nI 0)) rfl ?_
    exact W.zret hx hb hr narrow_b0 (fun t ht hW => ⟨_, rfl, rfl, by rw [ht]; exact hM, by rw [ht]; exact hO⟩) hL d_M_isExtreme_9
set_option maxHeartbeats 4000000 in
set_option maxRecDepth 100000 in
theorem c_M_extreme0 (l : Launch) (D : va_G) (ci : Nat → ClassId) (am : Nat → Nat) (g : TS) (th fo sz : Int32) (hs mi hi tx : Nat → Int32) {dd k : Nat} (hd : dd < tt_db (tt_day g) 10) (hk : k < (tt_L (tt_dh g dd) 1440).length) : Met l y_M_extreme (wT y_M_extreme b_M_extreme 4 (some .int)) (rP 5 116) (tb (wMD D ci am g th fo sz hs mi hi tx) [.ref (am 0), .int (nI dd), .int (nI k), .int (nI 0)]) (tq_Q (fun o9 H H1 => o9 = some (.int (nI (1440 * dd + (tt_L (tt_dh g dd) 1440).getD k 0))) ∧ ∃ fo1 hs1 mi1 hi1, tm D ci am g (nI 0) fo1 sz hs1 mi1 hi1 tx H1 ∧ tt_MH (tt_dh g dd) hs1 ∧ tt_MC (tt_dh g dd) (tt_L (tt_dh g dd) 1440) fo1 mi1 hi1 ∧ mO am H H1)) 0 0 (mF am) := by
  refine Met.ofW (cc := b_M_extreme) (maxL := 4) (ret := (some .int)) (by decide) rfl ?_
  intro p e s m args below meth c s₁ B hml hv
  obtain ⟨rfl, hK, hg, hM, hD⟩ := hv
  have hx := B.exec
  have hb := B.bytes
  have hr := B.returns
  have hts := atoms_spec (ws := wT y_M_extreme b_M_extreme 4 (some .int)) B.pre
  have hT : ∀ w ∈ TT, w ∈ wT y_M_extreme b_M_extreme 4 (some .int) := wT_T
  have hown : s.vm.findClass RM = some m.cls := findClass_of_methodNamed B.named
  have hlocks := B.notSynchronized
  have hl := lv_entry ([.ref (am 0), .int (nI dd), .int (nI k), .int (nI 0)]) (n := 4) (Nat.le_of_ble_eq_true rfl)
  rw [lg_entry_eq]
  generalize (lg_sl ([.ref (am 0), .int (nI dd), .int (nI k), .int (nI 0)]) ++ List.replicate (4 - (lg_sl ([.ref (am 0), .int (nI dd), .int (nI k), .int (nI 0)])).length) Slot.unset).toArray = ls at hl ⊢
  have hl : lv_has ls 4 [(0, .ref (am 0)), (1, .int (nI dd)), (2, .int (nI k)), (3, .int (nI 0))] := hl
  have hL : ∀ q ∈ ([] : List Loc), mF am q.base := fun q hq => nomatch hq
  have hO : mO am s.heap s.heap := mO.rf
  have hdb := (tt_db_in hg.2.2.2 10 (Nat.le_refl _)).2
  have ed : (nI dd).toInt = dd := nI_toInt (by omega)
  have hlen := tt_L1440 (tt_dh g dd)
  have hLk := tt_L_get hk
  have hTk := tt_T_kind hLk.2
  have ek : (nI k).toInt = k := nI_toInt (by omega)
  have eV : tt_dh g dd (((tt_L (tt_dh g dd) 1440).getD k 0) - 1) = tt_hgt g ((1440 * dd + (tt_L (tt_dh g dd) 1440).getD k 0) - 1) := by show tt_hgt g (1440 * dd + (((tt_L (tt_dh g dd) 1440).getD k 0) - 1)) = _; congr 1; omega
  refine lv_aload_n hx hb d_M_extreme_0 rfl (lv_at hl 0 rfl) ?_
  refine lv_aload_n hx hb d_M_extreme_1 rfl (lv_at hl 0 rfl) ?_
  refine lv_iload_n hx hb d_M_extreme_2 rfl (lv_at hl 1 rfl) ?_
  refine lv_iload_n hx hb d_M_extreme_3 rfl (lv_at hl 2 rfl) ?_
  refine tq_VW ⟨hx, hb, hml, hown, hts⟩ hT (c_M_isExtreme l D ci am g th fo sz hs mi hi tx hd (nI k)) lk_M_122 wMD_mv ⟨hK, hg, hM, hD⟩ (wM_rc hK hM) rfl hl.1 rfl (Nat.le_of_ble_eq_true rfl) d_M_extreme_4 ⟨rfl, rfl, Nat.le_of_ble_eq_true rfl, Nat.le_of_ble_eq_true rfl⟩ ⟨Nat.zero_le _, Nat.zero_le _⟩ hL (fun v9 H1 locs1 hF9 hL => ?_)
  obtain ⟨rfl, fo1, hs1, mi1, hi1, hM, hH, hC, hO9⟩ := hF9
  have hO := hO.tr hO9
  obtain rfl := hC.1
  refine lv_if_ne hx hb d_M_extreme_7 (tgt := 14) (by decide) (fun _ => ?_) (fun hno => absurd hno (fun z => zb_f z (by omega)))
  refine lv_iload_n hx hb d_M_extreme_14 rfl (lv_at hl 3 rfl) ?_
  refine lv_if_lt hx hb d_M_extreme_15 (tgt := 23) (by decide) (fun hyes => absurd hyes (by decide)) (fun _ => ?_)
  refine lv_iload_n hx hb d_M_extreme_18 rfl (lv_at hl 3 rfl) ?_
  refine lv_iconst hx hb d_M_extreme_19 (v := (nI 2)) rfl ?_
  refine lv_icmp_le hx hb d_M_extreme_20 (tgt := 27) (by decide) (fun _ => ?_) (fun hno => absurd (by decide) hno)
  refine lv_iconst hx hb d_M_extreme_27 (v := (nI 0)) rfl ?_
  refine tq_put (F := mF am) hx hb hts (fun w h => hT w (uM_in w h)) tM tM_ok nM hown hK (tm_one hM 0 rfl) (ci := 1) rfl 0 (by decide) (hts _ (hT _ k_M_43)) (fun _ h => h) rfl (ty := .int) rfl rfl rfl (Nat.le_of_ble_eq_true rfl) ⟨0, by decide, rfl⟩ hL d_M_extreme_28 (fun H1 locs1 hP1 hz1 hq1 hL => ?_)
  have hM : tm D ci am g (nI 0) (nI (tt_L (tt_dh g dd) 1440).length) sz hs1 mi1 hi1 tx H1 := tm_set hD hM 0 (by decide) rfl hP1 (fun j hj => by rcases j with _ | _ | _ | _ | _ | _ | _ | _ | _ | _ | _ | j <;> first | rfl | exact absurd rfl hj) hq1
  have hO := hO.tr (mO.put (k := 0) (by decide) hz1 hq1)
  refine lv_aload_n hx hb d_M_extreme_31 rfl (lv_at hl 0 rfl) ?_
  refine va_get hx hb hts (fun w h => hT w (uM_in w h)) hown hK hM 0 rfl rfl 0 (by decide) (hts _ (hT _ k_M_43)) (fun _ h => h) rfl d_M_extreme_32 ?_
  refine lv_if_eq hx hb d_M_extreme_35 (tgt := 40) (by decide) (fun _ => ?_) (fun hno => absurd (by decide) hno)
  refine lv_iload_n hx hb d_M_extreme_40 rfl (lv_at hl 3 rfl) ?_
  refine lv_if_ne hx hb d_M_extreme_41 (tgt := 59) (by decide) (fun hyes => absurd rfl hyes) (fun _ => ?_)
  refine lv_sipush hx hb d_M_extreme_44 (v := (nI 1440)) rfl ?_
  refine lv_iload_n hx hb d_M_extreme_47 rfl (lv_at hl 1 rfl) ?_
  refine lv_imul hx hb d_M_extreme_48 ?_
  refine tq_ti (show _ = (nI (1440 * dd)) from pk_mul _ _) ?_
  refine lv_aload_n hx hb d_M_extreme_49 rfl (lv_at hl 0 rfl) ?_
  refine va_get hx hb hts (fun w h => hT w (uM_in w h)) hown hK hM 0 rfl rfl 10 (by decide) (hts _ (hT _ k_M_32)) (fun _ h => h) rfl d_M_extreme_50 ?_
  refine lv_iload_n hx hb d_M_extreme_53 rfl (lv_at hl 2 rfl) ?_
  refine tq_iald hx hb hK hM 8 0 rfl rfl (show k < 1440 by omega) (by decide) d_M_extreme_54 ?_
  refine tq_ti (show _ = (nI ((tt_L (tt_dh g dd) 1440).getD k 0)) from (hC.2 k hk).1) ?_
  refine lv_iadd hx hb d_M_extreme_55 ?_
  refine tq_ti (show _ = (nI (1440 * dd + (tt_L (tt_dh g dd) 1440).getD k 0)) from nI_add _ _) ?_
  refine lv_goto hx hb d_M_extreme_56 (tgt := 92) (by decide) ?_
  exact W.iret hx hb hr (fun t ht hW => ⟨_, rfl, rfl, _, hs1, mi1, hi1, by rw [ht]; exact hM, hH, hC, by rw [ht]; exact hO⟩) hL d_M_extreme_92
set_option maxHeartbeats 4000000 in
set_option maxRecDepth 100000 in
theorem c_M_extreme1 (l : Launch) (D : va_G) (ci : Nat → ClassId) (am : Nat → Nat) (g : TS) (th fo sz : Int32) (hs mi hi tx : Nat → Int32) {dd k : Nat} (hd : dd < tt_db (tt_day g) 10) (hk : k < (tt_L (tt_dh g dd) 1440).length) : Met l y_M_extreme (wT y_M_extreme b_M_extreme 4 (some .int)) (rP 5 116) (tb (wMD D ci am g th fo sz hs mi hi tx) [.ref (am 0), .int (nI dd), .int (nI k), .int (nI 1)]) (tq_Q (fun o9 H H1 => o9 = some (.int (iZ (tt_hgt g (1440 * dd + (tt_L (tt_dh g dd) 1440).getD k 0)))) ∧ ∃ fo1 hs1 mi1 hi1, tm D ci am g (nI 0) fo1 sz hs1 mi1 hi1 tx H1 ∧ tt_MH (tt_dh g dd) hs1 ∧ tt_MC (tt_dh g dd) (tt_L (tt_dh g dd) 1440) fo1 mi1 hi1 ∧ mO am H H1)) 0 0 (mF am) := by
  refine Met.ofW (cc := b_M_extreme) (maxL := 4) (ret := (some .int)) (by decide) rfl ?_
  intro p e s m args below meth c s₁ B hml hv
  obtain ⟨rfl, hK, hg, hM, hD⟩ := hv
  have hx := B.exec
  have hb := B.bytes
  have hr := B.returns
  have hts := atoms_spec (ws := wT y_M_extreme b_M_extreme 4 (some .int)) B.pre
  have hT : ∀ w ∈ TT, w ∈ wT y_M_extreme b_M_extreme 4 (some .int) := wT_T
  have hown : s.vm.findClass RM = some m.cls := findClass_of_methodNamed B.named
  have hlocks := B.notSynchronized
  have hl := lv_entry ([.ref (am 0), .int (nI dd), .int (nI k), .int (nI 1)]) (n := 4) (Nat.le_of_ble_eq_true rfl)
  rw [lg_entry_eq]
  generalize (lg_sl ([.ref (am 0), .int (nI dd), .int (nI k), .int (nI 1)]) ++ List.replicate (4 - (lg_sl ([.ref (am 0), .int (nI dd), .int (nI k), .int (nI 1)])).length) Slot.unset).toArray = ls at hl ⊢
  have hl : lv_has ls 4 [(0, .ref (am 0)), (1, .int (nI dd)), (2, .int (nI k)), (3, .int (nI 1))] := hl
  have hL : ∀ q ∈ ([] : List Loc), mF am q.base := fun q hq => nomatch hq
  have hO : mO am s.heap s.heap := mO.rf
  have hdb := (tt_db_in hg.2.2.2 10 (Nat.le_refl _)).2
  have ed : (nI dd).toInt = dd := nI_toInt (by omega)
  have hlen := tt_L1440 (tt_dh g dd)
  have hLk := tt_L_get hk
  have hTk := tt_T_kind hLk.2
  have ek : (nI k).toInt = k := nI_toInt (by omega)
  have eV : tt_dh g dd (((tt_L (tt_dh g dd) 1440).getD k 0) - 1) = tt_hgt g ((1440 * dd + (tt_L (tt_dh g dd) 1440).getD k 0) - 1) := by show tt_hgt g (1440 * dd + (((tt_L (tt_dh g dd) 1440).getD k 0) - 1)) = _; congr 1; omega
  refine lv_aload_n hx hb d_M_extreme_0 rfl (lv_at hl 0 rfl) ?_
  refine lv_aload_n hx hb d_M_extreme_1 rfl (lv_at hl 0 rfl) ?_
  refine lv_iload_n hx hb d_M_extreme_2 rfl (lv_at hl 1 rfl) ?_
  refine lv_iload_n hx hb d_M_extreme_3 rfl (lv_at hl 2 rfl) ?_
  refine tq_VW ⟨hx, hb, hml, hown, hts⟩ hT (c_M_isExtreme l D ci am g th fo sz hs mi hi tx hd (nI k)) lk_M_122 wMD_mv ⟨hK, hg, hM, hD⟩ (wM_rc hK hM) rfl hl.1 rfl (Nat.le_of_ble_eq_true rfl) d_M_extreme_4 ⟨rfl, rfl, Nat.le_of_ble_eq_true rfl, Nat.le_of_ble_eq_true rfl⟩ ⟨Nat.zero_le _, Nat.zero_le _⟩ hL (fun v9 H1 locs1 hF9 hL => ?_)
  obtain ⟨rfl, fo1, hs1, mi1, hi1, hM, hH, hC, hO9⟩ := hF9
  have hO := hO.tr hO9
  obtain rfl := hC.1
  refine lv_if_ne hx hb d_M_extreme_7 (tgt := 14) (by decide) (fun _ => ?_) (fun hno => absurd hno (fun z => zb_f z (by omega)))
  refine lv_iload_n hx hb d_M_extreme_14 rfl (lv_at hl 3 rfl) ?_
  refine lv_if_lt hx hb d_M_extreme_15 (tgt := 23) (by decide) (fun hyes => absurd hyes (by decide)) (fun _ => ?_)
  refine lv_iload_n hx hb d_M_extreme_18 rfl (lv_at hl 3 rfl) ?_
  refine lv_iconst hx hb d_M_extreme_19 (v := (nI 2)) rfl ?_
  refine lv_icmp_le hx hb d_M_extreme_20 (tgt := 27) (by decide) (fun _ => ?_) (fun hno => absurd (by decide) hno)
  refine lv_iconst hx hb d_M_extreme_27 (v := (nI 0)) rfl ?_
  refine tq_put (F := mF am) hx hb hts (fun w h => hT w (uM_in w h)) tM tM_ok nM hown hK (tm_one hM 0 rfl) (ci := 1) rfl 0 (by decide) (hts _ (hT _ k_M_43)) (fun _ h => h) rfl (ty := .int) rfl rfl rfl (Nat.le_of_ble_eq_true rfl) ⟨0, by decide, rfl⟩ hL d_M_extreme_28 (fun H1 locs1 hP1 hz1 hq1 hL => ?_)
  have hM : tm D ci am g (nI 0) (nI (tt_L (tt_dh g dd) 1440).length) sz hs1 mi1 hi1 tx H1 := tm_set hD hM 0 (by decide) rfl hP1 (fun j hj => by rcases j with _ | _ | _ | _ | _ | _ | _ | _ | _ | _ | _ | j <;> first | rfl | exact absurd rfl hj) hq1
  have hO := hO.tr (mO.put (k := 0) (by decide) hz1 hq1)
  refine lv_aload_n hx hb d_M_extreme_31 rfl (lv_at hl 0 rfl) ?_
  refine va_get hx hb hts (fun w h => hT w (uM_in w h)) hown hK hM 0 rfl rfl 0 (by decide) (hts _ (hT _ k_M_43)) (fun _ h => h) rfl d_M_extreme_32 ?_
  refine lv_if_eq hx hb d_M_extreme_35 (tgt := 40) (by decide) (fun _ => ?_) (fun hno => absurd (by decide) hno)
  refine lv_iload_n hx hb d_M_extreme_40 rfl (lv_at hl 3 rfl) ?_
  refine lv_if_ne hx hb d_M_extreme_41 (tgt := 59) (by decide) (fun _ => ?_) (fun hno => absurd hno (by decide))
  refine lv_iload_n hx hb d_M_extreme_59 rfl (lv_at hl 3 rfl) ?_
  refine lv_iconst hx hb d_M_extreme_60 (v := (nI 1)) rfl ?_
  refine lv_icmp_ne hx hb d_M_extreme_61 (tgt := 78) (by decide) (fun hyes => absurd rfl hyes) (fun _ => ?_)
  refine lv_aload_n hx hb d_M_extreme_64 rfl (lv_at hl 0 rfl) ?_
  refine va_get hx hb hts (fun w h => hT w (uM_in w h)) hown hK hM 0 rfl rfl 8 (by decide) (hts _ (hT _ k_M_29)) (fun _ h => h) rfl d_M_extreme_65 ?_
  refine lv_aload_n hx hb d_M_extreme_68 rfl (lv_at hl 0 rfl) ?_
  refine va_get hx hb hts (fun w h => hT w (uM_in w h)) hown hK hM 0 rfl rfl 10 (by decide) (hts _ (hT _ k_M_32)) (fun _ h => h) rfl d_M_extreme_69 ?_
  refine lv_iload_n hx hb d_M_extreme_72 rfl (lv_at hl 2 rfl) ?_
  refine tq_iald hx hb hK hM 8 0 rfl rfl (show k < 1440 by omega) (by decide) d_M_extreme_73 ?_
  refine tq_ti (show _ = (nI ((tt_L (tt_dh g dd) 1440).getD k 0)) from (hC.2 k hk).1) ?_
  refine tq_iald hx hb hK hM 7 0 rfl rfl (show ((tt_L (tt_dh g dd) 1440).getD k 0) < 1440 by omega) (by decide) d_M_extreme_74 ?_
  refine tq_ti (show _ = (iZ ((tt_dh g dd) ((tt_L (tt_dh g dd) 1440).getD k 0))) from hH ((tt_L (tt_dh g dd) 1440).getD k 0) (by omega)) ?_
  refine lv_goto hx hb d_M_extreme_75 (tgt := 92) (by decide) ?_
  exact W.iret hx hb hr (fun t ht hW => ⟨_, rfl, rfl, _, hs1, mi1, hi1, by rw [ht]; exact hM, hH, hC, by rw [ht]; exact hO⟩) hL d_M_extreme_92
set_option maxHeartbeats 4000000 in
set_option maxRecDepth 100000 in
theorem c_M_extreme2 (l : Launch) (D : va_G) (ci : Nat → ClassId) (am : Nat → Nat) (g : TS) (th fo sz : Int32) (hs mi hi tx : Nat → Int32) {dd k : Nat} (hd : dd < tt_db (tt_day g) 10) (hk : k < (tt_L (tt_dh g dd) 1440).length) : Met l y_M_extreme (wT y_M_extreme b_M_extreme 4 (some .int)) (rP 5 116) (tb (wMD D ci am g th fo sz hs mi hi tx) [.ref (am 0), .int (nI dd), .int (nI k), .int (nI 2)]) (tq_Q (fun o9 H H1 => o9 = some (.int (zb (tt_hgt g ((1440 * dd + (tt_L (tt_dh g dd) 1440).getD k 0) - 1) < tt_hgt g (1440 * dd + (tt_L (tt_dh g dd) 1440).getD k 0)))) ∧ ∃ fo1 hs1 mi1 hi1, tm D ci am g (nI 0) fo1 sz hs1 mi1 hi1 tx H1 ∧ tt_MH (tt_dh g dd) hs1 ∧ tt_MC (tt_dh g dd) (tt_L (tt_dh g dd) 1440) fo1 mi1 hi1 ∧ mO am H H1)) 0 0 (mF am) := by
  refine Met.ofW (cc := b_M_extreme) (maxL := 4) (ret := (some .int)) (by decide) rfl ?_
  intro p e s m args below meth c s₁ B hml hv
  obtain ⟨rfl, hK, hg, hM, hD⟩ := hv
  have hx := B.exec
  have hb := B.bytes
  have hr := B.returns
  have hts := atoms_spec (ws := wT y_M_extreme b_M_extreme 4 (some .int)) B.pre
  have hT : ∀ w ∈ TT, w ∈ wT y_M_extreme b_M_extreme 4 (some .int) := wT_T
  have hown : s.vm.findClass RM = some m.cls := findClass_of_methodNamed B.named
  have hlocks := B.notSynchronized
  have hl := lv_entry ([.ref (am 0), .int (nI dd), .int (nI k), .int (nI 2)]) (n := 4) (Nat.le_of_ble_eq_true rfl)
  rw [lg_entry_eq]
  generalize (lg_sl ([.ref (am 0), .int (nI dd), .int (nI k), .int (nI 2)]) ++ List.replicate (4 - (lg_sl ([.ref (am 0), .int (nI dd), .int (nI k), .int (nI 2)])).length) Slot.unset).toArray = ls at hl ⊢
  have hl : lv_has ls 4 [(0, .ref (am 0)), (1, .int (nI dd)), (2, .int (nI k)), (3, .int (nI 2))] := hl
  have hL : ∀ q ∈ ([] : List Loc), mF am q.base := fun q hq => nomatch hq
  have hO : mO am s.heap s.heap := mO.rf
  have hdb := (tt_db_in hg.2.2.2 10 (Nat.le_refl _)).2
  have ed : (nI dd).toInt = dd := nI_toInt (by omega)
  have hlen := tt_L1440 (tt_dh g dd)
  have hLk := tt_L_get hk
  have hTk := tt_T_kind hLk.2
  have ek : (nI k).toInt = k := nI_toInt (by omega)
  have eV : tt_dh g dd (((tt_L (tt_dh g dd) 1440).getD k 0) - 1) = tt_hgt g ((1440 * dd + (tt_L (tt_dh g dd) 1440).getD k 0) - 1) := by show tt_hgt g (1440 * dd + (((tt_L (tt_dh g dd) 1440).getD k 0) - 1)) = _; congr 1; omega
  refine lv_aload_n hx hb d_M_extreme_0 rfl (lv_at hl 0 rfl) ?_
  refine lv_aload_n hx hb d_M_extreme_1 rfl (lv_at hl 0 rfl) ?_
  refine lv_iload_n hx hb d_M_extreme_2 rfl (lv_at hl 1 rfl) ?_
  refine lv_iload_n hx hb d_M_extreme_3 rfl (lv_at hl 2 rfl) ?_
  refine tq_VW ⟨hx, hb, hml, hown, hts⟩ hT (c_M_isExtreme l D ci am g th fo sz hs mi hi tx hd (nI k)) lk_M_122 wMD_mv ⟨hK, hg, hM, hD⟩ (wM_rc hK hM) rfl hl.1 rfl (Nat.le_of_ble_eq_true rfl) d_M_extreme_4 ⟨rfl, rfl, Nat.le_of_ble_eq_true rfl, Nat.le_of_ble_eq_true rfl⟩ ⟨Nat.zero_le _, Nat.zero_le _⟩ hL (fun v9 H1 locs1 hF9 hL => ?_)
  obtain ⟨rfl, fo1, hs1, mi1, hi1, hM, hH, hC, hO9⟩ := hF9
  have hO := hO.tr hO9
  obtain rfl := hC.1
  refine lv_if_ne hx hb d_M_extreme_7 (tgt := 14) (by decide) (fun _ => ?_) (fun hno => absurd hno (fun z => zb_f z (by omega)))
  refine lv_iload_n hx hb d_M_extreme_14 rfl (lv_at hl 3 rfl) ?_
  refine lv_if_lt hx hb d_M_extreme_15 (tgt := 23) (by decide) (fun hyes => absurd hyes (by decide)) (fun _ => ?_)
  refine lv_iload_n hx hb d_M_extreme_18 rfl (lv_at hl 3 rfl) ?_
  refine lv_iconst hx hb d_M_extreme_19 (v := (nI 2)) rfl ?_
  refine lv_icmp_le hx hb d_M_extreme_20 (tgt := 27) (by decide) (fun _ => ?_) (fun hno => absurd (by decide) hno)
  refine lv_iconst hx hb d_M_extreme_27 (v := (nI 0)) rfl ?_
  refine tq_put (F := mF am) hx hb hts (fun w h => hT w (uM_in w h)) tM tM_ok nM hown hK (tm_one hM 0 rfl) (ci := 1) rfl 0 (by decide) (hts _ (hT _ k_M_43)) (fun _ h => h) rfl (ty := .int) rfl rfl rfl (Nat.le_of_ble_eq_true rfl) ⟨0, by decide, rfl⟩ hL d_M_extreme_28 (fun H1 locs1 hP1 hz1 hq1 hL => ?_)
  have hM : tm D ci am g (nI 0) (nI (tt_L (tt_dh g dd) 1440).length) sz hs1 mi1 hi1 tx H1 := tm_set hD hM 0 (by decide) rfl hP1 (fun j hj => by rcases j with _ | _ | _ | _ | _ | _ | _ | _ | _ | _ | _ | j <;> first | rfl | exact absurd rfl hj) hq1
  have hO := hO.tr (mO.put (k := 0) (by decide) hz1 hq1)
  refine lv_aload_n hx hb d_M_extreme_31 rfl (lv_at hl 0 rfl) ?_
  refine va_get hx hb hts (fun w h => hT w (uM_in w h)) hown hK hM 0 rfl rfl 0 (by decide) (hts _ (hT _ k_M_43)) (fun _ h => h) rfl d_M_extreme_32 ?_
  refine lv_if_eq hx hb d_M_extreme_35 (tgt := 40) (by decide) (fun _ => ?_) (fun hno => absurd (by decide) hno)
  refine lv_iload_n hx hb d_M_extreme_40 rfl (lv_at hl 3 rfl) ?_
  refine lv_if_ne hx hb d_M_extreme_41 (tgt := 59) (by decide) (fun _ => ?_) (fun hno => absurd hno (by decide))
  refine lv_iload_n hx hb d_M_extreme_59 rfl (lv_at hl 3 rfl) ?_
  refine lv_iconst hx hb d_M_extreme_60 (v := (nI 1)) rfl ?_
  refine lv_icmp_ne hx hb d_M_extreme_61 (tgt := 78) (by decide) (fun _ => ?_) (fun hno => absurd hno (by decide))
  refine lv_aload_n hx hb d_M_extreme_78 rfl (lv_at hl 0 rfl) ?_
  refine va_get hx hb hts (fun w h => hT w (uM_in w h)) hown hK hM 0 rfl rfl 11 (by decide) (hts _ (hT _ k_M_35)) (fun _ h => h) rfl d_M_extreme_79 ?_
  refine lv_iload_n hx hb d_M_extreme_82 rfl (lv_at hl 2 rfl) ?_
  refine tq_zald hx hb hK hM 9 4 rfl rfl (show k < 1440 by omega) (by decide) d_M_extreme_83 ?_
  refine tq_ti (show _ = (zb (tt_hgt g ((1440 * dd + (tt_L (tt_dh g dd) 1440).getD k 0) - 1) < tt_hgt g (1440 * dd + (tt_L (tt_dh g dd) 1440).getD k 0))) from ((hC.2 k hk).2.trans (by rw [eV]; rfl))) ?_
  refine lv_if_eq hx hb d_M_extreme_84 (tgt := 91) (by decide) (fun h9 => ?_) (fun h9 => ?_)
  · refine lv_iconst hx hb d_M_extreme_91 (v := (nI 0)) rfl ?_
    exact W.iret hx hb hr (fun t ht hW => ⟨_, rfl, (by rw [h9]; rfl), _, hs1, mi1, hi1, by rw [ht]; exact hM, hH, hC, by rw [ht]; exact hO⟩) hL d_M_extreme_92
  · refine lv_iconst hx hb d_M_extreme_87 (v := (nI 1)) rfl ?_
    refine lv_goto hx hb d_M_extreme_88 (tgt := 92) (by decide) ?_
    exact W.iret hx hb hr (fun t ht hW => ⟨_, rfl, (zb_1 (zb_t h9)), _, hs1, mi1, hi1, by rw [ht]; exact hM, hH, hC, by rw [ht]; exact hO⟩) hL d_M_extreme_92
set_option maxHeartbeats 4000000 in
set_option maxRecDepth 100000 in
theorem x_M_extremeI0 (l : Launch) (D : va_G) (ci : Nat → ClassId) (am : Nat → Nat) (g : TS) (th fo sz : Int32) (hs mi hi tx : Nat → Int32) (u : Int32) (hv0 : ¬ (0 ≤ u.toInt ∧ u.toInt < (tt_db (tt_day g) 10 : Nat))) (v : Int32) (z : Int32) : Met l y_M_extreme (wT y_M_extreme b_M_extreme 4 (some .int)) (rP 5 116) (tb (wMD D ci am g th fo sz hs mi hi tx) [.ref (am 0), .int u, .int v, .int z]) (tq_Q (fun o9 H H1 => o9 = some (.int (nI 0)) ∧ ∃ fo1 hs1 mi1 hi1, tm D ci am g (nI 1) fo1 sz hs1 mi1 hi1 tx H1 ∧ mO am H H1)) 0 0 (mF am) := by
  refine Met.ofW (cc := b_M_extreme) (maxL := 4) (ret := (some .int)) (by decide) rfl ?_
  intro p e s m args below meth c s₁ B hml hv
  obtain ⟨rfl, hK, hg, hM, hD⟩ := hv
  have hx := B.exec
  have hb := B.bytes
  have hr := B.returns
  have hts := atoms_spec (ws := wT y_M_extreme b_M_extreme 4 (some .int)) B.pre
  have hT : ∀ w ∈ TT, w ∈ wT y_M_extreme b_M_extreme 4 (some .int) := wT_T
  have hown : s.vm.findClass RM = some m.cls := findClass_of_methodNamed B.named
  have hlocks := B.notSynchronized
  have hl := lv_entry ([.ref (am 0), .int u, .int v, .int z]) (n := 4) (Nat.le_of_ble_eq_true rfl)
  rw [lg_entry_eq]
  generalize (lg_sl ([.ref (am 0), .int u, .int v, .int z]) ++ List.replicate (4 - (lg_sl ([.ref (am 0), .int u, .int v, .int z])).length) Slot.unset).toArray = ls at hl ⊢
  have hl : lv_has ls 4 [(0, .ref (am 0)), (1, .int u), (2, .int v), (3, .int z)] := hl
  have hL : ∀ q ∈ ([] : List Loc), mF am q.base := fun q hq => nomatch hq
  have hO : mO am s.heap s.heap := mO.rf
  refine lv_aload_n hx hb d_M_extreme_0 rfl (lv_at hl 0 rfl) ?_
  refine lv_aload_n hx hb d_M_extreme_1 rfl (lv_at hl 0 rfl) ?_
  refine lv_iload_n hx hb d_M_extreme_2 rfl (lv_at hl 1 rfl) ?_
  refine lv_iload_n hx hb d_M_extreme_3 rfl (lv_at hl 2 rfl) ?_
  refine tq_VW ⟨hx, hb, hml, hown, hts⟩ hT (c_M_isExtreme0 l D ci am g th fo sz hs mi hi tx u hv0 v) lk_M_122 wMD_mv ⟨hK, hg, hM, hD⟩ (wM_rc hK hM) rfl hl.1 rfl (Nat.le_of_ble_eq_true rfl) d_M_extreme_4 ⟨rfl, rfl, Nat.le_of_ble_eq_true rfl, Nat.le_of_ble_eq_true rfl⟩ ⟨Nat.zero_le _, Nat.zero_le _⟩ hL (fun v9 H1 locs1 hF9 hL => ?_)
  obtain ⟨rfl, hM, hO9⟩ := hF9
  have hO := hO.tr hO9
  refine lv_if_ne hx hb d_M_extreme_7 (tgt := 14) (by decide) (fun hyes => absurd rfl hyes) (fun _ => ?_)
  refine lv_iconst hx hb d_M_extreme_10 (v := (nI 1)) rfl ?_
  refine lv_goto hx hb d_M_extreme_11 (tgt := 28) (by decide) ?_
  refine tq_put (F := mF am) hx hb hts (fun w h => hT w (uM_in w h)) tM tM_ok nM hown hK (tm_one hM 0 rfl) (ci := 1) rfl 0 (by decide) (hts _ (hT _ k_M_43)) (fun _ h => h) rfl (ty := .int) rfl rfl rfl (Nat.le_of_ble_eq_true rfl) ⟨0, by decide, rfl⟩ hL d_M_extreme_28 (fun H1 locs1 hP1 hz1 hq1 hL => ?_)
  have hM : tm D ci am g (nI 1) fo sz hs mi hi tx H1 := tm_set hD hM 0 (by decide) rfl hP1 (fun j hj => by rcases j with _ | _ | _ | _ | _ | _ | _ | _ | _ | _ | _ | j <;> first | rfl | exact absurd rfl hj) hq1
  have hO := hO.tr (mO.put (k := 0) (by decide) hz1 hq1)
  refine lv_aload_n hx hb d_M_extreme_31 rfl (lv_at hl 0 rfl) ?_
  refine va_get hx hb hts (fun w h => hT w (uM_in w h)) hown hK hM 0 rfl rfl 0 (by decide) (hts _ (hT _ k_M_43)) (fun _ h => h) rfl d_M_extreme_32 ?_
  refine lv_if_eq hx hb d_M_extreme_35 (tgt := 40) (by decide) (fun hyes => absurd hyes (by decide)) (fun _ => ?_)
  refine lv_iconst hx hb d_M_extreme_38 (v := (nI 0)) rfl ?_
  exact W.iret hx hb hr (fun t ht hW => ⟨_, rfl, rfl, fo, hs, mi, hi, by rw [ht]; exact hM, by rw [ht]; exact hO⟩) hL d_M_extreme_39
set_option maxHeartbeats 4000000 in
set_option maxRecDepth 100000 in
theorem x_M_extremeI1 (l : Launch) (D : va_G) (ci : Nat → ClassId) (am : Nat → Nat) (g : TS) (th fo sz : Int32) (hs mi hi tx : Nat → Int32) {dd : Nat} (hd : dd < tt_db (tt_day g) 10) (v : Int32) (hv0 : ¬ (0 ≤ v.toInt ∧ v.toInt < ((tt_L (tt_dh g dd) 1440).length : Nat))) (z : Int32) : Met l y_M_extreme (wT y_M_extreme b_M_extreme 4 (some .int)) (rP 5 116) (tb (wMD D ci am g th fo sz hs mi hi tx) [.ref (am 0), .int (nI dd), .int v, .int z]) (tq_Q (fun o9 H H1 => o9 = some (.int (nI 0)) ∧ ∃ fo1 hs1 mi1 hi1, tm D ci am g (nI 1) fo1 sz hs1 mi1 hi1 tx H1 ∧ mO am H H1)) 0 0 (mF am) := by
  refine Met.ofW (cc := b_M_extreme) (maxL := 4) (ret := (some .int)) (by decide) rfl ?_
  intro p e s m args below meth c s₁ B hml hv
  obtain ⟨rfl, hK, hg, hM, hD⟩ := hv
  have hx := B.exec
  have hb := B.bytes
  have hr := B.returns
  have hts := atoms_spec (ws := wT y_M_extreme b_M_extreme 4 (some .int)) B.pre
  have hT : ∀ w ∈ TT, w ∈ wT y_M_extreme b_M_extreme 4 (some .int) := wT_T
  have hown : s.vm.findClass RM = some m.cls := findClass_of_methodNamed B.named
  have hlocks := B.notSynchronized
  have hl := lv_entry ([.ref (am 0), .int (nI dd), .int v, .int z]) (n := 4) (Nat.le_of_ble_eq_true rfl)
  rw [lg_entry_eq]
  generalize (lg_sl ([.ref (am 0), .int (nI dd), .int v, .int z]) ++ List.replicate (4 - (lg_sl ([.ref (am 0), .int (nI dd), .int v, .int z])).length) Slot.unset).toArray = ls at hl ⊢
  have hl : lv_has ls 4 [(0, .ref (am 0)), (1, .int (nI dd)), (2, .int v), (3, .int z)] := hl
  have hL : ∀ q ∈ ([] : List Loc), mF am q.base := fun q hq => nomatch hq
  have hO : mO am s.heap s.heap := mO.rf
  have hdb := (tt_db_in hg.2.2.2 10 (Nat.le_refl _)).2
  have ed : (nI dd).toInt = dd := nI_toInt (by omega)
  have hlen := tt_L1440 (tt_dh g dd)
  refine lv_aload_n hx hb d_M_extreme_0 rfl (lv_at hl 0 rfl) ?_
  refine lv_aload_n hx hb d_M_extreme_1 rfl (lv_at hl 0 rfl) ?_
  refine lv_iload_n hx hb d_M_extreme_2 rfl (lv_at hl 1 rfl) ?_
  refine lv_iload_n hx hb d_M_extreme_3 rfl (lv_at hl 2 rfl) ?_
  refine tq_VW ⟨hx, hb, hml, hown, hts⟩ hT (c_M_isExtreme l D ci am g th fo sz hs mi hi tx hd v) lk_M_122 wMD_mv ⟨hK, hg, hM, hD⟩ (wM_rc hK hM) rfl hl.1 rfl (Nat.le_of_ble_eq_true rfl) d_M_extreme_4 ⟨rfl, rfl, Nat.le_of_ble_eq_true rfl, Nat.le_of_ble_eq_true rfl⟩ ⟨Nat.zero_le _, Nat.zero_le _⟩ hL (fun v9 H1 locs1 hF9 hL => ?_)
  obtain ⟨rfl, fo1, hs1, mi1, hi1, hM, hH, hC, hO9⟩ := hF9
  have hO := hO.tr hO9
  obtain rfl := hC.1
  refine lv_if_ne hx hb d_M_extreme_7 (tgt := 14) (by decide) (fun hyes => absurd (by rw [zb, if_neg hv0]) hyes) (fun _ => ?_)
  refine lv_iconst hx hb d_M_extreme_10 (v := (nI 1)) rfl ?_
  refine lv_goto hx hb d_M_extreme_11 (tgt := 28) (by decide) ?_
  refine tq_put (F := mF am) hx hb hts (fun w h => hT w (uM_in w h)) tM tM_ok nM hown hK (tm_one hM 0 rfl) (ci := 1) rfl 0 (by decide) (hts _ (hT _ k_M_43)) (fun _ h => h) rfl (ty := .int) rfl rfl rfl (Nat.le_of_ble_eq_true rfl) ⟨0, by decide, rfl⟩ hL d_M_extreme_28 (fun H1 locs1 hP1 hz1 hq1 hL => ?_)
  have hM : tm D ci am g (nI 1) (nI (tt_L (tt_dh g dd) 1440).length) sz hs1 mi1 hi1 tx H1 := tm_set hD hM 0 (by decide) rfl hP1 (fun j hj => by rcases j with _ | _ | _ | _ | _ | _ | _ | _ | _ | _ | _ | j <;> first | rfl | exact absurd rfl hj) hq1
  have hO := hO.tr (mO.put (k := 0) (by decide) hz1 hq1)
  refine lv_aload_n hx hb d_M_extreme_31 rfl (lv_at hl 0 rfl) ?_
  refine va_get hx hb hts (fun w h => hT w (uM_in w h)) hown hK hM 0 rfl rfl 0 (by decide) (hts _ (hT _ k_M_43)) (fun _ h => h) rfl d_M_extreme_32 ?_
  refine lv_if_eq hx hb d_M_extreme_35 (tgt := 40) (by decide) (fun hyes => absurd hyes (by decide)) (fun _ => ?_)
  refine lv_iconst hx hb d_M_extreme_38 (v := (nI 0)) rfl ?_
  exact W.iret hx hb hr (fun t ht hW => ⟨_, rfl, rfl, _, hs1, mi1, hi1, by rw [ht]; exact hM, by rw [ht]; exact hO⟩) hL d_M_extreme_39
set_option maxHeartbeats 4000000 in
set_option maxRecDepth 100000 in
theorem x_M_lineI0 (l : Launch) (D : va_G) (ci : Nat → ClassId) (am : Nat → Nat) (g : TS) (th fo sz : Int32) (hs mi hi tx : Nat → Int32) (u : Int32) (hv0 : ¬ (0 ≤ u.toInt ∧ u.toInt < (tt_db (tt_day g) 10 : Nat))) (v : Int32) : Met l y_M_line (wT y_M_line b_M_line 3 (some .int)) (rP 5 116) (tb (wMD D ci am g th fo sz hs mi hi tx) [.ref (am 0), .int u, .int v]) (tq_Q (fun o9 H H1 => o9 = some (.int (nI 0)) ∧ ∃ fo1 hs1 mi1 hi1, tm D ci am g (nI 1) fo1 sz hs1 mi1 hi1 tx H1 ∧ mO am H H1)) 0 0 (mF am) := by
  refine Met.ofW (cc := b_M_line) (maxL := 3) (ret := (some .int)) (by decide) rfl ?_
  intro p e s m args below meth c s₁ B hml hv
  obtain ⟨rfl, hK, hg, hM, hD⟩ := hv
  have hx := B.exec
  have hb := B.bytes
  have hr := B.returns
  have hts := atoms_spec (ws := wT y_M_line b_M_line 3 (some .int)) B.pre
  have hT : ∀ w ∈ TT, w ∈ wT y_M_line b_M_line 3 (some .int) := wT_T
  have hown : s.vm.findClass RM = some m.cls := findClass_of_methodNamed B.named
  have hlocks := B.notSynchronized
  have hl := lv_entry ([.ref (am 0), .int u, .int v]) (n := 3) (Nat.le_of_ble_eq_true rfl)
  rw [lg_entry_eq]
  generalize (lg_sl ([.ref (am 0), .int u, .int v]) ++ List.replicate (3 - (lg_sl ([.ref (am 0), .int u, .int v])).length) Slot.unset).toArray = ls at hl ⊢
  have hl : lv_has ls 3 [(0, .ref (am 0)), (1, .int u), (2, .int v)] := hl
  have hL : ∀ q ∈ ([] : List Loc), mF am q.base := fun q hq => nomatch hq
  have hO : mO am s.heap s.heap := mO.rf
  refine lv_aload_n hx hb d_M_line_0 rfl (lv_at hl 0 rfl) ?_
  refine lv_aload_n hx hb d_M_line_1 rfl (lv_at hl 0 rfl) ?_
  refine lv_iload_n hx hb d_M_line_2 rfl (lv_at hl 1 rfl) ?_
  refine lv_iload_n hx hb d_M_line_3 rfl (lv_at hl 2 rfl) ?_
  refine tq_VW ⟨hx, hb, hml, hown, hts⟩ hT (c_M_isExtreme0 l D ci am g th fo sz hs mi hi tx u hv0 v) lk_M_122 wMD_mv ⟨hK, hg, hM, hD⟩ (wM_rc hK hM) rfl hl.1 rfl (Nat.le_of_ble_eq_true rfl) d_M_line_4 ⟨rfl, rfl, Nat.le_of_ble_eq_true rfl, Nat.le_of_ble_eq_true rfl⟩ ⟨Nat.zero_le _, Nat.zero_le _⟩ hL (fun v9 H1 locs1 hF9 hL => ?_)
  obtain ⟨rfl, hM, hO9⟩ := hF9
  have hO := hO.tr hO9
  refine lv_if_eq hx hb d_M_line_7 (tgt := 14) (by decide) (fun _ => ?_) (fun hno => absurd rfl hno)
  refine lv_iconst hx hb d_M_line_14 (v := (nI 1)) rfl ?_
  refine tq_put (F := mF am) hx hb hts (fun w h => hT w (uM_in w h)) tM tM_ok nM hown hK (tm_one hM 0 rfl) (ci := 1) rfl 0 (by decide) (hts _ (hT _ k_M_43)) (fun _ h => h) rfl (ty := .int) rfl rfl rfl (Nat.le_of_ble_eq_true rfl) ⟨0, by decide, rfl⟩ hL d_M_line_15 (fun H1 locs1 hP1 hz1 hq1 hL => ?_)
  have hM : tm D ci am g (nI 1) fo sz hs mi hi tx H1 := tm_set hD hM 0 (by decide) rfl hP1 (fun j hj => by rcases j with _ | _ | _ | _ | _ | _ | _ | _ | _ | _ | _ | j <;> first | rfl | exact absurd rfl hj) hq1
  have hO := hO.tr (mO.put (k := 0) (by decide) hz1 hq1)
  refine lv_aload_n hx hb d_M_line_18 rfl (lv_at hl 0 rfl) ?_
  refine va_get hx hb hts (fun w h => hT w (uM_in w h)) hown hK hM 0 rfl rfl 0 (by decide) (hts _ (hT _ k_M_43)) (fun _ h => h) rfl d_M_line_19 ?_
  refine lv_if_eq hx hb d_M_line_22 (tgt := 27) (by decide) (fun hyes => absurd hyes (by decide)) (fun _ => ?_)
  refine lv_iconst hx hb d_M_line_25 (v := (nI 0)) rfl ?_
  exact W.iret hx hb hr (fun t ht hW => ⟨_, rfl, rfl, fo, hs, mi, hi, by rw [ht]; exact hM, by rw [ht]; exact hO⟩) hL d_M_line_26
set_option maxHeartbeats 4000000 in
set_option maxRecDepth 100000 in
theorem x_M_lineI1 (l : Launch) (D : va_G) (ci : Nat → ClassId) (am : Nat → Nat) (g : TS) (th fo sz : Int32) (hs mi hi tx : Nat → Int32) {dd : Nat} (hd : dd < tt_db (tt_day g) 10) (v : Int32) (hv0 : ¬ (0 ≤ v.toInt ∧ v.toInt < ((tt_L (tt_dh g dd) 1440).length : Nat))) : Met l y_M_line (wT y_M_line b_M_line 3 (some .int)) (rP 5 116) (tb (wMD D ci am g th fo sz hs mi hi tx) [.ref (am 0), .int (nI dd), .int v]) (tq_Q (fun o9 H H1 => o9 = some (.int (nI 0)) ∧ ∃ fo1 hs1 mi1 hi1, tm D ci am g (nI 1) fo1 sz hs1 mi1 hi1 tx H1 ∧ mO am H H1)) 0 0 (mF am) := by
  refine Met.ofW (cc := b_M_line) (maxL := 3) (ret := (some .int)) (by decide) rfl ?_
  intro p e s m args below meth c s₁ B hml hv
  obtain ⟨rfl, hK, hg, hM, hD⟩ := hv
  have hx := B.exec
  have hb := B.bytes
  have hr := B.returns
  have hts := atoms_spec (ws := wT y_M_line b_M_line 3 (some .int)) B.pre
  have hT : ∀ w ∈ TT, w ∈ wT y_M_line b_M_line 3 (some .int) := wT_T
  have hown : s.vm.findClass RM = some m.cls := findClass_of_methodNamed B.named
  have hlocks := B.notSynchronized
  have hl := lv_entry ([.ref (am 0), .int (nI dd), .int v]) (n := 3) (Nat.le_of_ble_eq_true rfl)
  rw [lg_entry_eq]
  generalize (lg_sl ([.ref (am 0), .int (nI dd), .int v]) ++ List.replicate (3 - (lg_sl ([.ref (am 0), .int (nI dd), .int v])).length) Slot.unset).toArray = ls at hl ⊢
  have hl : lv_has ls 3 [(0, .ref (am 0)), (1, .int (nI dd)), (2, .int v)] := hl
  have hL : ∀ q ∈ ([] : List Loc), mF am q.base := fun q hq => nomatch hq
  have hO : mO am s.heap s.heap := mO.rf
  have hdb := (tt_db_in hg.2.2.2 10 (Nat.le_refl _)).2
  have ed : (nI dd).toInt = dd := nI_toInt (by omega)
  have hlen := tt_L1440 (tt_dh g dd)
  refine lv_aload_n hx hb d_M_line_0 rfl (lv_at hl 0 rfl) ?_
  refine lv_aload_n hx hb d_M_line_1 rfl (lv_at hl 0 rfl) ?_
  refine lv_iload_n hx hb d_M_line_2 rfl (lv_at hl 1 rfl) ?_
  refine lv_iload_n hx hb d_M_line_3 rfl (lv_at hl 2 rfl) ?_
  refine tq_VW ⟨hx, hb, hml, hown, hts⟩ hT (c_M_isExtreme l D ci am g th fo sz hs mi hi tx hd v) lk_M_122 wMD_mv ⟨hK, hg, hM, hD⟩ (wM_rc hK hM) rfl hl.1 rfl (Nat.le_of_ble_eq_true rfl) d_M_line_4 ⟨rfl, rfl, Nat.le_of_ble_eq_true rfl, Nat.le_of_ble_eq_true rfl⟩ ⟨Nat.zero_le _, Nat.zero_le _⟩ hL (fun v9 H1 locs1 hF9 hL => ?_)
  obtain ⟨rfl, fo1, hs1, mi1, hi1, hM, hH, hC, hO9⟩ := hF9
  have hO := hO.tr hO9
  obtain rfl := hC.1
  refine lv_if_eq hx hb d_M_line_7 (tgt := 14) (by decide) (fun _ => ?_) (fun hno => absurd (by rw [zb, if_neg hv0]) hno)
  refine lv_iconst hx hb d_M_line_14 (v := (nI 1)) rfl ?_
  refine tq_put (F := mF am) hx hb hts (fun w h => hT w (uM_in w h)) tM tM_ok nM hown hK (tm_one hM 0 rfl) (ci := 1) rfl 0 (by decide) (hts _ (hT _ k_M_43)) (fun _ h => h) rfl (ty := .int) rfl rfl rfl (Nat.le_of_ble_eq_true rfl) ⟨0, by decide, rfl⟩ hL d_M_line_15 (fun H1 locs1 hP1 hz1 hq1 hL => ?_)
  have hM : tm D ci am g (nI 1) (nI (tt_L (tt_dh g dd) 1440).length) sz hs1 mi1 hi1 tx H1 := tm_set hD hM 0 (by decide) rfl hP1 (fun j hj => by rcases j with _ | _ | _ | _ | _ | _ | _ | _ | _ | _ | _ | j <;> first | rfl | exact absurd rfl hj) hq1
  have hO := hO.tr (mO.put (k := 0) (by decide) hz1 hq1)
  refine lv_aload_n hx hb d_M_line_18 rfl (lv_at hl 0 rfl) ?_
  refine va_get hx hb hts (fun w h => hT w (uM_in w h)) hown hK hM 0 rfl rfl 0 (by decide) (hts _ (hT _ k_M_43)) (fun _ h => h) rfl d_M_line_19 ?_
  refine lv_if_eq hx hb d_M_line_22 (tgt := 27) (by decide) (fun hyes => absurd hyes (by decide)) (fun _ => ?_)
  refine lv_iconst hx hb d_M_line_25 (v := (nI 0)) rfl ?_
  exact W.iret hx hb hr (fun t ht hW => ⟨_, rfl, rfl, _, hs1, mi1, hi1, by rw [ht]; exact hM, by rw [ht]; exact hO⟩) hL d_M_line_26
set_option maxHeartbeats 4000000 in
set_option maxRecDepth 100000 in
theorem x_M_signI0 (l : Launch) (D : va_G) (ci : Nat → ClassId) (am : Nat → Nat) (g : TS) (th fo sz : Int32) (hs mi hi tx : Nat → Int32) (u : Int32) (hv0 : ¬ (0 ≤ u.toInt ∧ u.toInt < (tt_db (tt_day g) 10 : Nat))) (v : Int32) (z : Int32) : Met l y_M_sign (wT y_M_sign b_M_sign 4 (some .int)) (rP 5 116) (tb (wMD D ci am g th fo sz hs mi hi tx) [.ref (am 0), .int u, .int v, .int z]) (tq_Q (fun o9 H H1 => o9 = some (.int (nI 0)) ∧ ∃ fo1 hs1 mi1 hi1, tm D ci am g (nI 1) fo1 sz hs1 mi1 hi1 tx H1 ∧ mO am H H1)) 0 0 (mF am) := by
  refine Met.ofW (cc := b_M_sign) (maxL := 4) (ret := (some .int)) (by decide) rfl ?_
  intro p e s m args below meth c s₁ B hml hv
  obtain ⟨rfl, hK, hg, hM, hD⟩ := hv
  have hx := B.exec
  have hb := B.bytes
  have hr := B.returns
  have hts := atoms_spec (ws := wT y_M_sign b_M_sign 4 (some .int)) B.pre
  have hT : ∀ w ∈ TT, w ∈ wT y_M_sign b_M_sign 4 (some .int) := wT_T
  have hown : s.vm.findClass RM = some m.cls := findClass_of_methodNamed B.named
  have hlocks := B.notSynchronized
  have hl := lv_entry ([.ref (am 0), .int u, .int v, .int z]) (n := 4) (Nat.le_of_ble_eq_true rfl)
  rw [lg_entry_eq]
  generalize (lg_sl ([.ref (am 0), .int u, .int v, .int z]) ++ List.replicate (4 - (lg_sl ([.ref (am 0), .int u, .int v, .int z])).length) Slot.unset).toArray = ls at hl ⊢
  have hl : lv_has ls 4 [(0, .ref (am 0)), (1, .int u), (2, .int v), (3, .int z)] := hl
  have hL : ∀ q ∈ ([] : List Loc), mF am q.base := fun q hq => nomatch hq
  have hO : mO am s.heap s.heap := mO.rf
  refine lv_aload_n hx hb d_M_sign_0 rfl (lv_at hl 0 rfl) ?_
  refine lv_aload_n hx hb d_M_sign_1 rfl (lv_at hl 0 rfl) ?_
  refine lv_iload_n hx hb d_M_sign_2 rfl (lv_at hl 1 rfl) ?_
  refine lv_iload_n hx hb d_M_sign_3 rfl (lv_at hl 2 rfl) ?_
  refine tq_VW ⟨hx, hb, hml, hown, hts⟩ hT (c_M_isExtreme0 l D ci am g th fo sz hs mi hi tx u hv0 v) lk_M_122 wMD_mv ⟨hK, hg, hM, hD⟩ (wM_rc hK hM) rfl hl.1 rfl (Nat.le_of_ble_eq_true rfl) d_M_sign_4 ⟨rfl, rfl, Nat.le_of_ble_eq_true rfl, Nat.le_of_ble_eq_true rfl⟩ ⟨Nat.zero_le _, Nat.zero_le _⟩ hL (fun v9 H1 locs1 hF9 hL => ?_)
  obtain ⟨rfl, hM, hO9⟩ := hF9
  have hO := hO.tr hO9
  refine lv_if_eq hx hb d_M_sign_7 (tgt := 14) (by decide) (fun _ => ?_) (fun hno => absurd rfl hno)
  refine lv_iconst hx hb d_M_sign_14 (v := (nI 1)) rfl ?_
  refine tq_put (F := mF am) hx hb hts (fun w h => hT w (uM_in w h)) tM tM_ok nM hown hK (tm_one hM 0 rfl) (ci := 1) rfl 0 (by decide) (hts _ (hT _ k_M_43)) (fun _ h => h) rfl (ty := .int) rfl rfl rfl (Nat.le_of_ble_eq_true rfl) ⟨0, by decide, rfl⟩ hL d_M_sign_15 (fun H1 locs1 hP1 hz1 hq1 hL => ?_)
  have hM : tm D ci am g (nI 1) fo sz hs mi hi tx H1 := tm_set hD hM 0 (by decide) rfl hP1 (fun j hj => by rcases j with _ | _ | _ | _ | _ | _ | _ | _ | _ | _ | _ | j <;> first | rfl | exact absurd rfl hj) hq1
  have hO := hO.tr (mO.put (k := 0) (by decide) hz1 hq1)
  refine lv_aload_n hx hb d_M_sign_18 rfl (lv_at hl 0 rfl) ?_
  refine va_get hx hb hts (fun w h => hT w (uM_in w h)) hown hK hM 0 rfl rfl 0 (by decide) (hts _ (hT _ k_M_43)) (fun _ h => h) rfl d_M_sign_19 ?_
  refine lv_if_eq hx hb d_M_sign_22 (tgt := 27) (by decide) (fun hyes => absurd hyes (by decide)) (fun _ => ?_)
  refine lv_iconst hx hb d_M_sign_25 (v := (nI 0)) rfl ?_
  exact W.iret hx hb hr (fun t ht hW => ⟨_, rfl, rfl, fo, hs, mi, hi, by rw [ht]; exact hM, by rw [ht]; exact hO⟩) hL d_M_sign_26
set_option maxHeartbeats 4000000 in
set_option maxRecDepth 100000 in
theorem x_M_signI1 (l : Launch) (D : va_G) (ci : Nat → ClassId) (am : Nat → Nat) (g : TS) (th fo sz : Int32) (hs mi hi tx : Nat → Int32) {dd : Nat} (hd : dd < tt_db (tt_day g) 10) (v : Int32) (hv0 : ¬ (0 ≤ v.toInt ∧ v.toInt < ((tt_L (tt_dh g dd) 1440).length : Nat))) (z : Int32) : Met l y_M_sign (wT y_M_sign b_M_sign 4 (some .int)) (rP 5 116) (tb (wMD D ci am g th fo sz hs mi hi tx) [.ref (am 0), .int (nI dd), .int v, .int z]) (tq_Q (fun o9 H H1 => o9 = some (.int (nI 0)) ∧ ∃ fo1 hs1 mi1 hi1, tm D ci am g (nI 1) fo1 sz hs1 mi1 hi1 tx H1 ∧ mO am H H1)) 0 0 (mF am) := by
  refine Met.ofW (cc := b_M_sign) (maxL := 4) (ret := (some .int)) (by decide) rfl ?_
  intro p e s m args below meth c s₁ B hml hv
  obtain ⟨rfl, hK, hg, hM, hD⟩ := hv
  have hx := B.exec
  have hb := B.bytes
  have hr := B.returns
  have hts := atoms_spec (ws := wT y_M_sign b_M_sign 4 (some .int)) B.pre
  have hT : ∀ w ∈ TT, w ∈ wT y_M_sign b_M_sign 4 (some .int) := wT_T
  have hown : s.vm.findClass RM = some m.cls := findClass_of_methodNamed B.named
  have hlocks := B.notSynchronized
  have hl := lv_entry ([.ref (am 0), .int (nI dd), .int v, .int z]) (n := 4) (Nat.le_of_ble_eq_true rfl)
  rw [lg_entry_eq]
  generalize (lg_sl ([.ref (am 0), .int (nI dd), .int v, .int z]) ++ List.replicate (4 - (lg_sl ([.ref (am 0), .int (nI dd), .int v, .int z])).length) Slot.unset).toArray = ls at hl ⊢
  have hl : lv_has ls 4 [(0, .ref (am 0)), (1, .int (nI dd)), (2, .int v), (3, .int z)] := hl
  have hL : ∀ q ∈ ([] : List Loc), mF am q.base := fun q hq => nomatch hq
  have hO : mO am s.heap s.heap := mO.rf
  have hdb := (tt_db_in hg.2.2.2 10 (Nat.le_refl _)).2
  have ed : (nI dd).toInt = dd := nI_toInt (by omega)
  have hlen := tt_L1440 (tt_dh g dd)
  refine lv_aload_n hx hb d_M_sign_0 rfl (lv_at hl 0 rfl) ?_
  refine lv_aload_n hx hb d_M_sign_1 rfl (lv_at hl 0 rfl) ?_
  refine lv_iload_n hx hb d_M_sign_2 rfl (lv_at hl 1 rfl) ?_
  refine lv_iload_n hx hb d_M_sign_3 rfl (lv_at hl 2 rfl) ?_
  refine tq_VW ⟨hx, hb, hml, hown, hts⟩ hT (c_M_isExtreme l D ci am g th fo sz hs mi hi tx hd v) lk_M_122 wMD_mv ⟨hK, hg, hM, hD⟩ (wM_rc hK hM) rfl hl.1 rfl (Nat.le_of_ble_eq_true rfl) d_M_sign_4 ⟨rfl, rfl, Nat.le_of_ble_eq_true rfl, Nat.le_of_ble_eq_true rfl⟩ ⟨Nat.zero_le _, Nat.zero_le _⟩ hL (fun v9 H1 locs1 hF9 hL => ?_)
  obtain ⟨rfl, fo1, hs1, mi1, hi1, hM, hH, hC, hO9⟩ := hF9
  have hO := hO.tr hO9
  obtain rfl := hC.1
  refine lv_if_eq hx hb d_M_sign_7 (tgt := 14) (by decide) (fun _ => ?_) (fun hno => absurd (by rw [zb, if_neg hv0]) hno)
  refine lv_iconst hx hb d_M_sign_14 (v := (nI 1)) rfl ?_
  refine tq_put (F := mF am) hx hb hts (fun w h => hT w (uM_in w h)) tM tM_ok nM hown hK (tm_one hM 0 rfl) (ci := 1) rfl 0 (by decide) (hts _ (hT _ k_M_43)) (fun _ h => h) rfl (ty := .int) rfl rfl rfl (Nat.le_of_ble_eq_true rfl) ⟨0, by decide, rfl⟩ hL d_M_sign_15 (fun H1 locs1 hP1 hz1 hq1 hL => ?_)
  have hM : tm D ci am g (nI 1) (nI (tt_L (tt_dh g dd) 1440).length) sz hs1 mi1 hi1 tx H1 := tm_set hD hM 0 (by decide) rfl hP1 (fun j hj => by rcases j with _ | _ | _ | _ | _ | _ | _ | _ | _ | _ | _ | j <;> first | rfl | exact absurd rfl hj) hq1
  have hO := hO.tr (mO.put (k := 0) (by decide) hz1 hq1)
  refine lv_aload_n hx hb d_M_sign_18 rfl (lv_at hl 0 rfl) ?_
  refine va_get hx hb hts (fun w h => hT w (uM_in w h)) hown hK hM 0 rfl rfl 0 (by decide) (hts _ (hT _ k_M_43)) (fun _ h => h) rfl d_M_sign_19 ?_
  refine lv_if_eq hx hb d_M_sign_22 (tgt := 27) (by decide) (fun hyes => absurd hyes (by decide)) (fun _ => ?_)
  refine lv_iconst hx hb d_M_sign_25 (v := (nI 0)) rfl ?_
  exact W.iret hx hb hr (fun t ht hW => ⟨_, rfl, rfl, _, hs1, mi1, hi1, by rw [ht]; exact hM, by rw [ht]; exact hO⟩) hL d_M_sign_26
set_option maxHeartbeats 4000000 in
set_option maxRecDepth 100000 in
theorem x_M_extremeA (l : Launch) (D : va_G) (ci : Nat → ClassId) (am : Nat → Nat) (g : TS) (th fo sz : Int32) (hs mi hi tx : Nat → Int32) {dd k : Nat} (hd : dd < tt_db (tt_day g) 10) (hk : k < (tt_L (tt_dh g dd) 1440).length) (z : Int32) (hv2 : z.toInt < 0 ∨ 2 < z.toInt) : Met l y_M_extreme (wT y_M_extreme b_M_extreme 4 (some .int)) (rP 5 116) (tb (wMD D ci am g th fo sz hs mi hi tx) [.ref (am 0), .int (nI dd), .int (nI k), .int z]) (tq_Q (fun o9 H H1 => o9 = some (.int (nI 0)) ∧ ∃ fo1 hs1 mi1 hi1, tm D ci am g (nI 2) fo1 sz hs1 mi1 hi1 tx H1 ∧ mO am H H1)) 0 0 (mF am) := by
  refine Met.ofW (cc := b_M_extreme) (maxL := 4) (ret := (some .int)) (by decide) rfl ?_
  intro p e s m args below meth c s₁ B hml hv
  obtain ⟨rfl, hK, hg, hM, hD⟩ := hv
  have hx := B.exec
  have hb := B.bytes
  have hr := B.returns
  have hts := atoms_spec (ws := wT y_M_extreme b_M_extreme 4 (some .int)) B.pre
  have hT : ∀ w ∈ TT, w ∈ wT y_M_extreme b_M_extreme 4 (some .int) := wT_T
  have hown : s.vm.findClass RM = some m.cls := findClass_of_methodNamed B.named
  have hlocks := B.notSynchronized
  have hl := lv_entry ([.ref (am 0), .int (nI dd), .int (nI k), .int z]) (n := 4) (Nat.le_of_ble_eq_true rfl)
  rw [lg_entry_eq]
  generalize (lg_sl ([.ref (am 0), .int (nI dd), .int (nI k), .int z]) ++ List.replicate (4 - (lg_sl ([.ref (am 0), .int (nI dd), .int (nI k), .int z])).length) Slot.unset).toArray = ls at hl ⊢
  have hl : lv_has ls 4 [(0, .ref (am 0)), (1, .int (nI dd)), (2, .int (nI k)), (3, .int z)] := hl
  have hL : ∀ q ∈ ([] : List Loc), mF am q.base := fun q hq => nomatch hq
  have hO : mO am s.heap s.heap := mO.rf
  have hdb := (tt_db_in hg.2.2.2 10 (Nat.le_refl _)).2
  have ed : (nI dd).toInt = dd := nI_toInt (by omega)
  have hlen := tt_L1440 (tt_dh g dd)
  have ek : (nI k).toInt = k := nI_toInt (by omega)
  refine lv_aload_n hx hb d_M_extreme_0 rfl (lv_at hl 0 rfl) ?_
  refine lv_aload_n hx hb d_M_extreme_1 rfl (lv_at hl 0 rfl) ?_
  refine lv_iload_n hx hb d_M_extreme_2 rfl (lv_at hl 1 rfl) ?_
  refine lv_iload_n hx hb d_M_extreme_3 rfl (lv_at hl 2 rfl) ?_
  refine tq_VW ⟨hx, hb, hml, hown, hts⟩ hT (c_M_isExtreme l D ci am g th fo sz hs mi hi tx hd (nI k)) lk_M_122 wMD_mv ⟨hK, hg, hM, hD⟩ (wM_rc hK hM) rfl hl.1 rfl (Nat.le_of_ble_eq_true rfl) d_M_extreme_4 ⟨rfl, rfl, Nat.le_of_ble_eq_true rfl, Nat.le_of_ble_eq_true rfl⟩ ⟨Nat.zero_le _, Nat.zero_le _⟩ hL (fun v9 H1 locs1 hF9 hL => ?_)
  obtain ⟨rfl, fo1, hs1, mi1, hi1, hM, hH, hC, hO9⟩ := hF9
  have hO := hO.tr hO9
  obtain rfl := hC.1
  refine lv_if_ne hx hb d_M_extreme_7 (tgt := 14) (by decide) (fun _ => ?_) (fun hno => absurd hno (fun z => zb_f z (by omega)))
  refine lv_iload_n hx hb d_M_extreme_14 rfl (lv_at hl 3 rfl) ?_
  refine lv_if_lt hx hb d_M_extreme_15 (tgt := 23) (by decide) (fun q1 => ?_) (fun q1 => ?_)
  · have q1 := iv_lt0.mp q1
    refine lv_iconst hx hb d_M_extreme_23 (v := (nI 2)) rfl ?_
    refine lv_goto hx hb d_M_extreme_24 (tgt := 28) (by decide) ?_
    refine tq_put (F := mF am) hx hb hts (fun w h => hT w (uM_in w h)) tM tM_ok nM hown hK (tm_one hM 0 rfl) (ci := 1) rfl 0 (by decide) (hts _ (hT _ k_M_43)) (fun _ h => h) rfl (ty := .int) rfl rfl rfl (Nat.le_of_ble_eq_true rfl) ⟨0, by decide, rfl⟩ hL d_M_extreme_28 (fun H1 locs1 hP1 hz1 hq1 hL => ?_)
    have hM : tm D ci am g (nI 2) (nI (tt_L (tt_dh g dd) 1440).length) sz hs1 mi1 hi1 tx H1 := tm_set hD hM 0 (by decide) rfl hP1 (fun j hj => by rcases j with _ | _ | _ | _ | _ | _ | _ | _ | _ | _ | _ | j <;> first | rfl | exact absurd rfl hj) hq1
    have hO := hO.tr (mO.put (k := 0) (by decide) hz1 hq1)
    refine lv_aload_n hx hb d_M_extreme_31 rfl (lv_at hl 0 rfl) ?_
    refine va_get hx hb hts (fun w h => hT w (uM_in w h)) hown hK hM 0 rfl rfl 0 (by decide) (hts _ (hT _ k_M_43)) (fun _ h => h) rfl d_M_extreme_32 ?_
    refine lv_if_eq hx hb d_M_extreme_35 (tgt := 40) (by decide) (fun hyes => absurd hyes (by decide)) (fun _ => ?_)
    refine lv_iconst hx hb d_M_extreme_38 (v := (nI 0)) rfl ?_
    exact W.iret hx hb hr (fun t ht hW => ⟨_, rfl, rfl, _, hs1, mi1, hi1, by rw [ht]; exact hM, by rw [ht]; exact hO⟩) hL d_M_extreme_39
  · have q1 := mt iv_lt0.mpr q1
    refine lv_iload_n hx hb d_M_extreme_18 rfl (lv_at hl 3 rfl) ?_
    refine lv_iconst hx hb d_M_extreme_19 (v := (nI 2)) rfl ?_
    refine lv_icmp_le hx hb d_M_extreme_20 (tgt := 27) (by decide) (fun q2 => ?_) (fun q2 => ?_)
    · have q2 := Int32.le_iff_toInt_le.mp q2
      rw [nI_toInt (n := 2) (by decide)] at q2
      exfalso
      omega
    · have q2 := mt Int32.le_iff_toInt_le.mpr q2
      rw [nI_toInt (n := 2) (by decide)] at q2
      refine lv_iconst hx hb d_M_extreme_23 (v := (nI 2)) rfl ?_
      refine lv_goto hx hb d_M_extreme_24 (tgt := 28) (by decide) ?_
      refine tq_put (F := mF am) hx hb hts (fun w h => hT w (uM_in w h)) tM tM_ok nM hown hK (tm_one hM 0 rfl) (ci := 1) rfl 0 (by decide) (hts _ (hT _ k_M_43)) (fun _ h => h) rfl (ty := .int) rfl rfl rfl (Nat.le_of_ble_eq_true rfl) ⟨0, by decide, rfl⟩ hL d_M_extreme_28 (fun H1 locs1 hP1 hz1 hq1 hL => ?_)
      have hM : tm D ci am g (nI 2) (nI (tt_L (tt_dh g dd) 1440).length) sz hs1 mi1 hi1 tx H1 := tm_set hD hM 0 (by decide) rfl hP1 (fun j hj => by rcases j with _ | _ | _ | _ | _ | _ | _ | _ | _ | _ | _ | j <;> first | rfl | exact absurd rfl hj) hq1
      have hO := hO.tr (mO.put (k := 0) (by decide) hz1 hq1)
      refine lv_aload_n hx hb d_M_extreme_31 rfl (lv_at hl 0 rfl) ?_
      refine va_get hx hb hts (fun w h => hT w (uM_in w h)) hown hK hM 0 rfl rfl 0 (by decide) (hts _ (hT _ k_M_43)) (fun _ h => h) rfl d_M_extreme_32 ?_
      refine lv_if_eq hx hb d_M_extreme_35 (tgt := 40) (by decide) (fun hyes => absurd hyes (by decide)) (fun _ => ?_)
      refine lv_iconst hx hb d_M_extreme_38 (v := (nI 0)) rfl ?_
      exact W.iret hx hb hr (fun t ht hW => ⟨_, rfl, rfl, _, hs1, mi1, hi1, by rw [ht]; exact hM, by rw [ht]; exact hO⟩) hL d_M_extreme_39
