/-! the reference's line and sign. Written by wip/whole/gen.py -/
theorem tt_kd_len (b : Bool) : (tt_kd b).length ≤ 6 := by cases b <;> decide
theorem tt_wd_len (w : Nat) : 1 ≤ (tt_wd w).length ∧ (tt_wd w).length ≤ 3 := by
  unfold tt_wd
  split
  · exact ⟨Nat.le_of_ble_eq_true rfl, Nat.le_of_ble_eq_true rfl⟩
  · split <;> exact ⟨Nat.le_of_ble_eq_true rfl, Nat.le_of_ble_eq_true rfl⟩
theorem tt_ht_len (z : Int) : (tt_ht z).length ≤ 9 := by
  have h1 := tt_wd_len (z.natAbs / 10000)
  unfold tt_ht
  rw [List.length_append, List.length_append]
  have h2 : (if z < 0 then [45] else ([] : List Nat)).length ≤ 1 := by split <;> decide
  simp only [List.length_cons, List.length_nil]
  omega
theorem tt_line_len (g : TS) (dd k : Nat) : (tt_line g dd k).length ≤ 40 := by
  unfold tt_line tt_ln
  rw [List.length_append, List.length_append]
  have h1 := tt_ht_len (tt_dh g dd ((tt_L (tt_dh g dd) 1440).getD k 0))
  have h2 := tt_kd_len (decide (tt_dh g dd (((tt_L (tt_dh g dd) 1440).getD k 0) - 1) < tt_dh g dd ((tt_L (tt_dh g dd) 1440).getD k 0)))
  have h3 : ∀ a b c, (tt_hd a b c).length = 11 := fun _ _ _ => rfl
  rw [h3]
  omega
set_option maxHeartbeats 4000000 in
set_option maxRecDepth 100000 in
theorem c_M_line (l : Launch) (D : va_G) (ci : Nat → ClassId) (am : Nat → Nat) (g : TS) (th fo sz : Int32) (hs mi hi tx : Nat → Int32) {dd k : Nat} (hd : dd < tt_db (tt_day g) 10) (hk : k < (tt_L (tt_dh g dd) 1440).length) : Met l y_M_line (wT y_M_line b_M_line 3 (some .int)) (rP 5 116) (tb (wMD D ci am g th fo sz hs mi hi tx) [.ref (am 0), .int (nI dd), .int (nI k)]) (tq_Q (fun o9 H H1 => o9 = some (.int (nI (tt_line g dd k).length)) ∧ ∃ fo1 sz1 hs1 mi1 hi1 tx1, tm D ci am g (nI 0) fo1 sz1 hs1 mi1 hi1 tx1 H1 ∧ mO am H H1)) 0 0 (mF am) := by
  refine Met.ofW (cc := b_M_line) (maxL := 3) (ret := (some .int)) (by decide) rfl ?_
  intro p e s m args below meth c s₁ B hml hv
  obtain ⟨rfl, hK, hg, hM, hD⟩ := hv
  have hx := B.exec
  have hb := B.bytes
  have hr := B.returns
  have hts := atoms_spec (ws := wT y_M_line b_M_line 3 (some .int)) B.pre
  have hT : ∀ w ∈ TT, w ∈ wT y_M_line b_M_line 3 (some .int) := wT_T
  have hown : s.vm.findClass RM = some m.cls := findClass_of_methodNamed B.named
  have hlocks := B.notSynchronized
  have hl := lv_entry ([.ref (am 0), .int (nI dd), .int (nI k)]) (n := 3) (Nat.le_of_ble_eq_true rfl)
  rw [lg_entry_eq]
  generalize (lg_sl ([.ref (am 0), .int (nI dd), .int (nI k)]) ++ List.replicate (3 - (lg_sl ([.ref (am 0), .int (nI dd), .int (nI k)])).length) Slot.unset).toArray = ls at hl ⊢
  have hl : lv_has ls 3 [(0, .ref (am 0)), (1, .int (nI dd)), (2, .int (nI k))] := hl
  have hL : ∀ q ∈ ([] : List Loc), mF am q.base := fun q hq => nomatch hq
  have hO : mO am s.heap s.heap := mO.rf
  have hdb := (tt_db_in hg.2.2.2 10 (Nat.le_refl _)).2
  have ed : (nI dd).toInt = dd := nI_toInt (by omega)
  have hlen := tt_L1440 (tt_dh g dd)
  have ek : (nI k).toInt = k := nI_toInt (by omega)
  have hll := tt_line_len g dd k
  refine lv_aload_n hx hb d_M_line_0 rfl (lv_at hl 0 rfl) ?_
  refine lv_aload_n hx hb d_M_line_1 rfl (lv_at hl 0 rfl) ?_
  refine lv_iload_n hx hb d_M_line_2 rfl (lv_at hl 1 rfl) ?_
  refine lv_iload_n hx hb d_M_line_3 rfl (lv_at hl 2 rfl) ?_
  refine tq_VW ⟨hx, hb, hml, hown, hts⟩ hT (c_M_isExtreme l D ci am g th fo sz hs mi hi tx hd (nI k)) lk_M_122 wMD_mv ⟨hK, hg, hM, hD⟩ (wM_rc hK hM) rfl hl.1 rfl (Nat.le_of_ble_eq_true rfl) d_M_line_4 ⟨rfl, rfl, Nat.le_of_ble_eq_true rfl, Nat.le_of_ble_eq_true rfl⟩ ⟨Nat.zero_le _, Nat.zero_le _⟩ hL (fun v9 H1 locs1 hF9 hL => ?_)
  obtain ⟨rfl, fo1, hs1, mi1, hi1, hM, hH, hC, hO9⟩ := hF9
  have hO := hO.tr hO9
  obtain rfl := hC.1
  refine lv_if_eq hx hb d_M_line_7 (tgt := 14) (by decide) (fun hyes => absurd hyes (fun z => zb_f z (by omega))) (fun _ => ?_)
  refine lv_iconst hx hb d_M_line_10 (v := (nI 0)) rfl ?_
  refine lv_goto hx hb d_M_line_11 (tgt := 15) (by decide) ?_
  refine tq_put (F := mF am) hx hb hts (fun w h => hT w (uM_in w h)) tM tM_ok nM hown hK (tm_one hM 0 rfl) (ci := 1) rfl 0 (by decide) (hts _ (hT _ k_M_43)) (fun _ h => h) rfl (ty := .int) rfl rfl rfl (Nat.le_of_ble_eq_true rfl) ⟨0, by decide, rfl⟩ hL d_M_line_15 (fun H1 locs1 hP1 hz1 hq1 hL => ?_)
  have hM : tm D ci am g (nI 0) (nI (tt_L (tt_dh g dd) 1440).length) sz hs1 mi1 hi1 tx H1 := tm_set hD hM 0 (by decide) rfl hP1 (fun j hj => by rcases j with _ | _ | _ | _ | _ | _ | _ | _ | _ | _ | _ | j <;> first | rfl | exact absurd rfl hj) hq1
  have hO := hO.tr (mO.put (k := 0) (by decide) hz1 hq1)
  refine lv_aload_n hx hb d_M_line_18 rfl (lv_at hl 0 rfl) ?_
  refine va_get hx hb hts (fun w h => hT w (uM_in w h)) hown hK hM 0 rfl rfl 0 (by decide) (hts _ (hT _ k_M_43)) (fun _ h => h) rfl d_M_line_19 ?_
  refine lv_if_eq hx hb d_M_line_22 (tgt := 27) (by decide) (fun _ => ?_) (fun hno => absurd (by decide) hno)
  refine lv_aload_n hx hb d_M_line_27 rfl (lv_at hl 0 rfl) ?_
  refine lv_iload_n hx hb d_M_line_28 rfl (lv_at hl 1 rfl) ?_
  refine lv_iload_n hx hb d_M_line_29 rfl (lv_at hl 2 rfl) ?_
  refine tq_VW ⟨hx, hb, hml, hown, hts⟩ hT (c_M_write l D ci am g (nI 0) (nI (tt_L (tt_dh g dd) 1440).length) sz hs1 mi1 hi1 tx hd hk hH hC) lk_M_136 wMD_mv ⟨hK, hg, hM, hD⟩ (wM_rc hK hM) rfl hl.1 rfl (Nat.le_of_ble_eq_true rfl) d_M_line_30 ⟨rfl, rfl, Nat.le_of_ble_eq_true rfl, Nat.le_of_ble_eq_true rfl⟩ ⟨Nat.zero_le _, Nat.zero_le _⟩ hL (fun v9 H1 locs1 hF9 hL => ?_)
  obtain ⟨rfl, tx1, hM, hTX, hO9⟩ := hF9
  have hO := hO.tr hO9
  refine lv_aload_n hx hb d_M_line_33 rfl (lv_at hl 0 rfl) ?_
  refine va_get hx hb hts (fun w h => hT w (uM_in w h)) hown hK hM 0 rfl rfl 12 (by decide) (hts _ (hT _ k_M_126)) (fun _ h => h) rfl d_M_line_34 ?_
  exact W.iret hx hb hr (fun t ht hW => ⟨_, rfl, rfl, _, _, hs1, mi1, hi1, tx1, by rw [ht]; exact hM, by rw [ht]; exact hO⟩) hL d_M_line_37
set_option maxHeartbeats 4000000 in
set_option maxRecDepth 100000 in
theorem c_M_sign (l : Launch) (D : va_G) (ci : Nat → ClassId) (am : Nat → Nat) (g : TS) (th fo sz : Int32) (hs mi hi tx : Nat → Int32) {dd k : Nat} (hd : dd < tt_db (tt_day g) 10) (hk : k < (tt_L (tt_dh g dd) 1440).length) {j : Nat} (hj : j < (tt_line g dd k).length) : Met l y_M_sign (wT y_M_sign b_M_sign 4 (some .int)) (rP 5 116) (tb (wMD D ci am g th fo sz hs mi hi tx) [.ref (am 0), .int (nI dd), .int (nI k), .int (nI j)]) (tq_Q (fun o9 H H1 => o9 = some (.int (nI ((tt_line g dd k).getD j 0))) ∧ ∃ fo1 sz1 hs1 mi1 hi1 tx1, tm D ci am g (nI 0) fo1 sz1 hs1 mi1 hi1 tx1 H1 ∧ mO am H H1)) 0 0 (mF am) := by
  refine Met.ofW (cc := b_M_sign) (maxL := 4) (ret := (some .int)) (by decide) rfl ?_
  intro p e s m args below meth c s₁ B hml hv
  obtain ⟨rfl, hK, hg, hM, hD⟩ := hv
  have hx := B.exec
  have hb := B.bytes
  have hr := B.returns
  have hts := atoms_spec (ws := wT y_M_sign b_M_sign 4 (some .int)) B.pre
  have hT : ∀ w ∈ TT, w ∈ wT y_M_sign b_M_sign 4 (some .int) := wT_T
  have hown : s.vm.findClass RM = some m.cls := findClass_of_methodNamed B.named
  have hlocks := B.notSynchronized
  have hl := lv_entry ([.ref (am 0), .int (nI dd), .int (nI k), .int (nI j)]) (n := 4) (Nat.le_of_ble_eq_true rfl)
  rw [lg_entry_eq]
  generalize (lg_sl ([.ref (am 0), .int (nI dd), .int (nI k), .int (nI j)]) ++ List.replicate (4 - (lg_sl ([.ref (am 0), .int (nI dd), .int (nI k), .int (nI j)])).length) Slot.unset).toArray = ls at hl ⊢
  have hl : lv_has ls 4 [(0, .ref (am 0)), (1, .int (nI dd)), (2, .int (nI k)), (3, .int (nI j))] := hl
  have hL : ∀ q ∈ ([] : List Loc), mF am q.base := fun q hq => nomatch hq
  have hO : mO am s.heap s.heap := mO.rf
  have hdb := (tt_db_in hg.2.2.2 10 (Nat.le_refl _)).2
  have ed : (nI dd).toInt = dd := nI_toInt (by omega)
  have hlen := tt_L1440 (tt_dh g dd)
  have ek : (nI k).toInt = k := nI_toInt (by omega)
  have hll := tt_line_len g dd k
  have ej : (nI j).toInt = j := nI_toInt (by omega)
  refine lv_aload_n hx hb d_M_sign_0 rfl (lv_at hl 0 rfl) ?_
  refine lv_aload_n hx hb d_M_sign_1 rfl (lv_at hl 0 rfl) ?_
  refine lv_iload_n hx hb d_M_sign_2 rfl (lv_at hl 1 rfl) ?_
  refine lv_iload_n hx hb d_M_sign_3 rfl (lv_at hl 2 rfl) ?_
  refine tq_VW ⟨hx, hb, hml, hown, hts⟩ hT (c_M_isExtreme l D ci am g th fo sz hs mi hi tx hd (nI k)) lk_M_122 wMD_mv ⟨hK, hg, hM, hD⟩ (wM_rc hK hM) rfl hl.1 rfl (Nat.le_of_ble_eq_true rfl) d_M_sign_4 ⟨rfl, rfl, Nat.le_of_ble_eq_true rfl, Nat.le_of_ble_eq_true rfl⟩ ⟨Nat.zero_le _, Nat.zero_le _⟩ hL (fun v9 H1 locs1 hF9 hL => ?_)
  obtain ⟨rfl, fo1, hs1, mi1, hi1, hM, hH, hC, hO9⟩ := hF9
  have hO := hO.tr hO9
  obtain rfl := hC.1
  refine lv_if_eq hx hb d_M_sign_7 (tgt := 14) (by decide) (fun hyes => absurd hyes (fun z => zb_f z (by omega))) (fun _ => ?_)
  refine lv_iconst hx hb d_M_sign_10 (v := (nI 0)) rfl ?_
  refine lv_goto hx hb d_M_sign_11 (tgt := 15) (by decide) ?_
  refine tq_put (F := mF am) hx hb hts (fun w h => hT w (uM_in w h)) tM tM_ok nM hown hK (tm_one hM 0 rfl) (ci := 1) rfl 0 (by decide) (hts _ (hT _ k_M_43)) (fun _ h => h) rfl (ty := .int) rfl rfl rfl (Nat.le_of_ble_eq_true rfl) ⟨0, by decide, rfl⟩ hL d_M_sign_15 (fun H1 locs1 hP1 hz1 hq1 hL => ?_)
  have hM : tm D ci am g (nI 0) (nI (tt_L (tt_dh g dd) 1440).length) sz hs1 mi1 hi1 tx H1 := tm_set hD hM 0 (by decide) rfl hP1 (fun j hj => by rcases j with _ | _ | _ | _ | _ | _ | _ | _ | _ | _ | _ | j <;> first | rfl | exact absurd rfl hj) hq1
  have hO := hO.tr (mO.put (k := 0) (by decide) hz1 hq1)
  refine lv_aload_n hx hb d_M_sign_18 rfl (lv_at hl 0 rfl) ?_
  refine va_get hx hb hts (fun w h => hT w (uM_in w h)) hown hK hM 0 rfl rfl 0 (by decide) (hts _ (hT _ k_M_43)) (fun _ h => h) rfl d_M_sign_19 ?_
  refine lv_if_eq hx hb d_M_sign_22 (tgt := 27) (by decide) (fun _ => ?_) (fun hno => absurd (by decide) hno)
  refine lv_aload_n hx hb d_M_sign_27 rfl (lv_at hl 0 rfl) ?_
  refine lv_iload_n hx hb d_M_sign_28 rfl (lv_at hl 1 rfl) ?_
  refine lv_iload_n hx hb d_M_sign_29 rfl (lv_at hl 2 rfl) ?_
  refine tq_VW ⟨hx, hb, hml, hown, hts⟩ hT (c_M_write l D ci am g (nI 0) (nI (tt_L (tt_dh g dd) 1440).length) sz hs1 mi1 hi1 tx hd hk hH hC) lk_M_136 wMD_mv ⟨hK, hg, hM, hD⟩ (wM_rc hK hM) rfl hl.1 rfl (Nat.le_of_ble_eq_true rfl) d_M_sign_30 ⟨rfl, rfl, Nat.le_of_ble_eq_true rfl, Nat.le_of_ble_eq_true rfl⟩ ⟨Nat.zero_le _, Nat.zero_le _⟩ hL (fun v9 H1 locs1 hF9 hL => ?_)
  obtain ⟨rfl, tx1, hM, hTX, hO9⟩ := hF9
  have hO := hO.tr hO9
  refine lv_aload_n hx hb d_M_sign_33 rfl (lv_at hl 0 rfl) ?_
  refine lv_iload_n hx hb d_M_sign_34 rfl (lv_at hl 3 rfl) ?_
  refine lv_if_lt hx hb d_M_sign_35 (tgt := 46) (by decide) (fun hyes => absurd hyes (by rw [iv_lt0]; omega)) (fun _ => ?_)
  refine lv_iload_n hx hb d_M_sign_38 rfl (lv_at hl 3 rfl) ?_
  refine lv_aload_n hx hb d_M_sign_39 rfl (lv_at hl 0 rfl) ?_
  refine va_get hx hb hts (fun w h => hT w (uM_in w h)) hown hK hM 0 rfl rfl 12 (by decide) (hts _ (hT _ k_M_126)) (fun _ h => h) rfl d_M_sign_40 ?_
  refine lv_icmp_lt hx hb d_M_sign_43 (tgt := 50) (by decide) (fun _ => ?_) (fun hno => absurd (nI_lt hj (by omega)) hno)
  refine lv_iconst hx hb d_M_sign_50 (v := (nI 0)) rfl ?_
  refine tq_put (F := mF am) hx hb hts (fun w h => hT w (uM_in w h)) tM tM_ok nM hown hK (tm_one hM 0 rfl) (ci := 1) rfl 0 (by decide) (hts _ (hT _ k_M_43)) (fun _ h => h) rfl (ty := .int) rfl rfl rfl (Nat.le_of_ble_eq_true rfl) ⟨0, by decide, rfl⟩ hL d_M_sign_51 (fun H1 locs1 hP1 hz1 hq1 hL => ?_)
  have hM : tm D ci am g (nI 0) (nI (tt_L (tt_dh g dd) 1440).length) (nI (tt_line g dd k).length) hs1 mi1 hi1 tx1 H1 := tm_set hD hM 0 (by decide) rfl hP1 (fun j hj => by rcases j with _ | _ | _ | _ | _ | _ | _ | _ | _ | _ | _ | j <;> first | rfl | exact absurd rfl hj) hq1
  have hO := hO.tr (mO.put (k := 0) (by decide) hz1 hq1)
  refine lv_aload_n hx hb d_M_sign_54 rfl (lv_at hl 0 rfl) ?_
  refine va_get hx hb hts (fun w h => hT w (uM_in w h)) hown hK hM 0 rfl rfl 0 (by decide) (hts _ (hT _ k_M_43)) (fun _ h => h) rfl d_M_sign_55 ?_
  refine lv_if_ne hx hb d_M_sign_58 (tgt := 70) (by decide) (fun hyes => absurd (by decide) hyes) (fun _ => ?_)
  refine lv_aload_n hx hb d_M_sign_61 rfl (lv_at hl 0 rfl) ?_
  refine va_get hx hb hts (fun w h => hT w (uM_in w h)) hown hK hM 0 rfl rfl 13 (by decide) (hts _ (hT _ k_M_39)) (fun _ h => h) rfl d_M_sign_62 ?_
  refine lv_iload_n hx hb d_M_sign_65 rfl (lv_at hl 3 rfl) ?_
  refine tq_iald hx hb hK hM 10 0 rfl rfl (show j < 40 by omega) (by decide) d_M_sign_66 ?_
  refine tq_ti (show _ = (nI ((tt_line g dd k).getD j 0)) from hTX j hj) ?_
  refine lv_goto hx hb d_M_sign_67 (tgt := 71) (by decide) ?_
  exact W.iret hx hb hr (fun t ht hW => ⟨_, rfl, rfl, _, _, hs1, mi1, hi1, tx1, by rw [ht]; exact hM, by rw [ht]; exact hO⟩) hL d_M_sign_71
set_option maxHeartbeats 4000000 in
set_option maxRecDepth 100000 in
theorem x_M_signI2 (l : Launch) (D : va_G) (ci : Nat → ClassId) (am : Nat → Nat) (g : TS) (th fo sz : Int32) (hs mi hi tx : Nat → Int32) {dd k : Nat} (hd : dd < tt_db (tt_day g) 10) (hk : k < (tt_L (tt_dh g dd) 1440).length) (z : Int32) (hz : ¬ (0 ≤ z.toInt ∧ z.toInt < ((tt_line g dd k).length : Nat))) : Met l y_M_sign (wT y_M_sign b_M_sign 4 (some .int)) (rP 5 116) (tb (wMD D ci am g th fo sz hs mi hi tx) [.ref (am 0), .int (nI dd), .int (nI k), .int z]) (tq_Q (fun o9 H H1 => o9 = some (.int (nI 0)) ∧ ∃ fo1 sz1 hs1 mi1 hi1 tx1, tm D ci am g (nI 1) fo1 sz1 hs1 mi1 hi1 tx1 H1 ∧ mO am H H1)) 0 0 (mF am) := by
  refine Met.ofW (cc := b_M_sign) (maxL := 4) (ret := (some .int)) (by decide) rfl ?_
  intro p e s m args below meth c s₁ B hml hv
  obtain ⟨rfl, hK, hg, hM, hD⟩ := hv
  have hx := B.exec
  have hb := B.bytes
  have hr := B.returns
  have hts := atoms_spec (ws := wT y_M_sign b_M_sign 4 (some .int)) B.pre
  have hT : ∀ w ∈ TT, w ∈ wT y_M_sign b_M_sign 4 (some .int) := wT_T
  have hown : s.vm.findClass RM = some m.cls := findClass_of_methodNamed B.named
  have hlocks := B.notSynchronized
  have hl := lv_entry ([.ref (am 0), .int (nI dd), .int (nI k), .int z]) (n := 4) (Nat.le_of_ble_eq_true rfl)
  rw [lg_entry_eq]
  generalize (lg_sl ([.ref (am 0), .int (nI dd), .int (nI k), .int z]) ++ List.replicate (4 - (lg_sl ([.ref (am 0), .int (nI dd), .int (nI k), .int z])).length) Slot.unset).toArray = ls at hl ⊢
  have hl : lv_has ls 4 [(0, .ref (am 0)), (1, .int (nI dd)), (2, .int (nI k)), (3, .int z)] := hl
  have hL : ∀ q ∈ ([] : List Loc), mF am q.base := fun q hq => nomatch hq
  have hO : mO am s.heap s.heap := mO.rf
  have hdb := (tt_db_in hg.2.2.2 10 (Nat.le_refl _)).2
  have ed : (nI dd).toInt = dd := nI_toInt (by omega)
  have hlen := tt_L1440 (tt_dh g dd)
  have ek : (nI k).toInt = k := nI_toInt (by omega)
  have hll := tt_line_len g dd k
  refine lv_aload_n hx hb d_M_sign_0 rfl (lv_at hl 0 rfl) ?_
  refine lv_aload_n hx hb d_M_sign_1 rfl (lv_at hl 0 rfl) ?_
  refine lv_iload_n hx hb d_M_sign_2 rfl (lv_at hl 1 rfl) ?_
  refine lv_iload_n hx hb d_M_sign_3 rfl (lv_at hl 2 rfl) ?_
  refine tq_VW ⟨hx, hb, hml, hown, hts⟩ hT (c_M_isExtreme l D ci am g th fo sz hs mi hi tx hd (nI k)) lk_M_122 wMD_mv ⟨hK, hg, hM, hD⟩ (wM_rc hK hM) rfl hl.1 rfl (Nat.le_of_ble_eq_true rfl) d_M_sign_4 ⟨rfl, rfl, Nat.le_of_ble_eq_true rfl, Nat.le_of_ble_eq_true rfl⟩ ⟨Nat.zero_le _, Nat.zero_le _⟩ hL (fun v9 H1 locs1 hF9 hL => ?_)
  obtain ⟨rfl, fo1, hs1, mi1, hi1, hM, hH, hC, hO9⟩ := hF9
  have hO := hO.tr hO9
  obtain rfl := hC.1
  refine lv_if_eq hx hb d_M_sign_7 (tgt := 14) (by decide) (fun hyes => absurd hyes (fun z => zb_f z (by omega))) (fun _ => ?_)
  refine lv_iconst hx hb d_M_sign_10 (v := (nI 0)) rfl ?_
  refine lv_goto hx hb d_M_sign_11 (tgt := 15) (by decide) ?_
  refine tq_put (F := mF am) hx hb hts (fun w h => hT w (uM_in w h)) tM tM_ok nM hown hK (tm_one hM 0 rfl) (ci := 1) rfl 0 (by decide) (hts _ (hT _ k_M_43)) (fun _ h => h) rfl (ty := .int) rfl rfl rfl (Nat.le_of_ble_eq_true rfl) ⟨0, by decide, rfl⟩ hL d_M_sign_15 (fun H1 locs1 hP1 hz1 hq1 hL => ?_)
  have hM : tm D ci am g (nI 0) (nI (tt_L (tt_dh g dd) 1440).length) sz hs1 mi1 hi1 tx H1 := tm_set hD hM 0 (by decide) rfl hP1 (fun j hj => by rcases j with _ | _ | _ | _ | _ | _ | _ | _ | _ | _ | _ | j <;> first | rfl | exact absurd rfl hj) hq1
  have hO := hO.tr (mO.put (k := 0) (by decide) hz1 hq1)
  refine lv_aload_n hx hb d_M_sign_18 rfl (lv_at hl 0 rfl) ?_
  refine va_get hx hb hts (fun w h => hT w (uM_in w h)) hown hK hM 0 rfl rfl 0 (by decide) (hts _ (hT _ k_M_43)) (fun _ h => h) rfl d_M_sign_19 ?_
  refine lv_if_eq hx hb d_M_sign_22 (tgt := 27) (by decide) (fun _ => ?_) (fun hno => absurd (by decide) hno)
  refine lv_aload_n hx hb d_M_sign_27 rfl (lv_at hl 0 rfl) ?_
  refine lv_iload_n hx hb d_M_sign_28 rfl (lv_at hl 1 rfl) ?_
  refine lv_iload_n hx hb d_M_sign_29 rfl (lv_at hl 2 rfl) ?_
  refine tq_VW ⟨hx, hb, hml, hown, hts⟩ hT (c_M_write l D ci am g (nI 0) (nI (tt_L (tt_dh g dd) 1440).length) sz hs1 mi1 hi1 tx hd hk hH hC) lk_M_136 wMD_mv ⟨hK, hg, hM, hD⟩ (wM_rc hK hM) rfl hl.1 rfl (Nat.le_of_ble_eq_true rfl) d_M_sign_30 ⟨rfl, rfl, Nat.le_of_ble_eq_true rfl, Nat.le_of_ble_eq_true rfl⟩ ⟨Nat.zero_le _, Nat.zero_le _⟩ hL (fun v9 H1 locs1 hF9 hL => ?_)
  obtain ⟨rfl, tx1, hM, hTX, hO9⟩ := hF9
  have hO := hO.tr hO9
  refine lv_aload_n hx hb d_M_sign_33 rfl (lv_at hl 0 rfl) ?_
  refine lv_iload_n hx hb d_M_sign_34 rfl (lv_at hl 3 rfl) ?_
  refine lv_if_lt hx hb d_M_sign_35 (tgt := 46) (by decide) (fun q1 => ?_) (fun q1 => ?_)
  · have q1 := iv_lt0.mp q1
    refine lv_iconst hx hb d_M_sign_46 (v := (nI 1)) rfl ?_
    refine lv_goto hx hb d_M_sign_47 (tgt := 51) (by decide) ?_
    refine tq_put (F := mF am) hx hb hts (fun w h => hT w (uM_in w h)) tM tM_ok nM hown hK (tm_one hM 0 rfl) (ci := 1) rfl 0 (by decide) (hts _ (hT _ k_M_43)) (fun _ h => h) rfl (ty := .int) rfl rfl rfl (Nat.le_of_ble_eq_true rfl) ⟨0, by decide, rfl⟩ hL d_M_sign_51 (fun H1 locs1 hP1 hz1 hq1 hL => ?_)
    have hM : tm D ci am g (nI 1) (nI (tt_L (tt_dh g dd) 1440).length) (nI (tt_line g dd k).length) hs1 mi1 hi1 tx1 H1 := tm_set hD hM 0 (by decide) rfl hP1 (fun j hj => by rcases j with _ | _ | _ | _ | _ | _ | _ | _ | _ | _ | _ | j <;> first | rfl | exact absurd rfl hj) hq1
    have hO := hO.tr (mO.put (k := 0) (by decide) hz1 hq1)
    refine lv_aload_n hx hb d_M_sign_54 rfl (lv_at hl 0 rfl) ?_
    refine va_get hx hb hts (fun w h => hT w (uM_in w h)) hown hK hM 0 rfl rfl 0 (by decide) (hts _ (hT _ k_M_43)) (fun _ h => h) rfl d_M_sign_55 ?_
    refine lv_if_ne hx hb d_M_sign_58 (tgt := 70) (by decide) (fun _ => ?_) (fun hno => absurd hno (by decide))
    refine lv_iconst hx hb d_M_sign_70 (v := (nI 0)) rfl ?_
    exact W.iret hx hb hr (fun t ht hW => ⟨_, rfl, rfl, _, _, hs1, mi1, hi1, tx1, by rw [ht]; exact hM, by rw [ht]; exact hO⟩) hL d_M_sign_71
  · have q1 := mt iv_lt0.mpr q1
    refine lv_iload_n hx hb d_M_sign_38 rfl (lv_at hl 3 rfl) ?_
    refine lv_aload_n hx hb d_M_sign_39 rfl (lv_at hl 0 rfl) ?_
    refine va_get hx hb hts (fun w h => hT w (uM_in w h)) hown hK hM 0 rfl rfl 12 (by decide) (hts _ (hT _ k_M_126)) (fun _ h => h) rfl d_M_sign_40 ?_
    refine lv_icmp_lt hx hb d_M_sign_43 (tgt := 50) (by decide) (fun q2 => ?_) (fun q2 => ?_)
    · have q2 := Int32.lt_iff_toInt_lt.mp q2
      rw [nI_toInt (n := (tt_line g dd k).length) (by omega)] at q2
      exfalso
      omega
    · have q2 := mt Int32.lt_iff_toInt_lt.mpr q2
      rw [nI_toInt (n := (tt_line g dd k).length) (by omega)] at q2
      refine lv_iconst hx hb d_M_sign_46 (v := (nI 1)) rfl ?_
      refine lv_goto hx hb d_M_sign_47 (tgt := 51) (by decide) ?_
      refine tq_put (F := mF am) hx hb hts (fun w h => hT w (uM_in w h)) tM tM_ok nM hown hK (tm_one hM 0 rfl) (ci := 1) rfl 0 (by decide) (hts _ (hT _ k_M_43)) (fun _ h => h) rfl (ty := .int) rfl rfl rfl (Nat.le_of_ble_eq_true rfl) ⟨0, by decide, rfl⟩ hL d_M_sign_51 (fun H1 locs1 hP1 hz1 hq1 hL => ?_)
      have hM : tm D ci am g (nI 1) (nI (tt_L (tt_dh g dd) 1440).length) (nI (tt_line g dd k).length) hs1 mi1 hi1 tx1 H1 := tm_set hD hM 0 (by decide) rfl hP1 (fun j hj => by rcases j with _ | _ | _ | _ | _ | _ | _ | _ | _ | _ | _ | j <;> first | rfl | exact absurd rfl hj) hq1
      have hO := hO.tr (mO.put (k := 0) (by decide) hz1 hq1)
      refine lv_aload_n hx hb d_M_sign_54 rfl (lv_at hl 0 rfl) ?_
      refine va_get hx hb hts (fun w h => hT w (uM_in w h)) hown hK hM 0 rfl rfl 0 (by decide) (hts _ (hT _ k_M_43)) (fun _ h => h) rfl d_M_sign_55 ?_
      refine lv_if_ne hx hb d_M_sign_58 (tgt := 70) (by decide) (fun _ => ?_) (fun hno => absurd hno (by decide))
      refine lv_iconst hx hb d_M_sign_70 (v := (nI 0)) rfl ?_
      exact W.iret hx hb hr (fun t ht hW => ⟨_, rfl, rfl, _, _, hs1, mi1, hi1, tx1, by rw [ht]; exact hM, by rw [ht]; exact hO⟩) hL d_M_sign_71
