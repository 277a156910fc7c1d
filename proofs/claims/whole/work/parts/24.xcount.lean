/-! how many extremes, which. Written by wip/whole/gen.py -/
/-- what the kept extremes are worth -/
def tt_CI (g : TS) (tc td : Int32) (tn : Nat → Int32) : Prop := td = -1 ∨ ∃ d, d < tt_db (tt_day g) 10 ∧ td = nI d ∧ tt_C d (tt_L (tt_dh g d) 1440) tc tn
def wXC (D : va_G) (ci : Nat → ClassId) (ad : Nat → Nat) (g : TS) (tc td : Int32) (tn : Nat → Int32) (U : State) (H : Heap) : Prop := tk D ci U ∧ tt_ok g ∧ tx D ci ad g tc td tn H ∧ tx_D ad ∧ tt_CI g tc td tn
theorem wXC_mv {D : va_G} {ci : Nat → ClassId} {ad : Nat → Nat} {g : TS} {tc td : Int32} {tn : Nat → Int32} : tmov (wXC D ci ad g tc td tn) := fun _ _ _ hW h => ⟨tk.moved hW h.1, h.2⟩
theorem tt_L1440 (h : Nat → Int) : (tt_L h 1440).length ≤ 1439 := tt_L_len1 h 1439
set_option maxHeartbeats 4000000 in
set_option maxRecDepth 100000 in
theorem c_X_countTurns (l : Launch) (D : va_G) (ci : Nat → ClassId) (ad : Nat → Nat) (g : TS) (tc td : Int32) (tn : Nat → Int32) {dd : Nat} (hd : dd < tt_db (tt_day g) 10) : Met l y_X_countTurns (wT y_X_countTurns b_X_countTurns 2 (some .int)) (rP 4 111) (tb (wXC D ci ad g tc td tn) [.ref (ad 0), .int (nI dd)]) (tq_Q (fun o9 H H1 => o9 = some (.int (nI (tt_L (tt_dh g dd) 1440).length)) ∧ ∃ tc1 tn1, tx D ci ad g tc1 (nI dd) tn1 H1 ∧ tt_C dd (tt_L (tt_dh g dd) 1440) tc1 tn1 ∧ txO ad H H1)) 0 0 (txF ad) := by
  refine Met.ofW (cc := b_X_countTurns) (maxL := 2) (ret := (some .int)) (by decide) rfl ?_
  intro p e s m args below meth c s₁ B hml hv
  obtain ⟨rfl, hK, hg, hX, hD, hCI⟩ := hv
  have hx := B.exec
  have hb := B.bytes
  have hr := B.returns
  have hts := atoms_spec (ws := wT y_X_countTurns b_X_countTurns 2 (some .int)) B.pre
  have hT : ∀ w ∈ TT, w ∈ wT y_X_countTurns b_X_countTurns 2 (some .int) := wT_T
  have hown : s.vm.findClass RX = some m.cls := findClass_of_methodNamed B.named
  have hlocks := B.notSynchronized
  have hl := lv_entry ([.ref (ad 0), .int (nI dd)]) (n := 2) (Nat.le_of_ble_eq_true rfl)
  rw [lg_entry_eq]
  generalize (lg_sl ([.ref (ad 0), .int (nI dd)]) ++ List.replicate (2 - (lg_sl ([.ref (ad 0), .int (nI dd)])).length) Slot.unset).toArray = ls at hl ⊢
  have hl : lv_has ls 2 [(0, .ref (ad 0)), (1, .int (nI dd))] := hl
  have hL : ∀ q ∈ ([] : List Loc), txF ad q.base := fun q hq => nomatch hq
  have hO : txO ad s.heap s.heap := txO.rf
  have hdb := (tt_db_in hg.2.2.2 10 (Nat.le_refl _)).2
  refine lv_aload_n hx hb d_X_countTurns_0 rfl (lv_at hl 0 rfl) ?_
  refine va_get hx hb hts (fun w h => hT w (uX_in w h)) hown hK hX.1 0 rfl rfl 9 (by decide) (hts _ (hT _ k_X_36)) (fun _ h => h) rfl d_X_countTurns_1 ?_
  refine lv_iload_n hx hb d_X_countTurns_4 rfl (lv_at hl 1 rfl) ?_
  refine lv_icmp_eq hx hb d_X_countTurns_5 (tgt := 22) (by decide) (fun h1 => ?_) (fun h1 => ?_)
  · have hC : tt_C dd (tt_L (tt_dh g dd) 1440) tc tn := by
      rcases hCI with h | ⟨d9, h2, h3, h4⟩
      · rw [h] at h1
        have := congrArg Int32.toInt h1
        rw [nI_toInt (by omega)] at this
        exact absurd this (by have : (-1 : Int32).toInt = -1 := rfl; omega)
      · rw [h3] at h1
        obtain rfl := (nI_eq (by omega) (by omega)).mp h1
        exact h4
    subst h1
    refine lv_aload_n hx hb d_X_countTurns_22 rfl (lv_at hl 0 rfl) ?_
    refine va_get hx hb hts (fun w h => hT w (uX_in w h)) hown hK hX.1 0 rfl rfl 8 (by decide) (hts _ (hT _ k_X_196)) (fun _ h => h) rfl d_X_countTurns_23 ?_
    exact W.iret hx hb hr (fun t ht hW => ⟨_, rfl, by rw [hC.1], tc, tn, by rw [ht]; exact hX, hC, by rw [ht]; exact hO⟩) hL d_X_countTurns_26
  · refine lv_aload_n hx hb d_X_countTurns_8 rfl (lv_at hl 0 rfl) ?_
    refine lv_iload_n hx hb d_X_countTurns_9 rfl (lv_at hl 1 rfl) ?_
    refine lv_sipush hx hb d_X_countTurns_10 (v := (nI 1440)) rfl ?_
    refine lv_imul hx hb d_X_countTurns_13 ?_
    refine tq_ti (show _ = (nI (1440 * dd)) from ((pk_mul _ _).trans (by rw [Nat.mul_comm]))) ?_
    refine tq_VW ⟨hx, hb, hml, hown, hts⟩ hT (c_X_findTurns l D ci ad g tc td tn (dd := dd) (by omega)) lk_X_192 wXO_mv ⟨hK, hg, hX, hD⟩ (wXW_rc hK hX) rfl hl.1 rfl (Nat.le_of_ble_eq_true rfl) d_X_countTurns_14 ⟨rfl, rfl, Nat.le_of_ble_eq_true rfl, Nat.le_of_ble_eq_true rfl⟩ ⟨Nat.zero_le _, Nat.zero_le _⟩ hL (fun v9 H1 locs1 hF9 hL => ?_)
    obtain ⟨rfl, tc1, tn1, hX, hC, hO9⟩ := hF9
    have hO := hO.tr hO9
    refine lv_aload_n hx hb d_X_countTurns_17 rfl (lv_at hl 0 rfl) ?_
    refine lv_iload_n hx hb d_X_countTurns_18 rfl (lv_at hl 1 rfl) ?_
    refine tq_put (F := txF ad) hx hb hts (fun w h => hT w (uX_in w h)) tX tX_ok nX hown hK (tx_one hX 0 rfl) (ci := 0) rfl 9 (by decide) (hts _ (hT _ k_X_36)) (fun _ h => h) rfl (ty := .int) rfl rfl rfl (Nat.le_of_ble_eq_true rfl) ⟨0, by decide, rfl⟩ hL d_X_countTurns_19 (fun H1 locs1 hP1 hz1 hq1 hL => ?_)
    have hX : tx D ci ad g tc1 (nI dd) tn1 H1 := tx_set hD hX 0 (by decide) rfl rfl rfl hP1 (fun j hj => by rcases j with _ | _ | _ | _ | _ | _ | _ | _ | j <;> first | rfl | exact absurd rfl hj) hq1
    have hO := hO.tr (txO.put (k := 0) (by decide) hz1 hq1)
    refine lv_aload_n hx hb d_X_countTurns_22 rfl (lv_at hl 0 rfl) ?_
    refine va_get hx hb hts (fun w h => hT w (uX_in w h)) hown hK hX.1 0 rfl rfl 8 (by decide) (hts _ (hT _ k_X_196)) (fun _ h => h) rfl d_X_countTurns_23 ?_
    exact W.iret hx hb hr (fun t ht hW => ⟨_, rfl, by rw [hC.1], tc1, tn1, by rw [ht]; exact hX, hC, by rw [ht]; exact hO⟩) hL d_X_countTurns_26
set_option maxHeartbeats 4000000 in
set_option maxRecDepth 100000 in
theorem c_X_extremes (l : Launch) (D : va_G) (ci : Nat → ClassId) (ad : Nat → Nat) (g : TS) (tc td : Int32) (tn : Nat → Int32) {dd : Nat} (hd : dd < tt_db (tt_day g) 10) : Met l y_X_extremes (wT y_X_extremes b_X_extremes 2 (some .int)) (rP 5 132) (tb (wXC D ci ad g tc td tn) [.ref (ad 0), .int (nI dd)]) (tq_Q (fun o9 H H1 => o9 = some (.int (nI (tt_L (tt_dh g dd) 1440).length)) ∧ ∃ tc1 tn1, tx D ci ad g tc1 (nI dd) tn1 H1 ∧ tt_C dd (tt_L (tt_dh g dd) 1440) tc1 tn1 ∧ txO ad H H1)) 0 0 (txF ad) := by
  refine Met.ofW (cc := b_X_extremes) (maxL := 2) (ret := (some .int)) (by decide) rfl ?_
  intro p e s m args below meth c s₁ B hml hv
  obtain ⟨rfl, hK, hg, hX, hD, hCI⟩ := hv
  have hx := B.exec
  have hb := B.bytes
  have hr := B.returns
  have hts := atoms_spec (ws := wT y_X_extremes b_X_extremes 2 (some .int)) B.pre
  have hT : ∀ w ∈ TT, w ∈ wT y_X_extremes b_X_extremes 2 (some .int) := wT_T
  have hown : s.vm.findClass RX = some m.cls := findClass_of_methodNamed B.named
  have hlocks := B.notSynchronized
  have hl := lv_entry ([.ref (ad 0), .int (nI dd)]) (n := 2) (Nat.le_of_ble_eq_true rfl)
  rw [lg_entry_eq]
  generalize (lg_sl ([.ref (ad 0), .int (nI dd)]) ++ List.replicate (2 - (lg_sl ([.ref (ad 0), .int (nI dd)])).length) Slot.unset).toArray = ls at hl ⊢
  have hl : lv_has ls 2 [(0, .ref (ad 0)), (1, .int (nI dd))] := hl
  have hL : ∀ q ∈ ([] : List Loc), txF ad q.base := fun q hq => nomatch hq
  have hO : txO ad s.heap s.heap := txO.rf
  have hdb := (tt_db_in hg.2.2.2 10 (Nat.le_refl _)).2
  have ed : (nI dd).toInt = dd := nI_toInt (by omega)
  refine lv_aload_n hx hb d_X_extremes_0 rfl (lv_at hl 0 rfl) ?_
  refine lv_iload_n hx hb d_X_extremes_1 rfl (lv_at hl 1 rfl) ?_
  refine tq_V ⟨hx, hb, hml, hown, hts⟩ hT (c_X_isDay l D ci ad g tc td tn (nI dd)) lk_X_130 wX_mv ⟨hK, hg, hX⟩ (wX_rc ⟨hK, hg, hX⟩) rfl hl.1 rfl (Nat.le_of_ble_eq_true rfl) d_X_extremes_2 ⟨rfl, rfl, Nat.le_of_ble_eq_true rfl, Nat.le_of_ble_eq_true rfl⟩ ⟨Nat.zero_le _, Nat.zero_le _⟩ ?_
  refine lv_if_ne hx hb d_X_extremes_5 (tgt := 18) (by decide) (fun q1 => ?_) (fun q1 => ?_)
  · have q1 := zb_t q1
    refine lv_aload_n hx hb d_X_extremes_18 rfl (lv_at hl 0 rfl) ?_
    refine lv_iload_n hx hb d_X_extremes_19 rfl (lv_at hl 1 rfl) ?_
    refine tq_VW ⟨hx, hb, hml, hown, hts⟩ hT (c_X_countTurns l D ci ad g tc td tn hd) lk_X_135 wXC_mv ⟨hK, hg, hX, hD, hCI⟩ (wXW_rc hK hX) rfl hl.1 rfl (Nat.le_of_ble_eq_true rfl) d_X_extremes_20 ⟨rfl, rfl, Nat.le_of_ble_eq_true rfl, Nat.le_of_ble_eq_true rfl⟩ ⟨Nat.zero_le _, Nat.zero_le _⟩ hL (fun v9 H1 locs1 hF9 hL => ?_)
    obtain ⟨rfl, tc1, tn1, hX, hC, hO9⟩ := hF9
    have hO := hO.tr hO9
    exact W.iret hx hb hr (fun t ht hW => ⟨_, rfl, rfl, tc1, tn1, by rw [ht]; exact hX, hC, by rw [ht]; exact hO⟩) hL d_X_extremes_23
  · have q1 := zb_f q1
    exfalso
    omega
set_option maxHeartbeats 4000000 in
set_option maxRecDepth 100000 in
theorem x_X_extremes (l : Launch) (htr : l.stackTraces = false) (D : va_G) (ci : Nat → ClassId) (ad : Nat → Nat) (g : TS) (tc td : Int32) (tn : Nat → Int32) (v : Int32) (hv0 : ¬ (0 ≤ v.toInt ∧ v.toInt < (tt_db (tt_day g) 10 : Nat))) : vx_Met l y_X_extremes (wT y_X_extremes b_X_extremes 2 (some .int)) ({ frames := 6, cells := 1, slots := 6, locals := 82 }) (tb (wXE D ci ad g tc td tn) [.ref (ad 0), .int v]) tw_N (vx_X (fun _ : Unit => True) (fun E _ _ => E = eI) (fun _ => False)) 1 6 tq_n := by
  refine vx_ofW (cc := b_X_extremes) (maxL := 2) (ret := (some .int)) (by decide) rfl ?_
  intro p e s m args below meth c s₁ B hml hno hv
  obtain ⟨rfl, ⟨hK, hg, hX⟩, hE⟩ := hv
  have hx := B.exec
  have hb := B.bytes
  have hr := B.returns
  have hts := atoms_spec (ws := wT y_X_extremes b_X_extremes 2 (some .int)) B.pre
  have hT : ∀ w ∈ TT, w ∈ wT y_X_extremes b_X_extremes 2 (some .int) := wT_T
  have hown : s.vm.findClass RX = some m.cls := findClass_of_methodNamed B.named
  have hlocks := B.notSynchronized
  have hl := lv_entry ([.ref (ad 0), .int v]) (n := 2) (Nat.le_of_ble_eq_true rfl)
  rw [lg_entry_eq]
  generalize (lg_sl ([.ref (ad 0), .int v]) ++ List.replicate (2 - (lg_sl ([.ref (ad 0), .int v])).length) Slot.unset).toArray = ls at hl ⊢
  have hl : lv_has ls 2 [(0, .ref (ad 0)), (1, .int v)] := hl
  refine lv_aload_n hx hb d_X_extremes_0 rfl (lv_at hl 0 rfl) ?_
  refine lv_iload_n hx hb d_X_extremes_1 rfl (lv_at hl 1 rfl) ?_
  refine tq_V ⟨hx, hb, hml, hown, hts⟩ hT (c_X_isDay l D ci ad g tc td tn v) lk_X_130 wX_mv ⟨hK, hg, hX⟩ (wX_rc ⟨hK, hg, hX⟩) rfl hl.1 rfl (Nat.le_of_ble_eq_true rfl) d_X_extremes_2 ⟨rfl, rfl, Nat.le_of_ble_eq_true rfl, Nat.le_of_ble_eq_true rfl⟩ ⟨Nat.zero_le _, Nat.zero_le _⟩ ?_
  refine lv_if_ne hx hb d_X_extremes_5 (tgt := 18) (by decide) (fun q1 => ?_) (fun q1 => ?_)
  · have q1 := zb_t q1
    exfalso
    omega
  · have q1 := zb_f q1
    exact tw_I hx hb htr hown (fun w h => hts w (hT w h)) hE (fun _ _ _ h => h) (is := 133) (text := "no such day") (by decide) va_S.rf (hl.1.trans hml.symm) d_X_extremes_8 d_X_extremes_11 d_X_extremes_12 d_X_extremes_14 d_X_extremes_17 hno ⟨by decide, by decide, by decide, by decide⟩ hlocks (fun t ha h1 h2 => ⟨(), trivial, rfl, h1, fun q hq _ => h2 q hq⟩) (fun z hz => nomatch hz) (Nat.le_refl _) (Nat.le_refl _)
set_option maxHeartbeats 4000000 in
set_option maxRecDepth 100000 in
theorem c_X_isExtreme (l : Launch) (D : va_G) (ci : Nat → ClassId) (ad : Nat → Nat) (g : TS) (tc td : Int32) (tn : Nat → Int32) {dd : Nat} (hd : dd < tt_db (tt_day g) 10) (v : Int32) (hv : 0 ≤ v.toInt) : Met l y_X_isExtreme (wT y_X_isExtreme b_X_isExtreme 3 (some .boolean)) (rP 5 132) (tb (wXC D ci ad g tc td tn) [.ref (ad 0), .int (nI dd), .int v]) (tq_Q (fun o9 H H1 => o9 = some (.int (zb (v.toInt < ((tt_L (tt_dh g dd) 1440).length : Nat)))) ∧ ∃ tc1 tn1, tx D ci ad g tc1 (nI dd) tn1 H1 ∧ tt_C dd (tt_L (tt_dh g dd) 1440) tc1 tn1 ∧ txO ad H H1)) 0 0 (txF ad) := by
  refine Met.ofW (cc := b_X_isExtreme) (maxL := 3) (ret := (some .boolean)) (by decide) rfl ?_
  intro p e s m args below meth c s₁ B hml hv
  obtain ⟨rfl, hK, hg, hX, hD, hCI⟩ := hv
  have hx := B.exec
  have hb := B.bytes
  have hr := B.returns
  have hts := atoms_spec (ws := wT y_X_isExtreme b_X_isExtreme 3 (some .boolean)) B.pre
  have hT : ∀ w ∈ TT, w ∈ wT y_X_isExtreme b_X_isExtreme 3 (some .boolean) := wT_T
  have hown : s.vm.findClass RX = some m.cls := findClass_of_methodNamed B.named
  have hlocks := B.notSynchronized
  have hl := lv_entry ([.ref (ad 0), .int (nI dd), .int v]) (n := 3) (Nat.le_of_ble_eq_true rfl)
  rw [lg_entry_eq]
  generalize (lg_sl ([.ref (ad 0), .int (nI dd), .int v]) ++ List.replicate (3 - (lg_sl ([.ref (ad 0), .int (nI dd), .int v])).length) Slot.unset).toArray = ls at hl ⊢
  have hl : lv_has ls 3 [(0, .ref (ad 0)), (1, .int (nI dd)), (2, .int v)] := hl
  have hL : ∀ q ∈ ([] : List Loc), txF ad q.base := fun q hq => nomatch hq
  have hO : txO ad s.heap s.heap := txO.rf
  have hdb := (tt_db_in hg.2.2.2 10 (Nat.le_refl _)).2
  have ed : (nI dd).toInt = dd := nI_toInt (by omega)
  have hlen := tt_L1440 (tt_dh g dd)
  refine lv_aload_n hx hb d_X_isExtreme_0 rfl (lv_at hl 0 rfl) ?_
  refine lv_iload_n hx hb d_X_isExtreme_1 rfl (lv_at hl 1 rfl) ?_
  refine tq_V ⟨hx, hb, hml, hown, hts⟩ hT (c_X_isDay l D ci ad g tc td tn (nI dd)) lk_X_130 wX_mv ⟨hK, hg, hX⟩ (wX_rc ⟨hK, hg, hX⟩) rfl hl.1 rfl (Nat.le_of_ble_eq_true rfl) d_X_isExtreme_2 ⟨rfl, rfl, Nat.le_of_ble_eq_true rfl, Nat.le_of_ble_eq_true rfl⟩ ⟨Nat.zero_le _, Nat.zero_le _⟩ ?_
  refine lv_if_eq hx hb d_X_isExtreme_5 (tgt := 25) (by decide) (fun q1 => ?_) (fun q1 => ?_)
  · have q1 := zb_f q1
    refine lv_iconst hx hb d_X_isExtreme_25 (v := (nI 0)) rfl ?_
    first | (exfalso; omega) | exact W.zret hx hb hr narrow_b0 (fun t ht hW => ⟨_, rfl, zb_0 (by omega), tc1, tn1, by rw [ht]; exact hX, hC, by rw [ht]; exact hO⟩) hL d_X_isExtreme_26
  · have q1 := zb_t q1
    refine lv_iload_n hx hb d_X_isExtreme_8 rfl (lv_at hl 2 rfl) ?_
    refine lv_if_lt hx hb d_X_isExtreme_9 (tgt := 25) (by decide) (fun q2 => ?_) (fun q2 => ?_)
    · have q2 := iv_lt0.mp q2
      refine lv_iconst hx hb d_X_isExtreme_25 (v := (nI 0)) rfl ?_
      first | (exfalso; omega) | exact W.zret hx hb hr narrow_b0 (fun t ht hW => ⟨_, rfl, zb_0 (by omega), tc1, tn1, by rw [ht]; exact hX, hC, by rw [ht]; exact hO⟩) hL d_X_isExtreme_26
    · have q2 := mt iv_lt0.mpr q2
      refine lv_iload_n hx hb d_X_isExtreme_12 rfl (lv_at hl 2 rfl) ?_
      refine lv_aload_n hx hb d_X_isExtreme_13 rfl (lv_at hl 0 rfl) ?_
      refine lv_iload_n hx hb d_X_isExtreme_14 rfl (lv_at hl 1 rfl) ?_
      refine tq_VW ⟨hx, hb, hml, hown, hts⟩ hT (c_X_countTurns l D ci ad g tc td tn hd) lk_X_135 wXC_mv ⟨hK, hg, hX, hD, hCI⟩ (wXW_rc hK hX) rfl hl.1 rfl (Nat.le_of_ble_eq_true rfl) d_X_isExtreme_15 ⟨rfl, rfl, Nat.le_of_ble_eq_true rfl, Nat.le_of_ble_eq_true rfl⟩ ⟨Nat.zero_le _, Nat.zero_le _⟩ hL (fun v9 H1 locs1 hF9 hL => ?_)
      obtain ⟨rfl, tc1, tn1, hX, hC, hO9⟩ := hF9
      have hO := hO.tr hO9
      refine lv_icmp_ge hx hb d_X_isExtreme_18 (tgt := 25) (by decide) (fun q3 => ?_) (fun q3 => ?_)
      · have q3 := Int32.le_iff_toInt_le.mp q3
        rw [nI_toInt (n := (tt_L (tt_dh g dd) 1440).length) (by omega)] at q3
        refine lv_iconst hx hb d_X_isExtreme_25 (v := (nI 0)) rfl ?_
        first | (exfalso; omega) | exact W.zret hx hb hr narrow_b0 (fun t ht hW => ⟨_, rfl, zb_0 (by omega), tc1, tn1, by rw [ht]; exact hX, hC, by rw [ht]; exact hO⟩) hL d_X_isExtreme_26
      · have q3 := mt Int32.le_iff_toInt_le.mpr q3
        rw [nI_toInt (n := (tt_L (tt_dh g dd) 1440).length) (by omega)] at q3
        refine lv_iconst hx hb d_X_isExtreme_21 (v := (nI 1)) rfl ?_
        refine lv_goto hx hb d_X_isExtreme_22 (tgt := 26) (by decide) ?_
        exact W.zret hx hb hr narrow_b1 (fun t ht hW => ⟨_, rfl, zb_1 (by omega), tc1, tn1, by rw [ht]; exact hX, hC, by rw [ht]; exact hO⟩) hL d_X_isExtreme_26
set_option maxHeartbeats 4000000 in
set_option maxRecDepth 100000 in
theorem c_X_isExtreme0 (l : Launch) (D : va_G) (ci : Nat → ClassId) (ad : Nat → Nat) (g : TS) (tc td : Int32) (tn : Nat → Int32) (u v : Int32) (hv : ¬ ((0 ≤ u.toInt ∧ u.toInt < (tt_db (tt_day g) 10 : Nat)) ∧ 0 ≤ v.toInt)) : Met l y_X_isExtreme (wT y_X_isExtreme b_X_isExtreme 3 (some .boolean)) (rP 1 21) (tb (wX D ci ad g tc td tn) [.ref (ad 0), .int u, .int v]) (tq_P (some (.int 0))) 0 0 tq_n := by
  refine Met.ofW (cc := b_X_isExtreme) (maxL := 3) (ret := (some .boolean)) (by decide) rfl ?_
  intro p e s m args below meth c s₁ B hml hv
  obtain ⟨rfl, hK, hg, hX⟩ := hv
  have hx := B.exec
  have hb := B.bytes
  have hr := B.returns
  have hts := atoms_spec (ws := wT y_X_isExtreme b_X_isExtreme 3 (some .boolean)) B.pre
  have hT : ∀ w ∈ TT, w ∈ wT y_X_isExtreme b_X_isExtreme 3 (some .boolean) := wT_T
  have hown : s.vm.findClass RX = some m.cls := findClass_of_methodNamed B.named
  have hlocks := B.notSynchronized
  have hl := lv_entry ([.ref (ad 0), .int u, .int v]) (n := 3) (Nat.le_of_ble_eq_true rfl)
  rw [lg_entry_eq]
  generalize (lg_sl ([.ref (ad 0), .int u, .int v]) ++ List.replicate (3 - (lg_sl ([.ref (ad 0), .int u, .int v])).length) Slot.unset).toArray = ls at hl ⊢
  have hl : lv_has ls 3 [(0, .ref (ad 0)), (1, .int u), (2, .int v)] := hl
  refine lv_aload_n hx hb d_X_isExtreme_0 rfl (lv_at hl 0 rfl) ?_
  refine lv_iload_n hx hb d_X_isExtreme_1 rfl (lv_at hl 1 rfl) ?_
  refine tq_V ⟨hx, hb, hml, hown, hts⟩ hT (c_X_isDay l D ci ad g tc td tn u) lk_X_130 wX_mv ⟨hK, hg, hX⟩ (wX_rc ⟨hK, hg, hX⟩) rfl hl.1 rfl (Nat.le_of_ble_eq_true rfl) d_X_isExtreme_2 ⟨rfl, rfl, Nat.le_of_ble_eq_true rfl, Nat.le_of_ble_eq_true rfl⟩ ⟨Nat.zero_le _, Nat.zero_le _⟩ ?_
  refine lv_if_eq hx hb d_X_isExtreme_5 (tgt := 25) (by decide) (fun q1 => ?_) (fun q1 => ?_)
  · have q1 := zb_f q1
    refine lv_iconst hx hb d_X_isExtreme_25 (v := (nI 0)) rfl ?_
    exact W.zret hx hb hr narrow_b0 (fun t ht hW => ⟨_, rfl, ⟨rfl, ht⟩⟩) (fun q hq => nomatch hq) d_X_isExtreme_26
  · have q1 := zb_t q1
    refine lv_iload_n hx hb d_X_isExtreme_8 rfl (lv_at hl 2 rfl) ?_
    refine lv_if_lt hx hb d_X_isExtreme_9 (tgt := 25) (by decide) (fun q2 => ?_) (fun q2 => ?_)
    · have q2 := iv_lt0.mp q2
      refine lv_iconst hx hb d_X_isExtreme_25 (v := (nI 0)) rfl ?_
      exact W.zret hx hb hr narrow_b0 (fun t ht hW => ⟨_, rfl, ⟨rfl, ht⟩⟩) (fun q hq => nomatch hq) d_X_isExtreme_26
    · have q2 := mt iv_lt0.mpr q2
      exfalso
      omega
set_option maxHeartbeats 4000000 in
set_option maxRecDepth 100000 in
theorem c_X_isHigh (l : Launch) (D : va_G) (ci : Nat → ClassId) (ad : Nat → Nat) (g : TS) (tc td : Int32) (tn : Nat → Int32) {mm : Nat} (h0 : 1 ≤ mm) (hmm : mm < 2147483648) : Met l y_X_isHigh (wT y_X_isHigh b_X_isHigh 2 (some .boolean)) (rP 3 84) (tb (wX D ci ad g tc td tn) [.ref (ad 0), .int (nI mm)]) (tq_P (some (.int (zb (tt_hgt g (mm - 1) < tt_hgt g mm))))) 0 0 tq_n := by
  refine Met.ofW (cc := b_X_isHigh) (maxL := 2) (ret := (some .boolean)) (by decide) rfl ?_
  intro p e s m args below meth c s₁ B hml hv
  obtain ⟨rfl, hK, hg, hX⟩ := hv
  have hx := B.exec
  have hb := B.bytes
  have hr := B.returns
  have hts := atoms_spec (ws := wT y_X_isHigh b_X_isHigh 2 (some .boolean)) B.pre
  have hT : ∀ w ∈ TT, w ∈ wT y_X_isHigh b_X_isHigh 2 (some .boolean) := wT_T
  have hown : s.vm.findClass RX = some m.cls := findClass_of_methodNamed B.named
  have hlocks := B.notSynchronized
  have hl := lv_entry ([.ref (ad 0), .int (nI mm)]) (n := 2) (Nat.le_of_ble_eq_true rfl)
  rw [lg_entry_eq]
  generalize (lg_sl ([.ref (ad 0), .int (nI mm)]) ++ List.replicate (2 - (lg_sl ([.ref (ad 0), .int (nI mm)])).length) Slot.unset).toArray = ls at hl ⊢
  have hl : lv_has ls 2 [(0, .ref (ad 0)), (1, .int (nI mm))] := hl
  have h1 := tt_hgt_in hg (mm - 1)
  have h2 := tt_hgt_in hg mm
  refine lv_aload_n hx hb d_X_isHigh_0 rfl (lv_at hl 0 rfl) ?_
  refine lv_iload_n hx hb d_X_isHigh_1 rfl (lv_at hl 1 rfl) ?_
  refine lv_iconst hx hb d_X_isHigh_2 (v := (nI 1)) rfl ?_
  refine lv_isub hx hb d_X_isHigh_3 ?_
  refine tq_ti (show _ = (nI (mm - 1)) from pk_sub h0) ?_
  refine tq_V ⟨hx, hb, hml, hown, hts⟩ hT (c_X_heightAt l D ci ad g tc td tn (mm := mm - 1) (by omega)) lk_X_119 wX_mv ⟨hK, hg, hX⟩ (wX_rc ⟨hK, hg, hX⟩) rfl hl.1 rfl (Nat.le_of_ble_eq_true rfl) d_X_isHigh_4 ⟨rfl, rfl, Nat.le_of_ble_eq_true rfl, Nat.le_of_ble_eq_true rfl⟩ ⟨Nat.zero_le _, Nat.zero_le _⟩ ?_
  refine lv_aload_n hx hb d_X_isHigh_7 rfl (lv_at hl 0 rfl) ?_
  refine lv_iload_n hx hb d_X_isHigh_8 rfl (lv_at hl 1 rfl) ?_
  refine tq_V ⟨hx, hb, hml, hown, hts⟩ hT (c_X_heightAt l D ci ad g tc td tn (mm := mm) hmm) lk_X_119 wX_mv ⟨hK, hg, hX⟩ (wX_rc ⟨hK, hg, hX⟩) rfl hl.1 rfl (Nat.le_of_ble_eq_true rfl) d_X_isHigh_9 ⟨rfl, rfl, Nat.le_of_ble_eq_true rfl, Nat.le_of_ble_eq_true rfl⟩ ⟨Nat.zero_le _, Nat.zero_le _⟩ ?_
  refine lv_icmp_ge hx hb d_X_isHigh_12 (tgt := 19) (by decide) (fun h3 => ?_) (fun h3 => ?_)
  · have h3 := (iZ_le (by omega) (by omega) (by omega) (by omega)).mp h3
    refine lv_iconst hx hb d_X_isHigh_19 (v := (nI 0)) rfl ?_
    exact W.zret hx hb hr narrow_b0 (fun t ht hW => ⟨_, rfl, ⟨zb_0 (by omega), ht⟩⟩) (fun q hq => nomatch hq) d_X_isHigh_20
  · have h3 := mt (iZ_le (by omega) (by omega) (by omega) (by omega)).mpr h3
    refine lv_iconst hx hb d_X_isHigh_15 (v := (nI 1)) rfl ?_
    refine lv_goto hx hb d_X_isHigh_16 (tgt := 20) (by decide) ?_
    exact W.zret hx hb hr narrow_b1 (fun t ht hW => ⟨_, rfl, ⟨zb_1 (by omega), ht⟩⟩) (fun q hq => nomatch hq) d_X_isHigh_20
