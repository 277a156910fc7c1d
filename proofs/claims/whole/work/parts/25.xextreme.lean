/-! extreme. Written by wip/whole/gen.py -/
theorem tx_cell {D : va_G} {ci : Nat → ClassId} {ad : Nat → Nat} {g : TS} {tc td : Int32} {tn : Nat → Int32} {H : Heap} (h : tx D ci ad g tc td tn H) {k : Nat} (hk : k < 24) : ∃ cell : Cell, H[ad k]? = some cell ∧ cell.vm = .none := by
  by_cases h8 : k < 8
  · match k, h8 with
    | 0, _ => obtain ⟨r, h1, cell, q1, q2, q3, -⟩ := h.1 0 _ rfl; exact ⟨cell, q1, q3⟩
    | 1, _ => exact ⟨_, h.1 1 _ rfl, rfl⟩
    | 2, _ => exact ⟨_, h.1 2 _ rfl, rfl⟩
    | 3, _ => exact ⟨_, h.1 3 _ rfl, rfl⟩
    | 4, _ => exact ⟨_, h.1 4 _ rfl, rfl⟩
    | 5, _ => exact ⟨_, h.1 5 _ rfl, rfl⟩
    | 6, _ => exact ⟨_, h.1 6 _ rfl, rfl⟩
    | 7, _ => exact ⟨_, h.1 7 _ rfl, rfl⟩
  · by_cases h16 : k < 16
    · obtain ⟨i, rfl⟩ : ∃ i, k = 8 + i := ⟨k - 8, by omega⟩
      exact ⟨_, h.2.1 i (by omega) 0 _ rfl, rfl⟩
    · obtain ⟨i, rfl⟩ : ∃ i, k = 16 + i := ⟨k - 16, by omega⟩
      exact ⟨_, h.2.2 i (by omega) 0 _ rfl, rfl⟩
theorem tx_lt {D : va_G} {ci : Nat → ClassId} {ad : Nat → Nat} {g : TS} {tc td : Int32} {tn : Nat → Int32} {H : Heap} (h : tx D ci ad g tc td tn H) {k : Nat} (hk : k < 24) : ad k < H.size := by
  obtain ⟨cell, h1, -⟩ := tx_cell h hk
  exact (Array.getElem?_eq_some_iff.mp h1).1
theorem tx_nst {D : va_G} {ci : Nat → ClassId} {ad : Nat → Nat} {g : TS} {tc td : Int32} {tn : Nat → Int32} {H : Heap} (h : tx D ci ad g tc td tn H) {a : Nat} {cell : Cell} (h1 : H[a]? = some cell) (h2 : cell.vm.isStatics = true) : ¬ txF ad a := by
  rintro ⟨k, hk, rfl⟩
  obtain ⟨c2, q1, q2⟩ := tx_cell h hk
  rw [h1] at q1
  cases q1
  rw [q2] at h2
  cases h2
def wXCE (D : va_G) (ci : Nat → ClassId) (ad : Nat → Nat) (g : TS) (tc td : Int32) (tn : Nat → Int32) (U : State) (H : Heap) : Prop := wXC D ci ad g tc td tn U H ∧ wE U H
theorem wXCE_mv {D : va_G} {ci : Nat → ClassId} {ad : Nat → Nat} {g : TS} {tc td : Int32} {tn : Nat → Int32} : tmov (wXCE D ci ad g tc td tn) := fun _ _ _ hW h => ⟨wXC_mv _ _ _ hW h.1, wE_mv _ _ _ hW h.2⟩
set_option maxHeartbeats 4000000 in
set_option maxRecDepth 100000 in
theorem c_X_extreme0 (l : Launch) (D : va_G) (ci : Nat → ClassId) (ad : Nat → Nat) (g : TS) (tc td : Int32) (tn : Nat → Int32) {dd k : Nat} (hd : dd < tt_db (tt_day g) 10) (hk : k < (tt_L (tt_dh g dd) 1440).length) : Met l y_X_extreme (wT y_X_extreme b_X_extreme 5 (some .int)) (rP 6 154) (tb (wXC D ci ad g tc td tn) [.ref (ad 0), .int (nI dd), .int (nI k), .int (nI 0)]) (tq_Q (fun o9 H H1 => o9 = some (.int (nI (1440 * dd + (tt_L (tt_dh g dd) 1440).getD k 0))) ∧ ∃ tc1 tn1, tx D ci ad g tc1 (nI dd) tn1 H1 ∧ tt_C dd (tt_L (tt_dh g dd) 1440) tc1 tn1 ∧ txO ad H H1)) 0 0 (txF ad) := by
  refine Met.ofW (cc := b_X_extreme) (maxL := 5) (ret := (some .int)) (by decide) rfl ?_
  intro p e s m args below meth c s₁ B hml hv
  obtain ⟨rfl, hK, hg, hX, hD, hCI⟩ := hv
  have hx := B.exec
  have hb := B.bytes
  have hr := B.returns
  have hts := atoms_spec (ws := wT y_X_extreme b_X_extreme 5 (some .int)) B.pre
  have hT : ∀ w ∈ TT, w ∈ wT y_X_extreme b_X_extreme 5 (some .int) := wT_T
  have hown : s.vm.findClass RX = some m.cls := findClass_of_methodNamed B.named
  have hlocks := B.notSynchronized
  have hl := lv_entry ([.ref (ad 0), .int (nI dd), .int (nI k), .int (nI 0)]) (n := 5) (Nat.le_of_ble_eq_true rfl)
  rw [lg_entry_eq]
  generalize (lg_sl ([.ref (ad 0), .int (nI dd), .int (nI k), .int (nI 0)]) ++ List.replicate (5 - (lg_sl ([.ref (ad 0), .int (nI dd), .int (nI k), .int (nI 0)])).length) Slot.unset).toArray = ls at hl ⊢
  have hl : lv_has ls 5 [(0, .ref (ad 0)), (1, .int (nI dd)), (2, .int (nI k)), (3, .int (nI 0))] := hl
  have hL : ∀ q ∈ ([] : List Loc), txF ad q.base := fun q hq => nomatch hq
  have hO : txO ad s.heap s.heap := txO.rf
  have hdb := (tt_db_in hg.2.2.2 10 (Nat.le_refl _)).2
  have hlen := tt_L1440 (tt_dh g dd)
  have hLk := tt_L_get hk
  have hTk := tt_T_kind hLk.2
  have ek : (nI k).toInt = k := nI_toInt (by omega)
  refine lv_aload_n hx hb d_X_extreme_0 rfl (lv_at hl 0 rfl) ?_
  refine lv_iload_n hx hb d_X_extreme_1 rfl (lv_at hl 1 rfl) ?_
  refine lv_iload_n hx hb d_X_extreme_2 rfl (lv_at hl 2 rfl) ?_
  refine tq_VW ⟨hx, hb, hml, hown, hts⟩ hT (c_X_isExtreme l D ci ad g tc td tn hd (nI k) (by omega)) lk_X_138 wXC_mv ⟨hK, hg, hX, hD, hCI⟩ (wXW_rc hK hX) rfl hl.1 rfl (Nat.le_of_ble_eq_true rfl) d_X_extreme_3 ⟨rfl, rfl, Nat.le_of_ble_eq_true rfl, Nat.le_of_ble_eq_true rfl⟩ ⟨Nat.zero_le _, Nat.zero_le _⟩ hL (fun v9 H1 locs1 hF9 hL => ?_)
  obtain ⟨rfl, tc1, tn1, hX, hC, hO9⟩ := hF9
  have hO := hO.tr hO9
  refine lv_if_ne hx hb d_X_extreme_6 (tgt := 19) (by decide) (fun _ => ?_) (fun hno => absurd hno (fun z => zb_f z (by omega)))
  refine lv_aload_n hx hb d_X_extreme_19 rfl (lv_at hl 0 rfl) ?_
  refine va_get hx hb hts (fun w h => hT w (uX_in w h)) hown hK hX.1 0 rfl rfl 7 (by decide) (hts _ (hT _ k_X_33)) (fun _ h => h) rfl d_X_extreme_20 ?_
  refine lv_iload_n hx hb d_X_extreme_23 rfl (lv_at hl 2 rfl) ?_
  refine tq_iald hx hb hK hX.1 7 0 rfl rfl (show k < 1440 by omega) (by decide) d_X_extreme_24 ?_
  refine tq_ti (show _ = (nI (1440 * dd + (tt_L (tt_dh g dd) 1440).getD k 0)) from hC.2 k hk) ?_
  refine lv_istore hx hb d_X_extreme_25 hl (by decide) (lv' := [(4, .int (nI (1440 * dd + (tt_L (tt_dh g dd) 1440).getD k 0))), (0, .ref (ad 0)), (1, .int (nI dd)), (2, .int (nI k)), (3, .int (nI 0))]) rfl (fun ls hl => ?_)
  refine lv_iload_n hx hb d_X_extreme_27 rfl (lv_at hl 4 rfl) ?_
  refine lv_tableIn hx hb d_X_extreme_28 (by decide) (by decide) (off := 28) (by decide) (tgt := 56) (by decide) ?_
  refine lv_iload hx hb d_X_extreme_56 (lv_at hl 0 rfl) ?_
  exact W.iret hx hb hr (fun t ht hW => ⟨_, rfl, rfl, tc1, tn1, by rw [ht]; exact hX, hC, by rw [ht]; exact hO⟩) hL d_X_extreme_58
set_option maxHeartbeats 4000000 in
set_option maxRecDepth 100000 in
theorem c_X_extreme1 (l : Launch) (D : va_G) (ci : Nat → ClassId) (ad : Nat → Nat) (g : TS) (tc td : Int32) (tn : Nat → Int32) {dd k : Nat} (hd : dd < tt_db (tt_day g) 10) (hk : k < (tt_L (tt_dh g dd) 1440).length) : Met l y_X_extreme (wT y_X_extreme b_X_extreme 5 (some .int)) (rP 6 154) (tb (wXC D ci ad g tc td tn) [.ref (ad 0), .int (nI dd), .int (nI k), .int (nI 1)]) (tq_Q (fun o9 H H1 => o9 = some (.int (iZ (tt_hgt g (1440 * dd + (tt_L (tt_dh g dd) 1440).getD k 0)))) ∧ ∃ tc1 tn1, tx D ci ad g tc1 (nI dd) tn1 H1 ∧ tt_C dd (tt_L (tt_dh g dd) 1440) tc1 tn1 ∧ txO ad H H1)) 0 0 (txF ad) := by
  refine Met.ofW (cc := b_X_extreme) (maxL := 5) (ret := (some .int)) (by decide) rfl ?_
  intro p e s m args below meth c s₁ B hml hv
  obtain ⟨rfl, hK, hg, hX, hD, hCI⟩ := hv
  have hx := B.exec
  have hb := B.bytes
  have hr := B.returns
  have hts := atoms_spec (ws := wT y_X_extreme b_X_extreme 5 (some .int)) B.pre
  have hT : ∀ w ∈ TT, w ∈ wT y_X_extreme b_X_extreme 5 (some .int) := wT_T
  have hown : s.vm.findClass RX = some m.cls := findClass_of_methodNamed B.named
  have hlocks := B.notSynchronized
  have hl := lv_entry ([.ref (ad 0), .int (nI dd), .int (nI k), .int (nI 1)]) (n := 5) (Nat.le_of_ble_eq_true rfl)
  rw [lg_entry_eq]
  generalize (lg_sl ([.ref (ad 0), .int (nI dd), .int (nI k), .int (nI 1)]) ++ List.replicate (5 - (lg_sl ([.ref (ad 0), .int (nI dd), .int (nI k), .int (nI 1)])).length) Slot.unset).toArray = ls at hl ⊢
  have hl : lv_has ls 5 [(0, .ref (ad 0)), (1, .int (nI dd)), (2, .int (nI k)), (3, .int (nI 1))] := hl
  have hL : ∀ q ∈ ([] : List Loc), txF ad q.base := fun q hq => nomatch hq
  have hO : txO ad s.heap s.heap := txO.rf
  have hdb := (tt_db_in hg.2.2.2 10 (Nat.le_refl _)).2
  have hlen := tt_L1440 (tt_dh g dd)
  have hLk := tt_L_get hk
  have hTk := tt_T_kind hLk.2
  have ek : (nI k).toInt = k := nI_toInt (by omega)
  refine lv_aload_n hx hb d_X_extreme_0 rfl (lv_at hl 0 rfl) ?_
  refine lv_iload_n hx hb d_X_extreme_1 rfl (lv_at hl 1 rfl) ?_
  refine lv_iload_n hx hb d_X_extreme_2 rfl (lv_at hl 2 rfl) ?_
  refine tq_VW ⟨hx, hb, hml, hown, hts⟩ hT (c_X_isExtreme l D ci ad g tc td tn hd (nI k) (by omega)) lk_X_138 wXC_mv ⟨hK, hg, hX, hD, hCI⟩ (wXW_rc hK hX) rfl hl.1 rfl (Nat.le_of_ble_eq_true rfl) d_X_extreme_3 ⟨rfl, rfl, Nat.le_of_ble_eq_true rfl, Nat.le_of_ble_eq_true rfl⟩ ⟨Nat.zero_le _, Nat.zero_le _⟩ hL (fun v9 H1 locs1 hF9 hL => ?_)
  obtain ⟨rfl, tc1, tn1, hX, hC, hO9⟩ := hF9
  have hO := hO.tr hO9
  refine lv_if_ne hx hb d_X_extreme_6 (tgt := 19) (by decide) (fun _ => ?_) (fun hno => absurd hno (fun z => zb_f z (by omega)))
  refine lv_aload_n hx hb d_X_extreme_19 rfl (lv_at hl 0 rfl) ?_
  refine va_get hx hb hts (fun w h => hT w (uX_in w h)) hown hK hX.1 0 rfl rfl 7 (by decide) (hts _ (hT _ k_X_33)) (fun _ h => h) rfl d_X_extreme_20 ?_
  refine lv_iload_n hx hb d_X_extreme_23 rfl (lv_at hl 2 rfl) ?_
  refine tq_iald hx hb hK hX.1 7 0 rfl rfl (show k < 1440 by omega) (by decide) d_X_extreme_24 ?_
  refine tq_ti (show _ = (nI (1440 * dd + (tt_L (tt_dh g dd) 1440).getD k 0)) from hC.2 k hk) ?_
  refine lv_istore hx hb d_X_extreme_25 hl (by decide) (lv' := [(4, .int (nI (1440 * dd + (tt_L (tt_dh g dd) 1440).getD k 0))), (0, .ref (ad 0)), (1, .int (nI dd)), (2, .int (nI k)), (3, .int (nI 1))]) rfl (fun ls hl => ?_)
  refine lv_iload_n hx hb d_X_extreme_27 rfl (lv_at hl 4 rfl) ?_
  refine lv_tableIn hx hb d_X_extreme_28 (by decide) (by decide) (off := 31) (by decide) (tgt := 59) (by decide) ?_
  refine lv_aload_n hx hb d_X_extreme_59 rfl (lv_at hl 1 rfl) ?_
  refine lv_iload hx hb d_X_extreme_60 (lv_at hl 0 rfl) ?_
  refine tq_V ⟨hx, hb, hml, hown, hts⟩ hT (c_X_heightAt l D ci ad g tc1 (nI dd) tn1 (mm := (1440 * dd + (tt_L (tt_dh g dd) 1440).getD k 0)) (by omega)) lk_X_119 wX_mv ⟨hK, hg, hX⟩ (wX_rc ⟨hK, hg, hX⟩) rfl hl.1 rfl (Nat.le_of_ble_eq_true rfl) d_X_extreme_62 ⟨rfl, rfl, Nat.le_of_ble_eq_true rfl, Nat.le_of_ble_eq_true rfl⟩ ⟨Nat.zero_le _, Nat.zero_le _⟩ ?_
  exact W.iret hx hb hr (fun t ht hW => ⟨_, rfl, rfl, tc1, tn1, by rw [ht]; exact hX, hC, by rw [ht]; exact hO⟩) hL d_X_extreme_65
set_option maxHeartbeats 4000000 in
set_option maxRecDepth 100000 in
theorem c_X_extreme2 (l : Launch) (D : va_G) (ci : Nat → ClassId) (ad : Nat → Nat) (g : TS) (tc td : Int32) (tn : Nat → Int32) {dd k : Nat} (hd : dd < tt_db (tt_day g) 10) (hk : k < (tt_L (tt_dh g dd) 1440).length) : Met l y_X_extreme (wT y_X_extreme b_X_extreme 5 (some .int)) (rP 6 154) (tb (wXC D ci ad g tc td tn) [.ref (ad 0), .int (nI dd), .int (nI k), .int (nI 2)]) (tq_Q (fun o9 H H1 => o9 = some (.int (zb (tt_hgt g ((1440 * dd + (tt_L (tt_dh g dd) 1440).getD k 0) - 1) < tt_hgt g (1440 * dd + (tt_L (tt_dh g dd) 1440).getD k 0)))) ∧ ∃ tc1 tn1, tx D ci ad g tc1 (nI dd) tn1 H1 ∧ tt_C dd (tt_L (tt_dh g dd) 1440) tc1 tn1 ∧ txO ad H H1)) 0 0 (txF ad) := by
  refine Met.ofW (cc := b_X_extreme) (maxL := 5) (ret := (some .int)) (by decide) rfl ?_
  intro p e s m args below meth c s₁ B hml hv
  obtain ⟨rfl, hK, hg, hX, hD, hCI⟩ := hv
  have hx := B.exec
  have hb := B.bytes
  have hr := B.returns
  have hts := atoms_spec (ws := wT y_X_extreme b_X_extreme 5 (some .int)) B.pre
  have hT : ∀ w ∈ TT, w ∈ wT y_X_extreme b_X_extreme 5 (some .int) := wT_T
  have hown : s.vm.findClass RX = some m.cls := findClass_of_methodNamed B.named
  have hlocks := B.notSynchronized
  have hl := lv_entry ([.ref (ad 0), .int (nI dd), .int (nI k), .int (nI 2)]) (n := 5) (Nat.le_of_ble_eq_true rfl)
  rw [lg_entry_eq]
  generalize (lg_sl ([.ref (ad 0), .int (nI dd), .int (nI k), .int (nI 2)]) ++ List.replicate (5 - (lg_sl ([.ref (ad 0), .int (nI dd), .int (nI k), .int (nI 2)])).length) Slot.unset).toArray = ls at hl ⊢
  have hl : lv_has ls 5 [(0, .ref (ad 0)), (1, .int (nI dd)), (2, .int (nI k)), (3, .int (nI 2))] := hl
  have hL : ∀ q ∈ ([] : List Loc), txF ad q.base := fun q hq => nomatch hq
  have hO : txO ad s.heap s.heap := txO.rf
  have hdb := (tt_db_in hg.2.2.2 10 (Nat.le_refl _)).2
  have hlen := tt_L1440 (tt_dh g dd)
  have hLk := tt_L_get hk
  have hTk := tt_T_kind hLk.2
  have ek : (nI k).toInt = k := nI_toInt (by omega)
  refine lv_aload_n hx hb d_X_extreme_0 rfl (lv_at hl 0 rfl) ?_
  refine lv_iload_n hx hb d_X_extreme_1 rfl (lv_at hl 1 rfl) ?_
  refine lv_iload_n hx hb d_X_extreme_2 rfl (lv_at hl 2 rfl) ?_
  refine tq_VW ⟨hx, hb, hml, hown, hts⟩ hT (c_X_isExtreme l D ci ad g tc td tn hd (nI k) (by omega)) lk_X_138 wXC_mv ⟨hK, hg, hX, hD, hCI⟩ (wXW_rc hK hX) rfl hl.1 rfl (Nat.le_of_ble_eq_true rfl) d_X_extreme_3 ⟨rfl, rfl, Nat.le_of_ble_eq_true rfl, Nat.le_of_ble_eq_true rfl⟩ ⟨Nat.zero_le _, Nat.zero_le _⟩ hL (fun v9 H1 locs1 hF9 hL => ?_)
  obtain ⟨rfl, tc1, tn1, hX, hC, hO9⟩ := hF9
  have hO := hO.tr hO9
  refine lv_if_ne hx hb d_X_extreme_6 (tgt := 19) (by decide) (fun _ => ?_) (fun hno => absurd hno (fun z => zb_f z (by omega)))
  refine lv_aload_n hx hb d_X_extreme_19 rfl (lv_at hl 0 rfl) ?_
  refine va_get hx hb hts (fun w h => hT w (uX_in w h)) hown hK hX.1 0 rfl rfl 7 (by decide) (hts _ (hT _ k_X_33)) (fun _ h => h) rfl d_X_extreme_20 ?_
  refine lv_iload_n hx hb d_X_extreme_23 rfl (lv_at hl 2 rfl) ?_
  refine tq_iald hx hb hK hX.1 7 0 rfl rfl (show k < 1440 by omega) (by decide) d_X_extreme_24 ?_
  refine tq_ti (show _ = (nI (1440 * dd + (tt_L (tt_dh g dd) 1440).getD k 0)) from hC.2 k hk) ?_
  refine lv_istore hx hb d_X_extreme_25 hl (by decide) (lv' := [(4, .int (nI (1440 * dd + (tt_L (tt_dh g dd) 1440).getD k 0))), (0, .ref (ad 0)), (1, .int (nI dd)), (2, .int (nI k)), (3, .int (nI 2))]) rfl (fun ls hl => ?_)
  refine lv_iload_n hx hb d_X_extreme_27 rfl (lv_at hl 4 rfl) ?_
  refine lv_tableIn hx hb d_X_extreme_28 (by decide) (by decide) (off := 38) (by decide) (tgt := 66) (by decide) ?_
  refine lv_aload_n hx hb d_X_extreme_66 rfl (lv_at hl 1 rfl) ?_
  refine lv_iload hx hb d_X_extreme_67 (lv_at hl 0 rfl) ?_
  refine tq_V ⟨hx, hb, hml, hown, hts⟩ hT (c_X_isHigh l D ci ad g tc1 (nI dd) tn1 (mm := (1440 * dd + (tt_L (tt_dh g dd) 1440).getD k 0)) (by omega) (by omega)) lk_X_144 wX_mv ⟨hK, hg, hX⟩ (wX_rc ⟨hK, hg, hX⟩) rfl hl.1 rfl (Nat.le_of_ble_eq_true rfl) d_X_extreme_69 ⟨rfl, rfl, Nat.le_of_ble_eq_true rfl, Nat.le_of_ble_eq_true rfl⟩ ⟨Nat.zero_le _, Nat.zero_le _⟩ ?_
  refine lv_if_eq hx hb d_X_extreme_72 (tgt := 79) (by decide) (fun h9 => ?_) (fun h9 => ?_)
  · refine lv_iconst hx hb d_X_extreme_79 (v := (nI 0)) rfl ?_
    exact W.iret hx hb hr (fun t ht hW => ⟨_, rfl, (by rw [h9]; rfl), tc1, tn1, by rw [ht]; exact hX, hC, by rw [ht]; exact hO⟩) hL d_X_extreme_80
  · refine lv_iconst hx hb d_X_extreme_75 (v := (nI 1)) rfl ?_
    refine lv_goto hx hb d_X_extreme_76 (tgt := 80) (by decide) ?_
    exact W.iret hx hb hr (fun t ht hW => ⟨_, rfl, (zb_1 (zb_t h9)), tc1, tn1, by rw [ht]; exact hX, hC, by rw [ht]; exact hO⟩) hL d_X_extreme_80
set_option maxHeartbeats 4000000 in
set_option maxRecDepth 100000 in
theorem x_X_extremeI0 (l : Launch) (htr : l.stackTraces = false) (D : va_G) (ci : Nat → ClassId) (ad : Nat → Nat) (g : TS) (tc td : Int32) (tn : Nat → Int32) (u v x : Int32) (hv : ¬ ((0 ≤ u.toInt ∧ u.toInt < (tt_db (tt_day g) 10 : Nat)) ∧ 0 ≤ v.toInt)) : vx_Met l y_X_extreme (wT y_X_extreme b_X_extreme 5 (some .int)) ({ frames := 6, cells := 1, slots := 6, locals := 154 }) (tb (wXCE D ci ad g tc td tn) [.ref (ad 0), .int u, .int v, .int x]) tw_N (vx_X (fun u : Int32 × Int32 × (Nat → Int32) => tt_CI g u.1 u.2.1 u.2.2) (fun E u t => E = eI ∧ tx D ci ad g u.1 u.2.1 u.2.2 t.heap) (txF ad)) 1 6 (txF ad) := by
  refine vx_ofW (cc := b_X_extreme) (maxL := 5) (ret := (some .int)) (by decide) rfl ?_
  intro p e s m args below meth c s₁ B hml hno hv
  obtain ⟨rfl, ⟨hK, hg, hX, hD, hCI⟩, hE⟩ := hv
  have hx := B.exec
  have hb := B.bytes
  have hr := B.returns
  have hts := atoms_spec (ws := wT y_X_extreme b_X_extreme 5 (some .int)) B.pre
  have hT : ∀ w ∈ TT, w ∈ wT y_X_extreme b_X_extreme 5 (some .int) := wT_T
  have hown : s.vm.findClass RX = some m.cls := findClass_of_methodNamed B.named
  have hlocks := B.notSynchronized
  have hl := lv_entry ([.ref (ad 0), .int u, .int v, .int x]) (n := 5) (Nat.le_of_ble_eq_true rfl)
  rw [lg_entry_eq]
  generalize (lg_sl ([.ref (ad 0), .int u, .int v, .int x]) ++ List.replicate (5 - (lg_sl ([.ref (ad 0), .int u, .int v, .int x])).length) Slot.unset).toArray = ls at hl ⊢
  have hl : lv_has ls 5 [(0, .ref (ad 0)), (1, .int u), (2, .int v), (3, .int x)] := hl
  have hL : ∀ q ∈ ([] : List Loc), txF ad q.base := fun q hq => nomatch hq
  have hO : txO ad s.heap s.heap := txO.rf
  have hX0 := hX
  refine lv_aload_n hx hb d_X_extreme_0 rfl (lv_at hl 0 rfl) ?_
  refine lv_iload_n hx hb d_X_extreme_1 rfl (lv_at hl 1 rfl) ?_
  refine lv_iload_n hx hb d_X_extreme_2 rfl (lv_at hl 2 rfl) ?_
  refine tq_V ⟨hx, hb, hml, hown, hts⟩ hT (c_X_isExtreme0 l D ci ad g tc td tn u v hv) lk_X_138 wX_mv ⟨hK, hg, hX⟩ (wX_rc ⟨hK, hg, hX⟩) rfl hl.1 rfl (Nat.le_of_ble_eq_true rfl) d_X_extreme_3 ⟨rfl, rfl, Nat.le_of_ble_eq_true rfl, Nat.le_of_ble_eq_true rfl⟩ ⟨Nat.zero_le _, Nat.zero_le _⟩ ?_
  refine lv_if_ne hx hb d_X_extreme_6 (tgt := 19) (by decide) (fun hyes => absurd rfl hyes) (fun _ => ?_)
  exact tw_I hx hb htr hown (fun w h => hts w (hT w h)) hE (A := txF ad) (fun C n d h => vz_mk h (fun a cell h1 h2 => ⟨h1, tx_nst hX0 h1 h2⟩)) (is := 142) (text := "no such day or extreme") (by decide) ⟨Nat.le_of_eq hO.1.symm, fun q _ h => hO.2 q h, hL⟩ (hl.1.trans hml.symm) d_X_extreme_9 d_X_extreme_12 d_X_extreme_13 d_X_extreme_15 d_X_extreme_18 hno ⟨by decide, by decide, by decide, by decide⟩ hlocks (fun t ha h1 h2 => ⟨(tc, td, tn), hCI, ⟨rfl, tx_keep hX (fun k hk => h2 _ (tx_lt hX hk))⟩, by rw [← hO.1]; exact h1, fun q hq hn => (h2 q (by rw [hO.1]; exact hq)).trans (hO.2 q hn)⟩) hL (Nat.le_refl _) (Nat.le_refl _)
set_option maxHeartbeats 4000000 in
set_option maxRecDepth 100000 in
theorem x_X_extremeI1 (l : Launch) (htr : l.stackTraces = false) (D : va_G) (ci : Nat → ClassId) (ad : Nat → Nat) (g : TS) (tc td : Int32) (tn : Nat → Int32) {dd : Nat} (hd : dd < tt_db (tt_day g) 10) (v x : Int32) (hv : 0 ≤ v.toInt) (hv2 : ¬ v.toInt < ((tt_L (tt_dh g dd) 1440).length : Nat)) : vx_Met l y_X_extreme (wT y_X_extreme b_X_extreme 5 (some .int)) ({ frames := 6, cells := 1, slots := 6, locals := 154 }) (tb (wXCE D ci ad g tc td tn) [.ref (ad 0), .int (nI dd), .int v, .int x]) tw_N (vx_X (fun u : Int32 × Int32 × (Nat → Int32) => tt_CI g u.1 u.2.1 u.2.2) (fun E u t => E = eI ∧ tx D ci ad g u.1 u.2.1 u.2.2 t.heap) (txF ad)) 1 6 (txF ad) := by
  refine vx_ofW (cc := b_X_extreme) (maxL := 5) (ret := (some .int)) (by decide) rfl ?_
  intro p e s m args below meth c s₁ B hml hno hv
  obtain ⟨rfl, ⟨hK, hg, hX, hD, hCI⟩, hE⟩ := hv
  have hx := B.exec
  have hb := B.bytes
  have hr := B.returns
  have hts := atoms_spec (ws := wT y_X_extreme b_X_extreme 5 (some .int)) B.pre
  have hT : ∀ w ∈ TT, w ∈ wT y_X_extreme b_X_extreme 5 (some .int) := wT_T
  have hown : s.vm.findClass RX = some m.cls := findClass_of_methodNamed B.named
  have hlocks := B.notSynchronized
  have hl := lv_entry ([.ref (ad 0), .int (nI dd), .int v, .int x]) (n := 5) (Nat.le_of_ble_eq_true rfl)
  rw [lg_entry_eq]
  generalize (lg_sl ([.ref (ad 0), .int (nI dd), .int v, .int x]) ++ List.replicate (5 - (lg_sl ([.ref (ad 0), .int (nI dd), .int v, .int x])).length) Slot.unset).toArray = ls at hl ⊢
  have hl : lv_has ls 5 [(0, .ref (ad 0)), (1, .int (nI dd)), (2, .int v), (3, .int x)] := hl
  have hL : ∀ q ∈ ([] : List Loc), txF ad q.base := fun q hq => nomatch hq
  have hO : txO ad s.heap s.heap := txO.rf
  have hX0 := hX
  refine lv_aload_n hx hb d_X_extreme_0 rfl (lv_at hl 0 rfl) ?_
  refine lv_iload_n hx hb d_X_extreme_1 rfl (lv_at hl 1 rfl) ?_
  refine lv_iload_n hx hb d_X_extreme_2 rfl (lv_at hl 2 rfl) ?_
  refine tq_VW ⟨hx, hb, hml, hown, hts⟩ hT (c_X_isExtreme l D ci ad g tc td tn hd v hv) lk_X_138 wXC_mv ⟨hK, hg, hX, hD, hCI⟩ (wXW_rc hK hX) rfl hl.1 rfl (Nat.le_of_ble_eq_true rfl) d_X_extreme_3 ⟨rfl, rfl, Nat.le_of_ble_eq_true rfl, Nat.le_of_ble_eq_true rfl⟩ ⟨Nat.zero_le _, Nat.zero_le _⟩ hL (fun v9 H1 locs1 hF9 hL => ?_)
  obtain ⟨rfl, tc1, tn1, hX, hC, hO9⟩ := hF9
  have hO := hO.tr hO9
  refine lv_if_ne hx hb d_X_extreme_6 (tgt := 19) (by decide) (fun hyes => absurd (by rw [zb, if_neg hv2]) hyes) (fun _ => ?_)
  exact tw_I hx hb htr hown (fun w h => hts w (hT w h)) hE (A := txF ad) (fun C n d h => vz_mk h (fun a cell h1 h2 => ⟨h1, tx_nst hX0 h1 h2⟩)) (is := 142) (text := "no such day or extreme") (by decide) ⟨Nat.le_of_eq hO.1.symm, fun q _ h => hO.2 q h, hL⟩ (hl.1.trans hml.symm) d_X_extreme_9 d_X_extreme_12 d_X_extreme_13 d_X_extreme_15 d_X_extreme_18 hno ⟨by decide, by decide, by decide, by decide⟩ hlocks (fun t ha h1 h2 => ⟨(tc1, nI dd, tn1), Or.inr ⟨dd, hd, rfl, hC⟩, ⟨rfl, tx_keep hX (fun k hk => h2 _ (tx_lt hX hk))⟩, by rw [← hO.1]; exact h1, fun q hq hn => (h2 q (by rw [hO.1]; exact hq)).trans (hO.2 q hn)⟩) hL (Nat.le_refl _) (Nat.le_refl _)
set_option maxHeartbeats 4000000 in
set_option maxRecDepth 100000 in
theorem x_X_extremeA (l : Launch) (htr : l.stackTraces = false) (D : va_G) (ci : Nat → ClassId) (ad : Nat → Nat) (g : TS) (tc td : Int32) (tn : Nat → Int32) {dd k : Nat} (hd : dd < tt_db (tt_day g) 10) (hk : k < (tt_L (tt_dh g dd) 1440).length) (x : Int32) (hv2 : x.toInt < 0 ∨ 2 < x.toInt) : vx_Met l y_X_extreme (wT y_X_extreme b_X_extreme 5 (some .int)) ({ frames := 6, cells := 1, slots := 6, locals := 154 }) (tb (wXCE D ci ad g tc td tn) [.ref (ad 0), .int (nI dd), .int (nI k), .int x]) tw_N (vx_X (fun u : Int32 × Int32 × (Nat → Int32) => tt_CI g u.1 u.2.1 u.2.2) (fun E u t => E = eA ∧ tx D ci ad g u.1 u.2.1 u.2.2 t.heap) (txF ad)) 1 6 (txF ad) := by
  refine vx_ofW (cc := b_X_extreme) (maxL := 5) (ret := (some .int)) (by decide) rfl ?_
  intro p e s m args below meth c s₁ B hml hno hv
  obtain ⟨rfl, ⟨hK, hg, hX, hD, hCI⟩, hE⟩ := hv
  have hx := B.exec
  have hb := B.bytes
  have hr := B.returns
  have hts := atoms_spec (ws := wT y_X_extreme b_X_extreme 5 (some .int)) B.pre
  have hT : ∀ w ∈ TT, w ∈ wT y_X_extreme b_X_extreme 5 (some .int) := wT_T
  have hown : s.vm.findClass RX = some m.cls := findClass_of_methodNamed B.named
  have hlocks := B.notSynchronized
  have hl := lv_entry ([.ref (ad 0), .int (nI dd), .int (nI k), .int x]) (n := 5) (Nat.le_of_ble_eq_true rfl)
  rw [lg_entry_eq]
  generalize (lg_sl ([.ref (ad 0), .int (nI dd), .int (nI k), .int x]) ++ List.replicate (5 - (lg_sl ([.ref (ad 0), .int (nI dd), .int (nI k), .int x])).length) Slot.unset).toArray = ls at hl ⊢
  have hl : lv_has ls 5 [(0, .ref (ad 0)), (1, .int (nI dd)), (2, .int (nI k)), (3, .int x)] := hl
  have hL : ∀ q ∈ ([] : List Loc), txF ad q.base := fun q hq => nomatch hq
  have hO : txO ad s.heap s.heap := txO.rf
  have hdb := (tt_db_in hg.2.2.2 10 (Nat.le_refl _)).2
  have hlen := tt_L1440 (tt_dh g dd)
  have hLk := tt_L_get hk
  have hTk := tt_T_kind hLk.2
  have ek : (nI k).toInt = k := nI_toInt (by omega)
  have hX0 := hX
  refine lv_aload_n hx hb d_X_extreme_0 rfl (lv_at hl 0 rfl) ?_
  refine lv_iload_n hx hb d_X_extreme_1 rfl (lv_at hl 1 rfl) ?_
  refine lv_iload_n hx hb d_X_extreme_2 rfl (lv_at hl 2 rfl) ?_
  refine tq_VW ⟨hx, hb, hml, hown, hts⟩ hT (c_X_isExtreme l D ci ad g tc td tn hd (nI k) (by omega)) lk_X_138 wXC_mv ⟨hK, hg, hX, hD, hCI⟩ (wXW_rc hK hX) rfl hl.1 rfl (Nat.le_of_ble_eq_true rfl) d_X_extreme_3 ⟨rfl, rfl, Nat.le_of_ble_eq_true rfl, Nat.le_of_ble_eq_true rfl⟩ ⟨Nat.zero_le _, Nat.zero_le _⟩ hL (fun v9 H1 locs1 hF9 hL => ?_)
  obtain ⟨rfl, tc1, tn1, hX, hC, hO9⟩ := hF9
  have hO := hO.tr hO9
  refine lv_if_ne hx hb d_X_extreme_6 (tgt := 19) (by decide) (fun _ => ?_) (fun hno => absurd hno (fun z => zb_f z (by omega)))
  refine lv_aload_n hx hb d_X_extreme_19 rfl (lv_at hl 0 rfl) ?_
  refine va_get hx hb hts (fun w h => hT w (uX_in w h)) hown hK hX.1 0 rfl rfl 7 (by decide) (hts _ (hT _ k_X_33)) (fun _ h => h) rfl d_X_extreme_20 ?_
  refine lv_iload_n hx hb d_X_extreme_23 rfl (lv_at hl 2 rfl) ?_
  refine tq_iald hx hb hK hX.1 7 0 rfl rfl (show k < 1440 by omega) (by decide) d_X_extreme_24 ?_
  refine tq_ti (show _ = (nI (1440 * dd + (tt_L (tt_dh g dd) 1440).getD k 0)) from hC.2 k hk) ?_
  refine lv_istore hx hb d_X_extreme_25 hl (by decide) (lv' := [(4, .int (nI (1440 * dd + (tt_L (tt_dh g dd) 1440).getD k 0))), (0, .ref (ad 0)), (1, .int (nI dd)), (2, .int (nI k)), (3, .int x)]) rfl (fun ls hl => ?_)
  refine lv_iload_n hx hb d_X_extreme_27 rfl (lv_at hl 4 rfl) ?_
  refine lv_tableOut hx hb d_X_extreme_28 hv2 (tgt := 81) (by decide) ?_
  exact tw_A hx hb htr hown (fun w h => hts w (hT w h)) hE (A := txF ad) (fun C n d h => vz_mk h (fun a cell h1 h2 => ⟨h1, tx_nst hX0 h1 h2⟩)) (is := 147) (text := "no such question") (by decide) ⟨Nat.le_of_eq hO.1.symm, fun q _ h => hO.2 q h, hL⟩ (hl.1.trans hml.symm) d_X_extreme_81 d_X_extreme_84 d_X_extreme_85 d_X_extreme_87 d_X_extreme_90 hno ⟨by decide, by decide, by decide, by decide⟩ hlocks (fun t ha h1 h2 => ⟨(tc1, nI dd, tn1), Or.inr ⟨dd, hd, rfl, hC⟩, ⟨rfl, tx_keep hX (fun k hk => h2 _ (tx_lt hX hk))⟩, by rw [← hO.1]; exact h1, fun q hq hn => (h2 q (by rw [hO.1]; exact hq)).trans (hO.2 q hn)⟩) hL (Nat.le_refl _) (Nat.le_refl _)
