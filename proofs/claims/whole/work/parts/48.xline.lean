/-! the class's line and sign. Written by wip/whole/gen.py -/
def wXL (D : va_G) (ci : Nat → ClassId) (ad : Nat → Nat) (g : TS) (tc td : Int32) (tn : Nat → Int32) (D2 : va_G) (cB : ClassId) (sz0 : Nat) (U : State) (H : Heap) : Prop := wXC D ci ad g tc td tn U H ∧ tkB D2 cB U ∧ kc sz0 U H ∧ ∀ j, j < 24 → sz0 ≤ ad j
theorem wXL_mv {D : va_G} {ci : Nat → ClassId} {ad : Nat → Nat} {g : TS} {tc td : Int32} {tn : Nat → Int32} {D2 : va_G} {cB : ClassId} {sz0 : Nat} : tmov (wXL D ci ad g tc td tn D2 cB sz0) := fun _ _ _ hW h => ⟨wXC_mv _ _ _ hW h.1, tkB_mv hW h.2.1, kc_mv _ _ _ hW h.2.2.1, h.2.2.2⟩
def wXLE (D : va_G) (ci : Nat → ClassId) (ad : Nat → Nat) (g : TS) (tc td : Int32) (tn : Nat → Int32) (D2 : va_G) (cB : ClassId) (sz0 : Nat) (U : State) (H : Heap) : Prop := wXL D ci ad g tc td tn D2 cB sz0 U H ∧ wE U H
theorem wXLE_mv {D : va_G} {ci : Nat → ClassId} {ad : Nat → Nat} {g : TS} {tc td : Int32} {tn : Nat → Int32} {D2 : va_G} {cB : ClassId} {sz0 : Nat} : tmov (wXLE D ci ad g tc td tn D2 cB sz0) := fun _ _ _ hW h => ⟨wXL_mv _ _ _ hW h.1, wE_mv _ _ _ hW h.2⟩
/-- only the object's cells have changed; others may be new -/
def txG (ad : Nat → Nat) (H H1 : Heap) : Prop := H.size ≤ H1.size ∧ ∀ q : Nat, q < H.size → ¬ txF ad q → H1[q]? = H[q]?
theorem txG.of {ad : Nat → Nat} {H H1 H2 : Heap} (h : txO ad H H1) (h2 : sO H1.size H1 H2) : txG ad H H2 := ⟨by rw [← h.1]; exact h2.1, fun q hq hn => (h2.2 q (by rw [h.1]; exact hq)).trans (h.2 q hn)⟩
theorem kc_tx {ad : Nat → Nat} {sz0 : Nat} {U : State} {H H1 : Heap} (hsz : ∀ j, j < 24 → sz0 ≤ ad j) (h : kc sz0 U H) (hO : txO ad H H1) : kc sz0 U H1 := kc_kept h (Nat.le_of_eq hO.1.symm) (fun q hq => hO.2 q (fun ⟨k, hk, e⟩ => absurd (hsz k hk) (by omega)))
theorem tt_lo_line {g : TS} {dd k : Nat} (hk : k < (tt_L (tt_dh g dd) 1440).length) : tt_lo g (1440 * dd + (tt_L (tt_dh g dd) 1440).getD k 0) = tt_line g dd k := by
  have hLk := tt_L_get hk
  have hTk := tt_T_kind hLk.2
  have hyf : 1440 * tt_db (tt_day g) (tt_yr g (1440 * dd + (tt_L (tt_dh g dd) 1440).getD k 0)) ≤ (1440 * dd + (tt_L (tt_dh g dd) 1440).getD k 0) := tt_yrA_fst (tt_day g) _ 9
  unfold tt_lo tt_line tt_fst
  rw [show ((1440 * dd + (tt_L (tt_dh g dd) 1440).getD k 0) - 1440 * tt_db (tt_day g) (tt_yr g (1440 * dd + (tt_L (tt_dh g dd) 1440).getD k 0))) / 1440 = dd - tt_db (tt_day g) (tt_yr g (1440 * dd + (tt_L (tt_dh g dd) 1440).getD k 0)) by omega, show ((1440 * dd + (tt_L (tt_dh g dd) 1440).getD k 0) - 1440 * tt_db (tt_day g) (tt_yr g (1440 * dd + (tt_L (tt_dh g dd) 1440).getD k 0))) % 1440 = ((tt_L (tt_dh g dd) 1440).getD k 0) by omega, show (1440 * dd + (tt_L (tt_dh g dd) 1440).getD k 0) - 1 = 1440 * dd + (((tt_L (tt_dh g dd) 1440).getD k 0) - 1) by omega]
  rfl
set_option maxHeartbeats 4000000 in
set_option maxRecDepth 100000 in
theorem c_X_line (l : Launch) (D : va_G) (ci : Nat → ClassId) (ad : Nat → Nat) (g : TS) (tc td : Int32) (tn : Nat → Int32) (D2 : va_G) (cB : ClassId) (sz0 : Nat) {dd k : Nat} (hd : dd < tt_db (tt_day g) 10) (hk : k < (tt_L (tt_dh g dd) 1440).length) : Met l y_X_line (wT y_X_line b_X_line 3 (some .int)) ({ frames := 9, cells := 21, slots := 666, locals := 224 }) (tb (wXL D ci ad g tc td tn D2 cB sz0) [.ref (ad 0), .int (nI dd), .int (nI k)]) (tq_Q (fun o9 H H1 => o9 = some (.int (nI (tt_line g dd k).length)) ∧ ∃ tc1 tn1, tx D ci ad g tc1 (nI dd) tn1 H1 ∧ tt_C dd (tt_L (tt_dh g dd) 1440) tc1 tn1 ∧ txG ad H H1)) 21 666 (txF ad) := by
  refine Met.ofW (cc := b_X_line) (maxL := 3) (ret := (some .int)) (by decide) rfl ?_
  intro p e s m args below meth c s₁ B hml hv
  obtain ⟨rfl, ⟨hK, hg, hX, hD, hCI⟩, hKB, hKC, hsz⟩ := hv
  have hx := B.exec
  have hb := B.bytes
  have hr := B.returns
  have hts := atoms_spec (ws := wT y_X_line b_X_line 3 (some .int)) B.pre
  have hT : ∀ w ∈ TT, w ∈ wT y_X_line b_X_line 3 (some .int) := wT_T
  have hown : s.vm.findClass RX = some m.cls := findClass_of_methodNamed B.named
  have hlocks := B.notSynchronized
  have hl := lv_entry ([.ref (ad 0), .int (nI dd), .int (nI k)]) (n := 3) (Nat.le_of_ble_eq_true rfl)
  rw [lg_entry_eq]
  generalize (lg_sl ([.ref (ad 0), .int (nI dd), .int (nI k)]) ++ List.replicate (3 - (lg_sl ([.ref (ad 0), .int (nI dd), .int (nI k)])).length) Slot.unset).toArray = ls at hl ⊢
  have hl : lv_has ls 3 [(0, .ref (ad 0)), (1, .int (nI dd)), (2, .int (nI k))] := hl
  have hL : ∀ q ∈ ([] : List Loc), txF ad q.base := fun q hq => nomatch hq
  have hO : txO ad s.heap s.heap := txO.rf
  have hdb := (tt_db_in hg.2.2.2 10 (Nat.le_refl _)).2
  have hlen := tt_L1440 (tt_dh g dd)
  have hLk := tt_L_get hk
  have hTk := tt_T_kind hLk.2
  have ek : (nI k).toInt = k := nI_toInt (by omega)
  have hll := tt_line_len g dd k
  refine lv_aload_n hx hb d_X_line_0 rfl (lv_at hl 0 rfl) ?_
  refine lv_iload_n hx hb d_X_line_1 rfl (lv_at hl 1 rfl) ?_
  refine lv_iload_n hx hb d_X_line_2 rfl (lv_at hl 2 rfl) ?_
  refine tq_VW ⟨hx, hb, hml, hown, hts⟩ hT (c_X_isExtreme l D ci ad g tc td tn hd (nI k) (by omega)) lk_X_138 wXC_mv ⟨hK, hg, hX, hD, hCI⟩ (wXW_rc hK hX) rfl hl.1 rfl (Nat.le_of_ble_eq_true rfl) d_X_line_3 ⟨rfl, rfl, Nat.le_of_ble_eq_true rfl, Nat.le_of_ble_eq_true rfl⟩ ⟨Nat.zero_le _, Nat.zero_le _⟩ hL (fun v9 H1 locs1 hF9 hL => ?_)
  obtain ⟨rfl, tc1, tn1, hX, hC, hO9⟩ := hF9
  have hO := hO.tr hO9
  refine lv_if_ne hx hb d_X_line_6 (tgt := 19) (by decide) (fun _ => ?_) (fun hno => absurd hno (fun z => zb_f z (by omega)))
  refine lv_aload_n hx hb d_X_line_19 rfl (lv_at hl 0 rfl) ?_
  refine lv_aload_n hx hb d_X_line_20 rfl (lv_at hl 0 rfl) ?_
  refine va_get hx hb hts (fun w h => hT w (uX_in w h)) hown hK hX.1 0 rfl rfl 7 (by decide) (hts _ (hT _ k_X_33)) (fun _ h => h) rfl d_X_line_21 ?_
  refine lv_iload_n hx hb d_X_line_24 rfl (lv_at hl 2 rfl) ?_
  refine tq_iald hx hb hK hX.1 7 0 rfl rfl (show k < 1440 by omega) (by decide) d_X_line_25 ?_
  refine tq_ti (show _ = (nI (1440 * dd + (tt_L (tt_dh g dd) 1440).getD k 0)) from hC.2 k hk) ?_
  have hKC1 := kc_tx hsz hKC hO
  have hz8 := hKC1.2.2.2.2.2.2
  refine tg_V ⟨hx, hb, hml, hown, hts⟩ hT (c_X_lineOf l D ci ad g tc1 (nI dd) tn1 D2 cB sz0 (txF ad) (mm := (1440 * dd + (tt_L (tt_dh g dd) 1440).getD k 0)) (by omega) (by omega)) lk_X_149 wXB_mv ⟨⟨hK, hg, hX⟩, hKB, hKC1⟩ (wXW_rc hK hX) rfl hl.1 rfl (Nat.le_of_ble_eq_true rfl) d_X_line_26 ⟨rfl, rfl, Nat.le_of_ble_eq_true rfl, Nat.le_of_ble_eq_true rfl⟩ ⟨Nat.le_of_ble_eq_true rfl, Nat.le_of_ble_eq_true rfl⟩ hL (fun v9 H1 locs1 hF9 hL9 => ?_)
  obtain ⟨b9, rfl, hB, hO8⟩ := hF9
  rw [tt_lo_line hk] at hB
  have hKC2 := kc_narrow (kc_kept hKC1 hO8.1 (fun q hq => hO8.2 q (Nat.lt_of_lt_of_le hq hz8))) hz8 hO8.1
  have hX := tx_keep hX (fun k hk => hO8.2 _ (tx_lt hX hk))
  have hG := txG.of hO hO8
  refine tq_V ⟨hx, hb, hml, hown, hts⟩ hT (c_S_len l D2 cB _ b9) lk_X_153 wS_mv ⟨hKB, hKC2, hB⟩ (sbS_rc hKB hB) rfl hl.1 rfl (Nat.le_of_ble_eq_true rfl) d_X_line_29 ⟨rfl, rfl, Nat.le_of_ble_eq_true rfl, Nat.le_of_ble_eq_true rfl⟩ ⟨Nat.le_of_ble_eq_true rfl, Nat.le_of_ble_eq_true rfl⟩ ?_
  exact W.iret hx hb hr (fun t ht hW => ⟨_, rfl, rfl, tc1, tn1, by rw [ht]; exact hX, hC, by rw [ht]; exact hG⟩) hL9 d_X_line_32
set_option maxHeartbeats 4000000 in
set_option maxRecDepth 100000 in
theorem c_X_sign (l : Launch) (D : va_G) (ci : Nat → ClassId) (ad : Nat → Nat) (g : TS) (tc td : Int32) (tn : Nat → Int32) (D2 : va_G) (cB : ClassId) (sz0 : Nat) {dd k : Nat} (hd : dd < tt_db (tt_day g) 10) (hk : k < (tt_L (tt_dh g dd) 1440).length) {j : Nat} (hj : j < (tt_line g dd k).length) : Met l y_X_sign (wT y_X_sign b_X_sign 5 (some .int)) ({ frames := 9, cells := 21, slots := 666, locals := 224 }) (tb (wXL D ci ad g tc td tn D2 cB sz0) [.ref (ad 0), .int (nI dd), .int (nI k), .int (nI j)]) (tq_Q (fun o9 H H1 => o9 = some (.int (nI ((tt_line g dd k).getD j 0))) ∧ ∃ tc1 tn1, tx D ci ad g tc1 (nI dd) tn1 H1 ∧ tt_C dd (tt_L (tt_dh g dd) 1440) tc1 tn1 ∧ txG ad H H1)) 21 666 (txF ad) := by
  refine Met.ofW (cc := b_X_sign) (maxL := 5) (ret := (some .int)) (by decide) rfl ?_
  intro p e s m args below meth c s₁ B hml hv
  obtain ⟨rfl, ⟨hK, hg, hX, hD, hCI⟩, hKB, hKC, hsz⟩ := hv
  have hx := B.exec
  have hb := B.bytes
  have hr := B.returns
  have hts := atoms_spec (ws := wT y_X_sign b_X_sign 5 (some .int)) B.pre
  have hT : ∀ w ∈ TT, w ∈ wT y_X_sign b_X_sign 5 (some .int) := wT_T
  have hown : s.vm.findClass RX = some m.cls := findClass_of_methodNamed B.named
  have hlocks := B.notSynchronized
  have hl := lv_entry ([.ref (ad 0), .int (nI dd), .int (nI k), .int (nI j)]) (n := 5) (Nat.le_of_ble_eq_true rfl)
  rw [lg_entry_eq]
  generalize (lg_sl ([.ref (ad 0), .int (nI dd), .int (nI k), .int (nI j)]) ++ List.replicate (5 - (lg_sl ([.ref (ad 0), .int (nI dd), .int (nI k), .int (nI j)])).length) Slot.unset).toArray = ls at hl ⊢
  have hl : lv_has ls 5 [(0, .ref (ad 0)), (1, .int (nI dd)), (2, .int (nI k)), (3, .int (nI j))] := hl
  have hL : ∀ q ∈ ([] : List Loc), txF ad q.base := fun q hq => nomatch hq
  have hO : txO ad s.heap s.heap := txO.rf
  have hdb := (tt_db_in hg.2.2.2 10 (Nat.le_refl _)).2
  have hlen := tt_L1440 (tt_dh g dd)
  have hLk := tt_L_get hk
  have hTk := tt_T_kind hLk.2
  have ek : (nI k).toInt = k := nI_toInt (by omega)
  have hll := tt_line_len g dd k
  have ej : (nI j).toInt = j := nI_toInt (by omega)
  refine lv_aload_n hx hb d_X_sign_0 rfl (lv_at hl 0 rfl) ?_
  refine lv_iload_n hx hb d_X_sign_1 rfl (lv_at hl 1 rfl) ?_
  refine lv_iload_n hx hb d_X_sign_2 rfl (lv_at hl 2 rfl) ?_
  refine tq_VW ⟨hx, hb, hml, hown, hts⟩ hT (c_X_isExtreme l D ci ad g tc td tn hd (nI k) (by omega)) lk_X_138 wXC_mv ⟨hK, hg, hX, hD, hCI⟩ (wXW_rc hK hX) rfl hl.1 rfl (Nat.le_of_ble_eq_true rfl) d_X_sign_3 ⟨rfl, rfl, Nat.le_of_ble_eq_true rfl, Nat.le_of_ble_eq_true rfl⟩ ⟨Nat.zero_le _, Nat.zero_le _⟩ hL (fun v9 H1 locs1 hF9 hL => ?_)
  obtain ⟨rfl, tc1, tn1, hX, hC, hO9⟩ := hF9
  have hO := hO.tr hO9
  refine lv_if_ne hx hb d_X_sign_6 (tgt := 19) (by decide) (fun _ => ?_) (fun hno => absurd hno (fun z => zb_f z (by omega)))
  refine lv_aload_n hx hb d_X_sign_19 rfl (lv_at hl 0 rfl) ?_
  refine lv_aload_n hx hb d_X_sign_20 rfl (lv_at hl 0 rfl) ?_
  refine va_get hx hb hts (fun w h => hT w (uX_in w h)) hown hK hX.1 0 rfl rfl 7 (by decide) (hts _ (hT _ k_X_33)) (fun _ h => h) rfl d_X_sign_21 ?_
  refine lv_iload_n hx hb d_X_sign_24 rfl (lv_at hl 2 rfl) ?_
  refine tq_iald hx hb hK hX.1 7 0 rfl rfl (show k < 1440 by omega) (by decide) d_X_sign_25 ?_
  refine tq_ti (show _ = (nI (1440 * dd + (tt_L (tt_dh g dd) 1440).getD k 0)) from hC.2 k hk) ?_
  have hKC1 := kc_tx hsz hKC hO
  have hz8 := hKC1.2.2.2.2.2.2
  refine tg_V ⟨hx, hb, hml, hown, hts⟩ hT (c_X_lineOf l D ci ad g tc1 (nI dd) tn1 D2 cB sz0 (txF ad) (mm := (1440 * dd + (tt_L (tt_dh g dd) 1440).getD k 0)) (by omega) (by omega)) lk_X_149 wXB_mv ⟨⟨hK, hg, hX⟩, hKB, hKC1⟩ (wXW_rc hK hX) rfl hl.1 rfl (Nat.le_of_ble_eq_true rfl) d_X_sign_26 ⟨rfl, rfl, Nat.le_of_ble_eq_true rfl, Nat.le_of_ble_eq_true rfl⟩ ⟨Nat.le_of_ble_eq_true rfl, Nat.le_of_ble_eq_true rfl⟩ hL (fun v9 H1 locs1 hF9 hL9 => ?_)
  obtain ⟨b9, rfl, hB, hO8⟩ := hF9
  rw [tt_lo_line hk] at hB
  have hKC2 := kc_narrow (kc_kept hKC1 hO8.1 (fun q hq => hO8.2 q (Nat.lt_of_lt_of_le hq hz8))) hz8 hO8.1
  have hX := tx_keep hX (fun k hk => hO8.2 _ (tx_lt hX hk))
  have hG := txG.of hO hO8
  refine lv_astore hx hb d_X_sign_29 hl (by decide) (lv' := [(4, .ref b9), (0, .ref (ad 0)), (1, .int (nI dd)), (2, .int (nI k)), (3, .int (nI j))]) rfl (fun ls hl => ?_)
  refine lv_iload_n hx hb d_X_sign_31 rfl (lv_at hl 4 rfl) ?_
  refine lv_if_lt hx hb d_X_sign_32 (tgt := 44) (by decide) (fun hyes => absurd hyes (by rw [iv_lt0]; omega)) (fun _ => ?_)
  refine lv_iload_n hx hb d_X_sign_35 rfl (lv_at hl 4 rfl) ?_
  refine lv_aload hx hb d_X_sign_36 (lv_at hl 0 rfl) ?_
  refine tq_V ⟨hx, hb, hml, hown, hts⟩ hT (c_S_len l D2 cB _ b9) lk_X_153 wS_mv ⟨hKB, hKC2, hB⟩ (sbS_rc hKB hB) rfl hl.1 rfl (Nat.le_of_ble_eq_true rfl) d_X_sign_38 ⟨rfl, rfl, Nat.le_of_ble_eq_true rfl, Nat.le_of_ble_eq_true rfl⟩ ⟨Nat.le_of_ble_eq_true rfl, Nat.le_of_ble_eq_true rfl⟩ ?_
  refine lv_icmp_lt hx hb d_X_sign_41 (tgt := 54) (by decide) (fun _ => ?_) (fun hno => absurd (nI_lt hj (by omega)) hno)
  refine lv_aload hx hb d_X_sign_54 (lv_at hl 0 rfl) ?_
  refine lv_iload_n hx hb d_X_sign_56 rfl (lv_at hl 4 rfl) ?_
  refine tq_V ⟨hx, hb, hml, hown, hts⟩ hT (c_S_at l D2 cB _ b9 hj) lk_X_161 wS_mv ⟨hKB, hKC2, hB⟩ (sbS_rc hKB hB) rfl hl.1 rfl (Nat.le_of_ble_eq_true rfl) d_X_sign_57 ⟨rfl, rfl, Nat.le_of_ble_eq_true rfl, Nat.le_of_ble_eq_true rfl⟩ ⟨Nat.le_of_ble_eq_true rfl, Nat.le_of_ble_eq_true rfl⟩ ?_
  exact W.iret hx hb hr (fun t ht hW => ⟨_, rfl, rfl, tc1, tn1, by rw [ht]; exact hX, hC, by rw [ht]; exact hG⟩) hL9 d_X_sign_60
set_option maxHeartbeats 4000000 in
set_option maxRecDepth 100000 in
theorem x_X_lineI0 (l : Launch) (htr : l.stackTraces = false) (D : va_G) (ci : Nat → ClassId) (ad : Nat → Nat) (g : TS) (tc td : Int32) (tn : Nat → Int32) (u v : Int32) (hv : ¬ ((0 ≤ u.toInt ∧ u.toInt < (tt_db (tt_day g) 10 : Nat)) ∧ 0 ≤ v.toInt)) : vx_Met l y_X_line (wT y_X_line b_X_line 3 (some .int)) ({ frames := 6, cells := 1, slots := 6, locals := 154 }) (tb (wXCE D ci ad g tc td tn) [.ref (ad 0), .int u, .int v]) tw_N (vx_X (fun u : Int32 × Int32 × (Nat → Int32) => tt_CI g u.1 u.2.1 u.2.2) (fun E u t => E = eI ∧ tx D ci ad g u.1 u.2.1 u.2.2 t.heap) (txF ad)) 1 6 (txF ad) := by
  refine vx_ofW (cc := b_X_line) (maxL := 3) (ret := (some .int)) (by decide) rfl ?_
  intro p e s m args below meth c s₁ B hml hno hv
  obtain ⟨rfl, ⟨hK, hg, hX, hD, hCI⟩, hE⟩ := hv
  have hx := B.exec
  have hb := B.bytes
  have hr := B.returns
  have hts := atoms_spec (ws := wT y_X_line b_X_line 3 (some .int)) B.pre
  have hT : ∀ w ∈ TT, w ∈ wT y_X_line b_X_line 3 (some .int) := wT_T
  have hown : s.vm.findClass RX = some m.cls := findClass_of_methodNamed B.named
  have hlocks := B.notSynchronized
  have hl := lv_entry ([.ref (ad 0), .int u, .int v]) (n := 3) (Nat.le_of_ble_eq_true rfl)
  rw [lg_entry_eq]
  generalize (lg_sl ([.ref (ad 0), .int u, .int v]) ++ List.replicate (3 - (lg_sl ([.ref (ad 0), .int u, .int v])).length) Slot.unset).toArray = ls at hl ⊢
  have hl : lv_has ls 3 [(0, .ref (ad 0)), (1, .int u), (2, .int v)] := hl
  have hL : ∀ q ∈ ([] : List Loc), txF ad q.base := fun q hq => nomatch hq
  have hO : txO ad s.heap s.heap := txO.rf
  have hX0 := hX
  refine lv_aload_n hx hb d_X_line_0 rfl (lv_at hl 0 rfl) ?_
  refine lv_iload_n hx hb d_X_line_1 rfl (lv_at hl 1 rfl) ?_
  refine lv_iload_n hx hb d_X_line_2 rfl (lv_at hl 2 rfl) ?_
  refine tq_V ⟨hx, hb, hml, hown, hts⟩ hT (c_X_isExtreme0 l D ci ad g tc td tn u v hv) lk_X_138 wX_mv ⟨hK, hg, hX⟩ (wX_rc ⟨hK, hg, hX⟩) rfl hl.1 rfl (Nat.le_of_ble_eq_true rfl) d_X_line_3 ⟨rfl, rfl, Nat.le_of_ble_eq_true rfl, Nat.le_of_ble_eq_true rfl⟩ ⟨Nat.zero_le _, Nat.zero_le _⟩ ?_
  refine lv_if_ne hx hb d_X_line_6 (tgt := 19) (by decide) (fun hyes => absurd rfl hyes) (fun _ => ?_)
  exact tw_I hx hb htr hown (fun w h => hts w (hT w h)) hE (A := txF ad) (fun C n d h => vz_mk h (fun a cell h1 h2 => ⟨h1, tx_nst hX0 h1 h2⟩)) (is := 142) (text := "no such day or extreme") (by decide) ⟨Nat.le_of_eq hO.1.symm, fun q _ h => hO.2 q h, hL⟩ (hl.1.trans hml.symm) d_X_line_9 d_X_line_12 d_X_line_13 d_X_line_15 d_X_line_18 hno ⟨by decide, by decide, by decide, by decide⟩ hlocks (fun t ha h1 h2 => ⟨(tc, td, tn), hCI, ⟨rfl, tx_keep hX (fun k hk => h2 _ (tx_lt hX hk))⟩, by rw [← hO.1]; exact h1, fun q hq hn => (h2 q (by rw [hO.1]; exact hq)).trans (hO.2 q hn)⟩) hL (Nat.le_refl _) (Nat.le_refl _)
set_option maxHeartbeats 4000000 in
set_option maxRecDepth 100000 in
theorem x_X_lineI1 (l : Launch) (htr : l.stackTraces = false) (D : va_G) (ci : Nat → ClassId) (ad : Nat → Nat) (g : TS) (tc td : Int32) (tn : Nat → Int32) {dd : Nat} (hd : dd < tt_db (tt_day g) 10) (v : Int32) (hv : 0 ≤ v.toInt) (hv2 : ¬ v.toInt < ((tt_L (tt_dh g dd) 1440).length : Nat)) : vx_Met l y_X_line (wT y_X_line b_X_line 3 (some .int)) ({ frames := 6, cells := 1, slots := 6, locals := 154 }) (tb (wXCE D ci ad g tc td tn) [.ref (ad 0), .int (nI dd), .int v]) tw_N (vx_X (fun u : Int32 × Int32 × (Nat → Int32) => tt_CI g u.1 u.2.1 u.2.2) (fun E u t => E = eI ∧ tx D ci ad g u.1 u.2.1 u.2.2 t.heap) (txF ad)) 1 6 (txF ad) := by
  refine vx_ofW (cc := b_X_line) (maxL := 3) (ret := (some .int)) (by decide) rfl ?_
  intro p e s m args below meth c s₁ B hml hno hv
  obtain ⟨rfl, ⟨hK, hg, hX, hD, hCI⟩, hE⟩ := hv
  have hx := B.exec
  have hb := B.bytes
  have hr := B.returns
  have hts := atoms_spec (ws := wT y_X_line b_X_line 3 (some .int)) B.pre
  have hT : ∀ w ∈ TT, w ∈ wT y_X_line b_X_line 3 (some .int) := wT_T
  have hown : s.vm.findClass RX = some m.cls := findClass_of_methodNamed B.named
  have hlocks := B.notSynchronized
  have hl := lv_entry ([.ref (ad 0), .int (nI dd), .int v]) (n := 3) (Nat.le_of_ble_eq_true rfl)
  rw [lg_entry_eq]
  generalize (lg_sl ([.ref (ad 0), .int (nI dd), .int v]) ++ List.replicate (3 - (lg_sl ([.ref (ad 0), .int (nI dd), .int v])).length) Slot.unset).toArray = ls at hl ⊢
  have hl : lv_has ls 3 [(0, .ref (ad 0)), (1, .int (nI dd)), (2, .int v)] := hl
  have hL : ∀ q ∈ ([] : List Loc), txF ad q.base := fun q hq => nomatch hq
  have hO : txO ad s.heap s.heap := txO.rf
  have hX0 := hX
  refine lv_aload_n hx hb d_X_line_0 rfl (lv_at hl 0 rfl) ?_
  refine lv_iload_n hx hb d_X_line_1 rfl (lv_at hl 1 rfl) ?_
  refine lv_iload_n hx hb d_X_line_2 rfl (lv_at hl 2 rfl) ?_
  refine tq_VW ⟨hx, hb, hml, hown, hts⟩ hT (c_X_isExtreme l D ci ad g tc td tn hd v hv) lk_X_138 wXC_mv ⟨hK, hg, hX, hD, hCI⟩ (wXW_rc hK hX) rfl hl.1 rfl (Nat.le_of_ble_eq_true rfl) d_X_line_3 ⟨rfl, rfl, Nat.le_of_ble_eq_true rfl, Nat.le_of_ble_eq_true rfl⟩ ⟨Nat.zero_le _, Nat.zero_le _⟩ hL (fun v9 H1 locs1 hF9 hL => ?_)
  obtain ⟨rfl, tc1, tn1, hX, hC, hO9⟩ := hF9
  have hO := hO.tr hO9
  refine lv_if_ne hx hb d_X_line_6 (tgt := 19) (by decide) (fun hyes => absurd (by rw [zb, if_neg hv2]) hyes) (fun _ => ?_)
  exact tw_I hx hb htr hown (fun w h => hts w (hT w h)) hE (A := txF ad) (fun C n d h => vz_mk h (fun a cell h1 h2 => ⟨h1, tx_nst hX0 h1 h2⟩)) (is := 142) (text := "no such day or extreme") (by decide) ⟨Nat.le_of_eq hO.1.symm, fun q _ h => hO.2 q h, hL⟩ (hl.1.trans hml.symm) d_X_line_9 d_X_line_12 d_X_line_13 d_X_line_15 d_X_line_18 hno ⟨by decide, by decide, by decide, by decide⟩ hlocks (fun t ha h1 h2 => ⟨(tc1, nI dd, tn1), Or.inr ⟨dd, hd, rfl, hC⟩, ⟨rfl, tx_keep hX (fun k hk => h2 _ (tx_lt hX hk))⟩, by rw [← hO.1]; exact h1, fun q hq hn => (h2 q (by rw [hO.1]; exact hq)).trans (hO.2 q hn)⟩) hL (Nat.le_refl _) (Nat.le_refl _)
set_option maxHeartbeats 4000000 in
set_option maxRecDepth 100000 in
theorem x_X_signI0 (l : Launch) (htr : l.stackTraces = false) (D : va_G) (ci : Nat → ClassId) (ad : Nat → Nat) (g : TS) (tc td : Int32) (tn : Nat → Int32) (u v : Int32) (hv : ¬ ((0 ≤ u.toInt ∧ u.toInt < (tt_db (tt_day g) 10 : Nat)) ∧ 0 ≤ v.toInt)) (x : Int32) : vx_Met l y_X_sign (wT y_X_sign b_X_sign 5 (some .int)) ({ frames := 6, cells := 1, slots := 6, locals := 154 }) (tb (wXCE D ci ad g tc td tn) [.ref (ad 0), .int u, .int v, .int x]) tw_N (vx_X (fun u : Int32 × Int32 × (Nat → Int32) => tt_CI g u.1 u.2.1 u.2.2) (fun E u t => E = eI ∧ tx D ci ad g u.1 u.2.1 u.2.2 t.heap) (txF ad)) 1 6 (txF ad) := by
  refine vx_ofW (cc := b_X_sign) (maxL := 5) (ret := (some .int)) (by decide) rfl ?_
  intro p e s m args below meth c s₁ B hml hno hv
  obtain ⟨rfl, ⟨hK, hg, hX, hD, hCI⟩, hE⟩ := hv
  have hx := B.exec
  have hb := B.bytes
  have hr := B.returns
  have hts := atoms_spec (ws := wT y_X_sign b_X_sign 5 (some .int)) B.pre
  have hT : ∀ w ∈ TT, w ∈ wT y_X_sign b_X_sign 5 (some .int) := wT_T
  have hown : s.vm.findClass RX = some m.cls := findClass_of_methodNamed B.named
  have hlocks := B.notSynchronized
  have hl := lv_entry ([.ref (ad 0), .int u, .int v, .int x]) (n := 5) (Nat.le_of_ble_eq_true rfl)
  rw [lg_entry_eq]
  generalize (lg_sl ([.ref (ad 0), .int u, .int v, .int x]) ++ List.replicate (5 - (lg_sl ([.ref (ad 0), .int u, .int v, .int x])).length) Slot.unset).toArray = ls at hl ⊢
  have hl : lv_has ls 5 [(0, .ref (ad 0)), (1, .int u), (2, .int v), (3, .int x)] := hl
  have hL : ∀ q ∈ ([] : List Loc), txF ad q.base := fun q hq => nomatch hq
  have hO : txO ad s.heap s.heap := txO.rf
  have hX0 := hX
  refine lv_aload_n hx hb d_X_sign_0 rfl (lv_at hl 0 rfl) ?_
  refine lv_iload_n hx hb d_X_sign_1 rfl (lv_at hl 1 rfl) ?_
  refine lv_iload_n hx hb d_X_sign_2 rfl (lv_at hl 2 rfl) ?_
  refine tq_V ⟨hx, hb, hml, hown, hts⟩ hT (c_X_isExtreme0 l D ci ad g tc td tn u v hv) lk_X_138 wX_mv ⟨hK, hg, hX⟩ (wX_rc ⟨hK, hg, hX⟩) rfl hl.1 rfl (Nat.le_of_ble_eq_true rfl) d_X_sign_3 ⟨rfl, rfl, Nat.le_of_ble_eq_true rfl, Nat.le_of_ble_eq_true rfl⟩ ⟨Nat.zero_le _, Nat.zero_le _⟩ ?_
  refine lv_if_ne hx hb d_X_sign_6 (tgt := 19) (by decide) (fun hyes => absurd rfl hyes) (fun _ => ?_)
  exact tw_I hx hb htr hown (fun w h => hts w (hT w h)) hE (A := txF ad) (fun C n d h => vz_mk h (fun a cell h1 h2 => ⟨h1, tx_nst hX0 h1 h2⟩)) (is := 142) (text := "no such day or extreme") (by decide) ⟨Nat.le_of_eq hO.1.symm, fun q _ h => hO.2 q h, hL⟩ (hl.1.trans hml.symm) d_X_sign_9 d_X_sign_12 d_X_sign_13 d_X_sign_15 d_X_sign_18 hno ⟨by decide, by decide, by decide, by decide⟩ hlocks (fun t ha h1 h2 => ⟨(tc, td, tn), hCI, ⟨rfl, tx_keep hX (fun k hk => h2 _ (tx_lt hX hk))⟩, by rw [← hO.1]; exact h1, fun q hq hn => (h2 q (by rw [hO.1]; exact hq)).trans (hO.2 q hn)⟩) hL (Nat.le_refl _) (Nat.le_refl _)
set_option maxHeartbeats 4000000 in
set_option maxRecDepth 100000 in
theorem x_X_signI1 (l : Launch) (htr : l.stackTraces = false) (D : va_G) (ci : Nat → ClassId) (ad : Nat → Nat) (g : TS) (tc td : Int32) (tn : Nat → Int32) {dd : Nat} (hd : dd < tt_db (tt_day g) 10) (v : Int32) (hv : 0 ≤ v.toInt) (hv2 : ¬ v.toInt < ((tt_L (tt_dh g dd) 1440).length : Nat)) (x : Int32) : vx_Met l y_X_sign (wT y_X_sign b_X_sign 5 (some .int)) ({ frames := 6, cells := 1, slots := 6, locals := 154 }) (tb (wXCE D ci ad g tc td tn) [.ref (ad 0), .int (nI dd), .int v, .int x]) tw_N (vx_X (fun u : Int32 × Int32 × (Nat → Int32) => tt_CI g u.1 u.2.1 u.2.2) (fun E u t => E = eI ∧ tx D ci ad g u.1 u.2.1 u.2.2 t.heap) (txF ad)) 1 6 (txF ad) := by
  refine vx_ofW (cc := b_X_sign) (maxL := 5) (ret := (some .int)) (by decide) rfl ?_
  intro p e s m args below meth c s₁ B hml hno hv
  obtain ⟨rfl, ⟨hK, hg, hX, hD, hCI⟩, hE⟩ := hv
  have hx := B.exec
  have hb := B.bytes
  have hr := B.returns
  have hts := atoms_spec (ws := wT y_X_sign b_X_sign 5 (some .int)) B.pre
  have hT : ∀ w ∈ TT, w ∈ wT y_X_sign b_X_sign 5 (some .int) := wT_T
  have hown : s.vm.findClass RX = some m.cls := findClass_of_methodNamed B.named
  have hlocks := B.notSynchronized
  have hl := lv_entry ([.ref (ad 0), .int (nI dd), .int v, .int x]) (n := 5) (Nat.le_of_ble_eq_true rfl)
  rw [lg_entry_eq]
  generalize (lg_sl ([.ref (ad 0), .int (nI dd), .int v, .int x]) ++ List.replicate (5 - (lg_sl ([.ref (ad 0), .int (nI dd), .int v, .int x])).length) Slot.unset).toArray = ls at hl ⊢
  have hl : lv_has ls 5 [(0, .ref (ad 0)), (1, .int (nI dd)), (2, .int v), (3, .int x)] := hl
  have hL : ∀ q ∈ ([] : List Loc), txF ad q.base := fun q hq => nomatch hq
  have hO : txO ad s.heap s.heap := txO.rf
  have hX0 := hX
  refine lv_aload_n hx hb d_X_sign_0 rfl (lv_at hl 0 rfl) ?_
  refine lv_iload_n hx hb d_X_sign_1 rfl (lv_at hl 1 rfl) ?_
  refine lv_iload_n hx hb d_X_sign_2 rfl (lv_at hl 2 rfl) ?_
  refine tq_VW ⟨hx, hb, hml, hown, hts⟩ hT (c_X_isExtreme l D ci ad g tc td tn hd v hv) lk_X_138 wXC_mv ⟨hK, hg, hX, hD, hCI⟩ (wXW_rc hK hX) rfl hl.1 rfl (Nat.le_of_ble_eq_true rfl) d_X_sign_3 ⟨rfl, rfl, Nat.le_of_ble_eq_true rfl, Nat.le_of_ble_eq_true rfl⟩ ⟨Nat.zero_le _, Nat.zero_le _⟩ hL (fun v9 H1 locs1 hF9 hL => ?_)
  obtain ⟨rfl, tc1, tn1, hX, hC, hO9⟩ := hF9
  have hO := hO.tr hO9
  refine lv_if_ne hx hb d_X_sign_6 (tgt := 19) (by decide) (fun hyes => absurd (by rw [zb, if_neg hv2]) hyes) (fun _ => ?_)
  exact tw_I hx hb htr hown (fun w h => hts w (hT w h)) hE (A := txF ad) (fun C n d h => vz_mk h (fun a cell h1 h2 => ⟨h1, tx_nst hX0 h1 h2⟩)) (is := 142) (text := "no such day or extreme") (by decide) ⟨Nat.le_of_eq hO.1.symm, fun q _ h => hO.2 q h, hL⟩ (hl.1.trans hml.symm) d_X_sign_9 d_X_sign_12 d_X_sign_13 d_X_sign_15 d_X_sign_18 hno ⟨by decide, by decide, by decide, by decide⟩ hlocks (fun t ha h1 h2 => ⟨(tc1, nI dd, tn1), Or.inr ⟨dd, hd, rfl, hC⟩, ⟨rfl, tx_keep hX (fun k hk => h2 _ (tx_lt hX hk))⟩, by rw [← hO.1]; exact h1, fun q hq hn => (h2 q (by rw [hO.1]; exact hq)).trans (hO.2 q hn)⟩) hL (Nat.le_refl _) (Nat.le_refl _)
set_option maxHeartbeats 4000000 in
set_option maxRecDepth 100000 in
theorem x_X_signI2 (l : Launch) (htr : l.stackTraces = false) (D : va_G) (ci : Nat → ClassId) (ad : Nat → Nat) (g : TS) (tc td : Int32) (tn : Nat → Int32) (D2 : va_G) (cB : ClassId) (sz0 : Nat) {dd k : Nat} (hd : dd < tt_db (tt_day g) 10) (hk : k < (tt_L (tt_dh g dd) 1440).length) (x : Int32) (hx9 : ¬ (0 ≤ x.toInt ∧ x.toInt < ((tt_line g dd k).length : Nat))) : vx_Met l y_X_sign (wT y_X_sign b_X_sign 5 (some .int)) ({ frames := 9, cells := 22, slots := 672, locals := 224 }) (tb (wXLE D ci ad g tc td tn D2 cB sz0) [.ref (ad 0), .int (nI dd), .int (nI k), .int x]) tw_N (vx_X (fun u : Int32 × Int32 × (Nat → Int32) => tt_CI g u.1 u.2.1 u.2.2) (fun E u t => E = eI ∧ tx D ci ad g u.1 u.2.1 u.2.2 t.heap) (txF ad)) 22 672 (txF ad) := by
  refine vx_ofW (cc := b_X_sign) (maxL := 5) (ret := (some .int)) (by decide) rfl ?_
  intro p e s m args below meth c s₁ B hml hno hv
  obtain ⟨rfl, ⟨⟨hK, hg, hX, hD, hCI⟩, hKB, hKC, hsz⟩, hE⟩ := hv
  have hx := B.exec
  have hb := B.bytes
  have hr := B.returns
  have hts := atoms_spec (ws := wT y_X_sign b_X_sign 5 (some .int)) B.pre
  have hT : ∀ w ∈ TT, w ∈ wT y_X_sign b_X_sign 5 (some .int) := wT_T
  have hown : s.vm.findClass RX = some m.cls := findClass_of_methodNamed B.named
  have hlocks := B.notSynchronized
  have hl := lv_entry ([.ref (ad 0), .int (nI dd), .int (nI k), .int x]) (n := 5) (Nat.le_of_ble_eq_true rfl)
  rw [lg_entry_eq]
  generalize (lg_sl ([.ref (ad 0), .int (nI dd), .int (nI k), .int x]) ++ List.replicate (5 - (lg_sl ([.ref (ad 0), .int (nI dd), .int (nI k), .int x])).length) Slot.unset).toArray = ls at hl ⊢
  have hl : lv_has ls 5 [(0, .ref (ad 0)), (1, .int (nI dd)), (2, .int (nI k)), (3, .int x)] := hl
  have hL : ∀ q ∈ ([] : List Loc), txF ad q.base := fun q hq => nomatch hq
  have hO : txO ad s.heap s.heap := txO.rf
  have hdb := (tt_db_in hg.2.2.2 10 (Nat.le_refl _)).2
  have hlen := tt_L1440 (tt_dh g dd)
  have hLk := tt_L_get hk
  have hTk := tt_T_kind hLk.2
  have ek : (nI k).toInt = k := nI_toInt (by omega)
  have hll := tt_line_len g dd k
  have hX0 := hX
  refine lv_aload_n hx hb d_X_sign_0 rfl (lv_at hl 0 rfl) ?_
  refine lv_iload_n hx hb d_X_sign_1 rfl (lv_at hl 1 rfl) ?_
  refine lv_iload_n hx hb d_X_sign_2 rfl (lv_at hl 2 rfl) ?_
  refine tq_VW ⟨hx, hb, hml, hown, hts⟩ hT (c_X_isExtreme l D ci ad g tc td tn hd (nI k) (by omega)) lk_X_138 wXC_mv ⟨hK, hg, hX, hD, hCI⟩ (wXW_rc hK hX) rfl hl.1 rfl (Nat.le_of_ble_eq_true rfl) d_X_sign_3 ⟨rfl, rfl, Nat.le_of_ble_eq_true rfl, Nat.le_of_ble_eq_true rfl⟩ ⟨Nat.zero_le _, Nat.zero_le _⟩ hL (fun v9 H1 locs1 hF9 hL => ?_)
  obtain ⟨rfl, tc1, tn1, hX, hC, hO9⟩ := hF9
  have hO := hO.tr hO9
  refine lv_if_ne hx hb d_X_sign_6 (tgt := 19) (by decide) (fun _ => ?_) (fun hno => absurd hno (fun z => zb_f z (by omega)))
  refine lv_aload_n hx hb d_X_sign_19 rfl (lv_at hl 0 rfl) ?_
  refine lv_aload_n hx hb d_X_sign_20 rfl (lv_at hl 0 rfl) ?_
  refine va_get hx hb hts (fun w h => hT w (uX_in w h)) hown hK hX.1 0 rfl rfl 7 (by decide) (hts _ (hT _ k_X_33)) (fun _ h => h) rfl d_X_sign_21 ?_
  refine lv_iload_n hx hb d_X_sign_24 rfl (lv_at hl 2 rfl) ?_
  refine tq_iald hx hb hK hX.1 7 0 rfl rfl (show k < 1440 by omega) (by decide) d_X_sign_25 ?_
  refine tq_ti (show _ = (nI (1440 * dd + (tt_L (tt_dh g dd) 1440).getD k 0)) from hC.2 k hk) ?_
  have hKC1 := kc_tx hsz hKC hO
  have hz8 := hKC1.2.2.2.2.2.2
  refine tg_V ⟨hx, hb, hml, hown, hts⟩ hT (c_X_lineOf l D ci ad g tc1 (nI dd) tn1 D2 cB sz0 (txF ad) (mm := (1440 * dd + (tt_L (tt_dh g dd) 1440).getD k 0)) (by omega) (by omega)) lk_X_149 wXB_mv ⟨⟨hK, hg, hX⟩, hKB, hKC1⟩ (wXW_rc hK hX) rfl hl.1 rfl (Nat.le_of_ble_eq_true rfl) d_X_sign_26 ⟨rfl, rfl, Nat.le_of_ble_eq_true rfl, Nat.le_of_ble_eq_true rfl⟩ ⟨Nat.le_of_ble_eq_true rfl, Nat.le_of_ble_eq_true rfl⟩ hL (fun v9 H1 locs1 hF9 hL9 => ?_)
  obtain ⟨b9, rfl, hB, hO8⟩ := hF9
  rw [tt_lo_line hk] at hB
  have hKC2 := kc_narrow (kc_kept hKC1 hO8.1 (fun q hq => hO8.2 q (Nat.lt_of_lt_of_le hq hz8))) hz8 hO8.1
  have hX := tx_keep hX (fun k hk => hO8.2 _ (tx_lt hX hk))
  have hG := txG.of hO hO8
  refine lv_astore hx hb d_X_sign_29 hl (by decide) (lv' := [(4, .ref b9), (0, .ref (ad 0)), (1, .int (nI dd)), (2, .int (nI k)), (3, .int x)]) rfl (fun ls hl => ?_)
  refine lv_iload_n hx hb d_X_sign_31 rfl (lv_at hl 4 rfl) ?_
  refine lv_if_lt hx hb d_X_sign_32 (tgt := 44) (by decide) (fun q1 => ?_) (fun q1 => ?_)
  · have q1 := iv_lt0.mp q1
    exact tw_I hx hb htr hown (fun w h => hts w (hT w h)) hE (A := txF ad) (fun C n d h => vz_mk h (fun a cell h1 h2 => ⟨h1, tx_nst hX0 h1 h2⟩)) (is := 159) (text := "no such character") (by decide) ⟨hG.1, hG.2, hL9⟩ (hl.1.trans hml.symm) d_X_sign_44 d_X_sign_47 d_X_sign_48 d_X_sign_50 d_X_sign_53 hno ⟨by decide, by decide, by decide, by decide⟩ hlocks (fun t ha h1 h2 => ⟨(tc1, nI dd, tn1), Or.inr ⟨dd, hd, rfl, hC⟩, ⟨rfl, tx_keep hX (fun k hk => h2 _ (tx_lt hX hk))⟩, Nat.le_trans hG.1 h1, fun q hq hn => (h2 q (Nat.lt_of_lt_of_le hq hG.1)).trans (hG.2 q hq hn)⟩) hL9 (Nat.le_of_ble_eq_true rfl) (Nat.le_of_ble_eq_true rfl)
  · have q1 := mt iv_lt0.mpr q1
    refine lv_iload_n hx hb d_X_sign_35 rfl (lv_at hl 4 rfl) ?_
    refine lv_aload hx hb d_X_sign_36 (lv_at hl 0 rfl) ?_
    refine tq_V ⟨hx, hb, hml, hown, hts⟩ hT (c_S_len l D2 cB _ b9) lk_X_153 wS_mv ⟨hKB, hKC2, hB⟩ (sbS_rc hKB hB) rfl hl.1 rfl (Nat.le_of_ble_eq_true rfl) d_X_sign_38 ⟨rfl, rfl, Nat.le_of_ble_eq_true rfl, Nat.le_of_ble_eq_true rfl⟩ ⟨Nat.le_of_ble_eq_true rfl, Nat.le_of_ble_eq_true rfl⟩ ?_
    refine lv_icmp_lt hx hb d_X_sign_41 (tgt := 54) (by decide) (fun q2 => ?_) (fun q2 => ?_)
    · have q2 := Int32.lt_iff_toInt_lt.mp q2
      rw [nI_toInt (n := (tt_line g dd k).length) (by omega)] at q2
      exfalso
      omega
    · have q2 := mt Int32.lt_iff_toInt_lt.mpr q2
      rw [nI_toInt (n := (tt_line g dd k).length) (by omega)] at q2
      exact tw_I hx hb htr hown (fun w h => hts w (hT w h)) hE (A := txF ad) (fun C n d h => vz_mk h (fun a cell h1 h2 => ⟨h1, tx_nst hX0 h1 h2⟩)) (is := 159) (text := "no such character") (by decide) ⟨hG.1, hG.2, hL9⟩ (hl.1.trans hml.symm) d_X_sign_44 d_X_sign_47 d_X_sign_48 d_X_sign_50 d_X_sign_53 hno ⟨by decide, by decide, by decide, by decide⟩ hlocks (fun t ha h1 h2 => ⟨(tc1, nI dd, tn1), Or.inr ⟨dd, hd, rfl, hC⟩, ⟨rfl, tx_keep hX (fun k hk => h2 _ (tx_lt hX hk))⟩, Nat.le_trans hG.1 h1, fun q hq hn => (h2 q (Nat.lt_of_lt_of_le hq hG.1)).trans (hG.2 q hq hn)⟩) hL9 (Nat.le_of_ble_eq_true rfl) (Nat.le_of_ble_eq_true rfl)
