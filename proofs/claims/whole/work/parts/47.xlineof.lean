/-! the class's lines: a line. Written by wip/whole/gen.py -/
def wXB (D : va_G) (ci : Nat → ClassId) (ad : Nat → Nat) (g : TS) (tc td : Int32) (tn : Nat → Int32) (D2 : va_G) (cB : ClassId) (sz0 : Nat) (U : State) (H : Heap) : Prop := wX D ci ad g tc td tn U H ∧ tkB D2 cB U ∧ kc sz0 U H
theorem wXB_mv {D : va_G} {ci : Nat → ClassId} {ad : Nat → Nat} {g : TS} {tc td : Int32} {tn : Nat → Int32} {D2 : va_G} {cB : ClassId} {sz0 : Nat} : tmov (wXB D ci ad g tc td tn D2 cB sz0) := fun _ _ _ hW h => ⟨wX_mv _ _ _ hW h.1, tkB_mv hW h.2.1, kc_mv _ _ _ hW h.2.2⟩
/-- the line of the extreme at minute m -/
def tt_lo (g : TS) (m : Nat) : List Nat := tt_ln (tt_yr g m) ((m - tt_fst g (tt_yr g m)) / 1440) ((m - tt_fst g (tt_yr g m)) % 1440) (decide (tt_hgt g (m - 1) < tt_hgt g m)) (tt_hgt g m)
set_option maxHeartbeats 4000000 in
set_option maxRecDepth 100000 in
theorem c_X_lineOf (l : Launch) (D : va_G) (ci : Nat → ClassId) (ad : Nat → Nat) (g : TS) (tc td : Int32) (tn : Nat → Int32) (D2 : va_G) (cB : ClassId) (sz0 : Nat) (Fr : Nat → Prop) {mm : Nat} (h0 : 1 ≤ mm) (hmm : mm < 2147483648) : Met l y_X_lineOf (wT y_X_lineOf b_X_lineOf 6 (some (.object "java/lang/StringBuilder"))) ({ frames := 8, cells := 21, slots := 666, locals := 199 }) (tb (wXB D ci ad g tc td tn D2 cB sz0) [.ref (ad 0), .int (nI mm)]) (tq_Q (fun o9 H H1 => ∃ b9, o9 = some (.ref b9) ∧ sbS D2 cB H.size b9 (tt_lo g mm) H1 ∧ sO H.size H H1)) 21 666 Fr := by
  refine Met.ofW (cc := b_X_lineOf) (maxL := 6) (ret := (some (.object "java/lang/StringBuilder"))) (by decide) rfl ?_
  intro p e s m args below meth c s₁ B hml hv
  obtain ⟨rfl, ⟨hK, hg, hX⟩, hKB, hC0⟩ := hv
  have hx := B.exec
  have hb := B.bytes
  have hr := B.returns
  have hts := atoms_spec (ws := wT y_X_lineOf b_X_lineOf 6 (some (.object "java/lang/StringBuilder"))) B.pre
  have hT : ∀ w ∈ TT, w ∈ wT y_X_lineOf b_X_lineOf 6 (some (.object "java/lang/StringBuilder")) := wT_T
  have hown : s.vm.findClass RX = some m.cls := findClass_of_methodNamed B.named
  have hlocks := B.notSynchronized
  have hl := lv_entry ([.ref (ad 0), .int (nI mm)]) (n := 6) (Nat.le_of_ble_eq_true rfl)
  rw [lg_entry_eq]
  generalize (lg_sl ([.ref (ad 0), .int (nI mm)]) ++ List.replicate (6 - (lg_sl ([.ref (ad 0), .int (nI mm)])).length) Slot.unset).toArray = ls at hl ⊢
  have hl : lv_has ls 6 [(0, .ref (ad 0)), (1, .int (nI mm))] := hl
  have hC : kc s.heap.size s s.heap := kc_narrow hC0 hC0.2.2.2.2.2.2 (Nat.le_refl _)
  have hL9 : ∀ q ∈ ([] : List Loc), aSz s.heap.size q.base := fun q hq => nomatch hq
  have hyl := tt_yr_lt g mm
  have hyf : tt_fst g (tt_yr g mm) ≤ mm := tt_yrA_fst (tt_day g) mm 9
  have hhh := tt_hgt_in hg mm
  refine lv_aload_n hx hb d_X_lineOf_0 rfl (lv_at hl 0 rfl) ?_
  refine lv_iload_n hx hb d_X_lineOf_1 rfl (lv_at hl 1 rfl) ?_
  refine tq_V ⟨hx, hb, hml, hown, hts⟩ hT (c_X_yearOf l D ci ad g tc td tn hmm) lk_X_103 wX_mv ⟨hK, hg, hX⟩ (wX_rc ⟨hK, hg, hX⟩) rfl hl.1 rfl (Nat.le_of_ble_eq_true rfl) d_X_lineOf_2 ⟨rfl, rfl, Nat.le_of_ble_eq_true rfl, Nat.le_of_ble_eq_true rfl⟩ ⟨Nat.zero_le _, Nat.zero_le _⟩ ?_
  refine lv_istore_n hx hb d_X_lineOf_5 rfl hl (by decide) (lv' := [(2, .int (nI (tt_yr g mm))), (0, .ref (ad 0)), (1, .int (nI mm))]) rfl (fun ls hl => ?_)
  refine lv_iload_n hx hb d_X_lineOf_6 rfl (lv_at hl 2 rfl) ?_
  refine lv_aload_n hx hb d_X_lineOf_7 rfl (lv_at hl 1 rfl) ?_
  refine va_get hx hb hts (fun w h => hT w (uX_in w h)) hown hK hX.1 0 rfl rfl 6 (by decide) (hts _ (hT _ k_X_30)) (fun _ h => h) rfl d_X_lineOf_8 ?_
  refine lv_iload_n hx hb d_X_lineOf_11 rfl (lv_at hl 0 rfl) ?_
  refine tq_iald hx hb hK hX.1 6 0 rfl rfl (show tt_yr g mm < 11 by omega) (by decide) d_X_lineOf_12 ?_
  refine lv_isub hx hb d_X_lineOf_13 ?_
  refine tq_ti (show _ = (nI (mm - tt_fst g (tt_yr g mm))) from pk_sub hyf) ?_
  refine lv_istore_n hx hb d_X_lineOf_14 rfl hl (by decide) (lv' := [(3, .int (nI (mm - tt_fst g (tt_yr g mm)))), (2, .int (nI (tt_yr g mm))), (0, .ref (ad 0)), (1, .int (nI mm))]) rfl (fun ls hl => ?_)
  refine lv_iload_n hx hb d_X_lineOf_15 rfl (lv_at hl 0 rfl) ?_
  refine lv_sipush hx hb d_X_lineOf_16 (v := (nI 1440)) rfl ?_
  refine lv_irem hx hb d_X_lineOf_19 (by decide) ?_
  refine tq_ti (show _ = (nI ((mm - tt_fst g (tt_yr g mm)) % 1440)) from pk_rem (by omega) (by decide) (by decide)) ?_
  refine lv_istore hx hb d_X_lineOf_20 hl (by decide) (lv' := [(4, .int (nI ((mm - tt_fst g (tt_yr g mm)) % 1440))), (3, .int (nI (mm - tt_fst g (tt_yr g mm)))), (2, .int (nI (tt_yr g mm))), (0, .ref (ad 0)), (1, .int (nI mm))]) rfl (fun ls hl => ?_)
  refine va_new (ci := 0) (ws := []) (A := aSz s.heap.size) (H0 := s.heap) (fs := [.null, .int 0, .int 0, .int (nI 0)]) hx hb hts (fun w h => hT w (uS_in w h)) tSB tSB_ok hown (hts _ (hT _ k_X_154)) (hts _ (hT _ k_in_S)) (hts _ (hT _ k_ini_StringBuilder)) hKB (fun k q hk => absurd hk (by simp)) ⟨fun i j p q hi => absurd hi (by simp), fun k q hk => absurd hk (by simp)⟩ va_S.rf (fun q h => h) rfl (fun j hj => by match j, hj with | 0, _ => rfl | 1, _ => rfl | 2, _ => rfl | 3, _ => rfl) (Nat.le_of_ble_eq_true rfl) (Nat.le_of_ble_eq_true rfl) d_X_lineOf_22 (fun b9 H1 hP1 hD1 hS1 => ?_)
  have hO := sO.of (Nat.le_refl _) hS1
  have hC1 := kc_kept hC hO.1 hO.2
  have hb9 : s.heap.size ≤ b9 := hD1.2 0 _ rfl
  refine lv_dup hx hb d_X_lineOf_25 rfl ?_
  refine tg_I ⟨hx, hb, hml, hown, hts⟩ hT (c_S_init l D2 cB s.heap.size b9 hb9) lk_X_199 wB_mv ⟨hKB, hC1, hP1⟩ rfl hl.1 rfl (Nat.le_of_ble_eq_true rfl) d_X_lineOf_26 ⟨rfl, rfl, Nat.le_of_ble_eq_true rfl, Nat.le_of_ble_eq_true rfl⟩ ⟨Nat.le_of_ble_eq_true rfl, Nat.le_of_ble_eq_true rfl⟩ hL9 (fun v9 H1 locs1 hF9 hL9 => ?_)
  obtain ⟨rfl, hB, hO9⟩ := hF9
  have hO := hO.tr hO9
  have hC1 := kc_kept hC hO.1 hO.2
  refine lv_astore hx hb d_X_lineOf_29 hl (by decide) (lv' := [(5, .ref b9), (4, .int (nI ((mm - tt_fst g (tt_yr g mm)) % 1440))), (3, .int (nI (mm - tt_fst g (tt_yr g mm)))), (2, .int (nI (tt_yr g mm))), (0, .ref (ad 0)), (1, .int (nI mm))]) rfl (fun ls hl => ?_)
  refine lv_aload hx hb d_X_lineOf_31 (lv_at hl 0 rfl) ?_
  refine lv_iload_n hx hb d_X_lineOf_33 rfl (lv_at hl 3 rfl) ?_
  refine lv_iconst hx hb d_X_lineOf_34 (v := (nI 1)) rfl ?_
  refine tg_S ⟨hx, hb, hml, hown, hts⟩ hT (c_X_appendDigits1 l D2 cB s.heap.size b9 (L := []) (v := (tt_yr g mm)) (by omega) (Nat.le_of_ble_eq_true rfl)) lk_X_200 wS_mv ⟨hKB, hC1, hB⟩ rfl hl.1 rfl (Nat.le_of_ble_eq_true rfl) d_X_lineOf_35 ⟨rfl, rfl, Nat.le_of_ble_eq_true rfl, Nat.le_of_ble_eq_true rfl⟩ ⟨Nat.le_of_ble_eq_true rfl, Nat.le_of_ble_eq_true rfl⟩ hL9 (fun v9 H1 locs1 hF9 hL9 => ?_)
  obtain ⟨rfl, hB, hO9⟩ := hF9
  have hO := hO.tr hO9
  have hC1 := kc_kept hC hO.1 hO.2
  have hB : sbS D2 cB s.heap.size b9 [tt_dg (tt_yr g mm) 1] H1 := hB
  refine lv_aload hx hb d_X_lineOf_38 (lv_at hl 0 rfl) ?_
  refine lv_bipush hx hb d_X_lineOf_40 (v := (nI 32)) rfl ?_
  refine tg_V ⟨hx, hb, hml, hown, hts⟩ hT (c_S_appC l D2 cB s.heap.size b9 (L := [tt_dg (tt_yr g mm) 1]) (ch := 32) (by decide) (Nat.le_of_ble_eq_true rfl)) lk_X_204 wS_mv ⟨hKB, hC1, hB⟩ (sbS_rc hKB hB) rfl hl.1 rfl (Nat.le_of_ble_eq_true rfl) d_X_lineOf_42 ⟨rfl, rfl, Nat.le_of_ble_eq_true rfl, Nat.le_of_ble_eq_true rfl⟩ ⟨Nat.le_of_ble_eq_true rfl, Nat.le_of_ble_eq_true rfl⟩ hL9 (fun v9 H1 locs1 hF9 hL9 => ?_)
  obtain ⟨rfl, hB, hO9⟩ := hF9
  have hO := hO.tr hO9
  have hC1 := kc_kept hC hO.1 hO.2
  have hB : sbS D2 cB s.heap.size b9 [tt_dg (tt_yr g mm) 1, 32] H1 := hB
  refine lv_pop hx hb d_X_lineOf_45 rfl ?_
  refine lv_aload hx hb d_X_lineOf_46 (lv_at hl 0 rfl) ?_
  refine lv_iload_n hx hb d_X_lineOf_48 rfl (lv_at hl 2 rfl) ?_
  refine lv_sipush hx hb d_X_lineOf_49 (v := (nI 1440)) rfl ?_
  refine lv_idiv hx hb d_X_lineOf_52 (by decide) ?_
  refine tq_ti (show _ = (nI ((mm - tt_fst g (tt_yr g mm)) / 1440)) from pk_div (by omega) (by decide) (by decide)) ?_
  refine lv_bipush hx hb d_X_lineOf_53 (v := (nI 100)) rfl ?_
  refine tg_S ⟨hx, hb, hml, hown, hts⟩ hT (c_X_appendDigits3 l D2 cB s.heap.size b9 (L := [tt_dg (tt_yr g mm) 1, 32]) (v := ((mm - tt_fst g (tt_yr g mm)) / 1440)) (by omega) (Nat.le_of_ble_eq_true rfl)) lk_X_200 wS_mv ⟨hKB, hC1, hB⟩ rfl hl.1 rfl (Nat.le_of_ble_eq_true rfl) d_X_lineOf_55 ⟨rfl, rfl, Nat.le_of_ble_eq_true rfl, Nat.le_of_ble_eq_true rfl⟩ ⟨Nat.le_of_ble_eq_true rfl, Nat.le_of_ble_eq_true rfl⟩ hL9 (fun v9 H1 locs1 hF9 hL9 => ?_)
  obtain ⟨rfl, hB, hO9⟩ := hF9
  have hO := hO.tr hO9
  have hC1 := kc_kept hC hO.1 hO.2
  have hB : sbS D2 cB s.heap.size b9 [tt_dg (tt_yr g mm) 1, 32, tt_dg ((mm - tt_fst g (tt_yr g mm)) / 1440) 100, tt_dg ((mm - tt_fst g (tt_yr g mm)) / 1440) 10, tt_dg ((mm - tt_fst g (tt_yr g mm)) / 1440) 1] H1 := hB
  refine lv_aload hx hb d_X_lineOf_58 (lv_at hl 0 rfl) ?_
  refine lv_bipush hx hb d_X_lineOf_60 (v := (nI 32)) rfl ?_
  refine tg_V ⟨hx, hb, hml, hown, hts⟩ hT (c_S_appC l D2 cB s.heap.size b9 (L := [tt_dg (tt_yr g mm) 1, 32, tt_dg ((mm - tt_fst g (tt_yr g mm)) / 1440) 100, tt_dg ((mm - tt_fst g (tt_yr g mm)) / 1440) 10, tt_dg ((mm - tt_fst g (tt_yr g mm)) / 1440) 1]) (ch := 32) (by decide) (Nat.le_of_ble_eq_true rfl)) lk_X_204 wS_mv ⟨hKB, hC1, hB⟩ (sbS_rc hKB hB) rfl hl.1 rfl (Nat.le_of_ble_eq_true rfl) d_X_lineOf_62 ⟨rfl, rfl, Nat.le_of_ble_eq_true rfl, Nat.le_of_ble_eq_true rfl⟩ ⟨Nat.le_of_ble_eq_true rfl, Nat.le_of_ble_eq_true rfl⟩ hL9 (fun v9 H1 locs1 hF9 hL9 => ?_)
  obtain ⟨rfl, hB, hO9⟩ := hF9
  have hO := hO.tr hO9
  have hC1 := kc_kept hC hO.1 hO.2
  have hB : sbS D2 cB s.heap.size b9 [tt_dg (tt_yr g mm) 1, 32, tt_dg ((mm - tt_fst g (tt_yr g mm)) / 1440) 100, tt_dg ((mm - tt_fst g (tt_yr g mm)) / 1440) 10, tt_dg ((mm - tt_fst g (tt_yr g mm)) / 1440) 1, 32] H1 := hB
  refine lv_pop hx hb d_X_lineOf_65 rfl ?_
  refine lv_aload hx hb d_X_lineOf_66 (lv_at hl 0 rfl) ?_
  refine lv_iload hx hb d_X_lineOf_68 (lv_at hl 1 rfl) ?_
  refine lv_bipush hx hb d_X_lineOf_70 (v := (nI 60)) rfl ?_
  refine lv_idiv hx hb d_X_lineOf_72 (by decide) ?_
  refine tq_ti (show _ = (nI (((mm - tt_fst g (tt_yr g mm)) % 1440) / 60)) from pk_div (by omega) (by decide) (by decide)) ?_
  refine lv_bipush hx hb d_X_lineOf_73 (v := (nI 10)) rfl ?_
  refine tg_S ⟨hx, hb, hml, hown, hts⟩ hT (c_X_appendDigits2 l D2 cB s.heap.size b9 (L := [tt_dg (tt_yr g mm) 1, 32, tt_dg ((mm - tt_fst g (tt_yr g mm)) / 1440) 100, tt_dg ((mm - tt_fst g (tt_yr g mm)) / 1440) 10, tt_dg ((mm - tt_fst g (tt_yr g mm)) / 1440) 1, 32]) (v := (((mm - tt_fst g (tt_yr g mm)) % 1440) / 60)) (by omega) (Nat.le_of_ble_eq_true rfl)) lk_X_200 wS_mv ⟨hKB, hC1, hB⟩ rfl hl.1 rfl (Nat.le_of_ble_eq_true rfl) d_X_lineOf_75 ⟨rfl, rfl, Nat.le_of_ble_eq_true rfl, Nat.le_of_ble_eq_true rfl⟩ ⟨Nat.le_of_ble_eq_true rfl, Nat.le_of_ble_eq_true rfl⟩ hL9 (fun v9 H1 locs1 hF9 hL9 => ?_)
  obtain ⟨rfl, hB, hO9⟩ := hF9
  have hO := hO.tr hO9
  have hC1 := kc_kept hC hO.1 hO.2
  have hB : sbS D2 cB s.heap.size b9 [tt_dg (tt_yr g mm) 1, 32, tt_dg ((mm - tt_fst g (tt_yr g mm)) / 1440) 100, tt_dg ((mm - tt_fst g (tt_yr g mm)) / 1440) 10, tt_dg ((mm - tt_fst g (tt_yr g mm)) / 1440) 1, 32, tt_dg (((mm - tt_fst g (tt_yr g mm)) % 1440) / 60) 10, tt_dg (((mm - tt_fst g (tt_yr g mm)) % 1440) / 60) 1] H1 := hB
  refine lv_aload hx hb d_X_lineOf_78 (lv_at hl 0 rfl) ?_
  refine lv_bipush hx hb d_X_lineOf_80 (v := (nI 58)) rfl ?_
  refine tg_V ⟨hx, hb, hml, hown, hts⟩ hT (c_S_appC l D2 cB s.heap.size b9 (L := [tt_dg (tt_yr g mm) 1, 32, tt_dg ((mm - tt_fst g (tt_yr g mm)) / 1440) 100, tt_dg ((mm - tt_fst g (tt_yr g mm)) / 1440) 10, tt_dg ((mm - tt_fst g (tt_yr g mm)) / 1440) 1, 32, tt_dg (((mm - tt_fst g (tt_yr g mm)) % 1440) / 60) 10, tt_dg (((mm - tt_fst g (tt_yr g mm)) % 1440) / 60) 1]) (ch := 58) (by decide) (Nat.le_of_ble_eq_true rfl)) lk_X_204 wS_mv ⟨hKB, hC1, hB⟩ (sbS_rc hKB hB) rfl hl.1 rfl (Nat.le_of_ble_eq_true rfl) d_X_lineOf_82 ⟨rfl, rfl, Nat.le_of_ble_eq_true rfl, Nat.le_of_ble_eq_true rfl⟩ ⟨Nat.le_of_ble_eq_true rfl, Nat.le_of_ble_eq_true rfl⟩ hL9 (fun v9 H1 locs1 hF9 hL9 => ?_)
  obtain ⟨rfl, hB, hO9⟩ := hF9
  have hO := hO.tr hO9
  have hC1 := kc_kept hC hO.1 hO.2
  have hB : sbS D2 cB s.heap.size b9 [tt_dg (tt_yr g mm) 1, 32, tt_dg ((mm - tt_fst g (tt_yr g mm)) / 1440) 100, tt_dg ((mm - tt_fst g (tt_yr g mm)) / 1440) 10, tt_dg ((mm - tt_fst g (tt_yr g mm)) / 1440) 1, 32, tt_dg (((mm - tt_fst g (tt_yr g mm)) % 1440) / 60) 10, tt_dg (((mm - tt_fst g (tt_yr g mm)) % 1440) / 60) 1, 58] H1 := hB
  refine lv_pop hx hb d_X_lineOf_85 rfl ?_
  refine lv_aload hx hb d_X_lineOf_86 (lv_at hl 0 rfl) ?_
  refine lv_iload hx hb d_X_lineOf_88 (lv_at hl 1 rfl) ?_
  refine lv_bipush hx hb d_X_lineOf_90 (v := (nI 60)) rfl ?_
  refine lv_irem hx hb d_X_lineOf_92 (by decide) ?_
  refine tq_ti (show _ = (nI (((mm - tt_fst g (tt_yr g mm)) % 1440) % 60)) from pk_rem (by omega) (by decide) (by decide)) ?_
  refine lv_bipush hx hb d_X_lineOf_93 (v := (nI 10)) rfl ?_
  refine tg_S ⟨hx, hb, hml, hown, hts⟩ hT (c_X_appendDigits2 l D2 cB s.heap.size b9 (L := [tt_dg (tt_yr g mm) 1, 32, tt_dg ((mm - tt_fst g (tt_yr g mm)) / 1440) 100, tt_dg ((mm - tt_fst g (tt_yr g mm)) / 1440) 10, tt_dg ((mm - tt_fst g (tt_yr g mm)) / 1440) 1, 32, tt_dg (((mm - tt_fst g (tt_yr g mm)) % 1440) / 60) 10, tt_dg (((mm - tt_fst g (tt_yr g mm)) % 1440) / 60) 1, 58]) (v := (((mm - tt_fst g (tt_yr g mm)) % 1440) % 60)) (by omega) (Nat.le_of_ble_eq_true rfl)) lk_X_200 wS_mv ⟨hKB, hC1, hB⟩ rfl hl.1 rfl (Nat.le_of_ble_eq_true rfl) d_X_lineOf_95 ⟨rfl, rfl, Nat.le_of_ble_eq_true rfl, Nat.le_of_ble_eq_true rfl⟩ ⟨Nat.le_of_ble_eq_true rfl, Nat.le_of_ble_eq_true rfl⟩ hL9 (fun v9 H1 locs1 hF9 hL9 => ?_)
  obtain ⟨rfl, hB, hO9⟩ := hF9
  have hO := hO.tr hO9
  have hC1 := kc_kept hC hO.1 hO.2
  have hB : sbS D2 cB s.heap.size b9 [tt_dg (tt_yr g mm) 1, 32, tt_dg ((mm - tt_fst g (tt_yr g mm)) / 1440) 100, tt_dg ((mm - tt_fst g (tt_yr g mm)) / 1440) 10, tt_dg ((mm - tt_fst g (tt_yr g mm)) / 1440) 1, 32, tt_dg (((mm - tt_fst g (tt_yr g mm)) % 1440) / 60) 10, tt_dg (((mm - tt_fst g (tt_yr g mm)) % 1440) / 60) 1, 58, tt_dg (((mm - tt_fst g (tt_yr g mm)) % 1440) % 60) 10, tt_dg (((mm - tt_fst g (tt_yr g mm)) % 1440) % 60) 1] H1 := hB
  refine lv_aload hx hb d_X_lineOf_98 (lv_at hl 0 rfl) ?_
  refine lv_aload_n hx hb d_X_lineOf_100 rfl (lv_at hl 4 rfl) ?_
  refine lv_iload_n hx hb d_X_lineOf_101 rfl (lv_at hl 5 rfl) ?_
  have hX1 := tx_keep hX (fun k hk => hO.2 _ (tx_lt hX hk))
  refine tq_V ⟨hx, hb, hml, hown, hts⟩ hT (c_X_isHigh l D ci ad g tc td tn h0 hmm) lk_X_144 wX_mv ⟨hK, hg, hX1⟩ (wX_rc ⟨hK, hg, hX1⟩) rfl hl.1 rfl (Nat.le_of_ble_eq_true rfl) d_X_lineOf_102 ⟨rfl, rfl, Nat.le_of_ble_eq_true rfl, Nat.le_of_ble_eq_true rfl⟩ ⟨Nat.le_of_ble_eq_true rfl, Nat.le_of_ble_eq_true rfl⟩ ?_
  obtain ⟨adK, adV, hE, hR0, hR1⟩ := hC.2.2.2.2.1
  have hE1 := kS_kept hE hO.2
  refine lv_if_eq hx hb d_X_lineOf_105 (tgt := 113) (by decide) (fun h1 => ?_) (fun h1 => ?_)
  · have h1 := zb_f h1
    refine va_ldcS hx hb hown hR1 d_X_lineOf_113 ?_
    refine tg_V ⟨hx, hb, hml, hown, hts⟩ hT (c_S_appS l D2 cB s.heap.size b9 (L := [tt_dg (tt_yr g mm) 1, 32, tt_dg ((mm - tt_fst g (tt_yr g mm)) / 1440) 100, tt_dg ((mm - tt_fst g (tt_yr g mm)) / 1440) 10, tt_dg ((mm - tt_fst g (tt_yr g mm)) / 1440) 1, 32, tt_dg (((mm - tt_fst g (tt_yr g mm)) % 1440) / 60) 10, tt_dg (((mm - tt_fst g (tt_yr g mm)) % 1440) / 60) 1, 58, tt_dg (((mm - tt_fst g (tt_yr g mm)) % 1440) % 60) 10, tt_dg (((mm - tt_fst g (tt_yr g mm)) % 1440) % 60) 1]) adK adV (i := 1) (by decide) (Nat.le_of_ble_eq_true rfl)) lk_X_212 wSK_mv ⟨⟨hKB, hC1, hB⟩, hE1⟩ (sbS_rc hKB hB) rfl hl.1 rfl (Nat.le_of_ble_eq_true rfl) d_X_lineOf_115 ⟨rfl, rfl, Nat.le_of_ble_eq_true rfl, Nat.le_of_ble_eq_true rfl⟩ ⟨Nat.le_of_ble_eq_true rfl, Nat.le_of_ble_eq_true rfl⟩ hL9 (fun v9 H1 locs1 hF9 hL9 => ?_)
    obtain ⟨rfl, hB, hO9⟩ := hF9
    have hO := hO.tr hO9
    have hC1 := kc_kept hC hO.1 hO.2
    refine lv_pop hx hb d_X_lineOf_118 rfl ?_
    refine lv_aload hx hb d_X_lineOf_119 (lv_at hl 0 rfl) ?_
    refine lv_aload_n hx hb d_X_lineOf_121 rfl (lv_at hl 4 rfl) ?_
    refine lv_iload_n hx hb d_X_lineOf_122 rfl (lv_at hl 5 rfl) ?_
    have hX1 := tx_keep hX (fun k hk => hO.2 _ (tx_lt hX hk))
    refine tq_V ⟨hx, hb, hml, hown, hts⟩ hT (c_X_heightAt l D ci ad g tc td tn hmm) lk_X_119 wX_mv ⟨hK, hg, hX1⟩ (wX_rc ⟨hK, hg, hX1⟩) rfl hl.1 rfl (Nat.le_of_ble_eq_true rfl) d_X_lineOf_123 ⟨rfl, rfl, Nat.le_of_ble_eq_true rfl, Nat.le_of_ble_eq_true rfl⟩ ⟨Nat.le_of_ble_eq_true rfl, Nat.le_of_ble_eq_true rfl⟩ ?_
    refine tg_S ⟨hx, hb, hml, hown, hts⟩ hT (c_X_appendHeight l D2 cB s.heap.size b9 (L := [tt_dg (tt_yr g mm) 1, 32, tt_dg ((mm - tt_fst g (tt_yr g mm)) / 1440) 100, tt_dg ((mm - tt_fst g (tt_yr g mm)) / 1440) 10, tt_dg ((mm - tt_fst g (tt_yr g mm)) / 1440) 1, 32, tt_dg (((mm - tt_fst g (tt_yr g mm)) % 1440) / 60) 10, tt_dg (((mm - tt_fst g (tt_yr g mm)) % 1440) / 60) 1, 58, tt_dg (((mm - tt_fst g (tt_yr g mm)) % 1440) % 60) 10, tt_dg (((mm - tt_fst g (tt_yr g mm)) % 1440) % 60) 1] ++ sb_cs 1) (z := tt_hgt g mm) (by omega) (by omega) (Nat.le_of_ble_eq_true rfl)) lk_X_215 wS_mv ⟨hKB, hC1, hB⟩ rfl hl.1 rfl (Nat.le_of_ble_eq_true rfl) d_X_lineOf_126 ⟨rfl, rfl, Nat.le_of_ble_eq_true rfl, Nat.le_of_ble_eq_true rfl⟩ ⟨Nat.le_of_ble_eq_true rfl, Nat.le_of_ble_eq_true rfl⟩ hL9 (fun v9 H1 locs1 hF9 hL9 => ?_)
    obtain ⟨rfl, hB, hO9⟩ := hF9
    have hO := hO.tr hO9
    have hC1 := kc_kept hC hO.1 hO.2
    refine lv_aload hx hb d_X_lineOf_129 (lv_at hl 0 rfl) ?_
    have e9 : [tt_dg (tt_yr g mm) 1, 32, tt_dg ((mm - tt_fst g (tt_yr g mm)) / 1440) 100, tt_dg ((mm - tt_fst g (tt_yr g mm)) / 1440) 10, tt_dg ((mm - tt_fst g (tt_yr g mm)) / 1440) 1, 32, tt_dg (((mm - tt_fst g (tt_yr g mm)) % 1440) / 60) 10, tt_dg (((mm - tt_fst g (tt_yr g mm)) % 1440) / 60) 1, 58, tt_dg (((mm - tt_fst g (tt_yr g mm)) % 1440) % 60) 10, tt_dg (((mm - tt_fst g (tt_yr g mm)) % 1440) % 60) 1] ++ sb_cs 1 ++ tt_ht (tt_hgt g mm) = tt_lo g mm := by unfold tt_lo tt_ln; rw [decide_eq_false h1]; rfl
    rw [e9] at hB
    refine va_forget (fun q hq => hL9 q hq) ?_
    exact W.aret hx hb hr (Or.inl ⟨_, rfl⟩) (Or.inr ⟨_, rfl⟩) (fun t ht hW => ⟨_, rfl, b9, rfl, by rw [ht]; exact hB, by rw [ht]; exact hO⟩) (fun q hq => nomatch hq) d_X_lineOf_131
  · have h1 := zb_t h1
    refine va_ldcS hx hb hown hR0 d_X_lineOf_108 ?_
    refine lv_goto hx hb d_X_lineOf_110 (tgt := 115) (by decide) ?_
    refine tg_V ⟨hx, hb, hml, hown, hts⟩ hT (c_S_appS l D2 cB s.heap.size b9 (L := [tt_dg (tt_yr g mm) 1, 32, tt_dg ((mm - tt_fst g (tt_yr g mm)) / 1440) 100, tt_dg ((mm - tt_fst g (tt_yr g mm)) / 1440) 10, tt_dg ((mm - tt_fst g (tt_yr g mm)) / 1440) 1, 32, tt_dg (((mm - tt_fst g (tt_yr g mm)) % 1440) / 60) 10, tt_dg (((mm - tt_fst g (tt_yr g mm)) % 1440) / 60) 1, 58, tt_dg (((mm - tt_fst g (tt_yr g mm)) % 1440) % 60) 10, tt_dg (((mm - tt_fst g (tt_yr g mm)) % 1440) % 60) 1]) adK adV (i := 0) (by decide) (Nat.le_of_ble_eq_true rfl)) lk_X_212 wSK_mv ⟨⟨hKB, hC1, hB⟩, hE1⟩ (sbS_rc hKB hB) rfl hl.1 rfl (Nat.le_of_ble_eq_true rfl) d_X_lineOf_115 ⟨rfl, rfl, Nat.le_of_ble_eq_true rfl, Nat.le_of_ble_eq_true rfl⟩ ⟨Nat.le_of_ble_eq_true rfl, Nat.le_of_ble_eq_true rfl⟩ hL9 (fun v9 H1 locs1 hF9 hL9 => ?_)
    obtain ⟨rfl, hB, hO9⟩ := hF9
    have hO := hO.tr hO9
    have hC1 := kc_kept hC hO.1 hO.2
    refine lv_pop hx hb d_X_lineOf_118 rfl ?_
    refine lv_aload hx hb d_X_lineOf_119 (lv_at hl 0 rfl) ?_
    refine lv_aload_n hx hb d_X_lineOf_121 rfl (lv_at hl 4 rfl) ?_
    refine lv_iload_n hx hb d_X_lineOf_122 rfl (lv_at hl 5 rfl) ?_
    have hX1 := tx_keep hX (fun k hk => hO.2 _ (tx_lt hX hk))
    refine tq_V ⟨hx, hb, hml, hown, hts⟩ hT (c_X_heightAt l D ci ad g tc td tn hmm) lk_X_119 wX_mv ⟨hK, hg, hX1⟩ (wX_rc ⟨hK, hg, hX1⟩) rfl hl.1 rfl (Nat.le_of_ble_eq_true rfl) d_X_lineOf_123 ⟨rfl, rfl, Nat.le_of_ble_eq_true rfl, Nat.le_of_ble_eq_true rfl⟩ ⟨Nat.le_of_ble_eq_true rfl, Nat.le_of_ble_eq_true rfl⟩ ?_
    refine tg_S ⟨hx, hb, hml, hown, hts⟩ hT (c_X_appendHeight l D2 cB s.heap.size b9 (L := [tt_dg (tt_yr g mm) 1, 32, tt_dg ((mm - tt_fst g (tt_yr g mm)) / 1440) 100, tt_dg ((mm - tt_fst g (tt_yr g mm)) / 1440) 10, tt_dg ((mm - tt_fst g (tt_yr g mm)) / 1440) 1, 32, tt_dg (((mm - tt_fst g (tt_yr g mm)) % 1440) / 60) 10, tt_dg (((mm - tt_fst g (tt_yr g mm)) % 1440) / 60) 1, 58, tt_dg (((mm - tt_fst g (tt_yr g mm)) % 1440) % 60) 10, tt_dg (((mm - tt_fst g (tt_yr g mm)) % 1440) % 60) 1] ++ sb_cs 0) (z := tt_hgt g mm) (by omega) (by omega) (Nat.le_of_ble_eq_true rfl)) lk_X_215 wS_mv ⟨hKB, hC1, hB⟩ rfl hl.1 rfl (Nat.le_of_ble_eq_true rfl) d_X_lineOf_126 ⟨rfl, rfl, Nat.le_of_ble_eq_true rfl, Nat.le_of_ble_eq_true rfl⟩ ⟨Nat.le_of_ble_eq_true rfl, Nat.le_of_ble_eq_true rfl⟩ hL9 (fun v9 H1 locs1 hF9 hL9 => ?_)
    obtain ⟨rfl, hB, hO9⟩ := hF9
    have hO := hO.tr hO9
    have hC1 := kc_kept hC hO.1 hO.2
    refine lv_aload hx hb d_X_lineOf_129 (lv_at hl 0 rfl) ?_
    have e9 : [tt_dg (tt_yr g mm) 1, 32, tt_dg ((mm - tt_fst g (tt_yr g mm)) / 1440) 100, tt_dg ((mm - tt_fst g (tt_yr g mm)) / 1440) 10, tt_dg ((mm - tt_fst g (tt_yr g mm)) / 1440) 1, 32, tt_dg (((mm - tt_fst g (tt_yr g mm)) % 1440) / 60) 10, tt_dg (((mm - tt_fst g (tt_yr g mm)) % 1440) / 60) 1, 58, tt_dg (((mm - tt_fst g (tt_yr g mm)) % 1440) % 60) 10, tt_dg (((mm - tt_fst g (tt_yr g mm)) % 1440) % 60) 1] ++ sb_cs 0 ++ tt_ht (tt_hgt g mm) = tt_lo g mm := by unfold tt_lo tt_ln; rw [decide_eq_true h1]; rfl
    rw [e9] at hB
    refine va_forget (fun q hq => hL9 q hq) ?_
    exact W.aret hx hb hr (Or.inl ⟨_, rfl⟩) (Or.inr ⟨_, rfl⟩) (fun t ht hW => ⟨_, rfl, b9, rfl, by rw [ht]; exact hB, by rw [ht]; exact hO⟩) (fun q hq => nomatch hq) d_X_lineOf_131
