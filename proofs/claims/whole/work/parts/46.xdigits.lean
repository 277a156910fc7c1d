/-! the class's lines: digits and heights. Written by wip/whole/gen.py -/
set_option maxHeartbeats 4000000 in
set_option maxRecDepth 100000 in
theorem c_X_appendDigits1 (l : Launch) (D : va_G) (cB : ClassId) (sz b : Nat) {L : List Nat} {v : Nat} (hv : v < 2147483648) (h34 : L.length + 1 ≤ 34) : Met l y_X_appendDigits (wT y_X_appendDigits b_X_appendDigits 4 none) ({ frames := 6, cells := 1, slots := 34, locals := 154 }) (tb (wS D cB sz b L) [.ref b, .int (nI v), .int (nI 1)]) (sbQ D cB sz b (L ++ [tt_dg v 1]) none) 1 34 (aSz sz) := by
  refine Met.ofW (cc := b_X_appendDigits) (maxL := 4) (ret := none) (by decide) rfl ?_
  intro p e s m args below meth c s₁ B hml hv
  obtain ⟨rfl, hK, hC, hB⟩ := hv
  have hx := B.exec
  have hb := B.bytes
  have hr := B.returns
  have hts := atoms_spec (ws := wT y_X_appendDigits b_X_appendDigits 4 none) B.pre
  have hT : ∀ w ∈ TT, w ∈ wT y_X_appendDigits b_X_appendDigits 4 none := wT_T
  have hown : s.vm.findClass RX = some m.cls := findClass_of_methodNamed B.named
  have hlocks := B.notSynchronized
  have hl := lv_entry ([.ref b, .int (nI v), .int (nI 1)]) (n := 4) (Nat.le_of_ble_eq_true rfl)
  rw [lg_entry_eq]
  generalize (lg_sl ([.ref b, .int (nI v), .int (nI 1)]) ++ List.replicate (4 - (lg_sl ([.ref b, .int (nI v), .int (nI 1)])).length) Slot.unset).toArray = ls at hl ⊢
  have hl : lv_has ls 4 [(0, .ref b), (1, .int (nI v)), (2, .int (nI 1))] := hl
  have hO : sO sz s.heap s.heap := sO.rf
  have hL9 : ∀ q ∈ ([] : List Loc), aSz sz q.base := fun q hq => nomatch hq
  have hC1 := hC
  refine lv_iload_n hx hb d_X_appendDigits_0 rfl (lv_at hl 2 rfl) ?_
  refine lv_istore_n hx hb d_X_appendDigits_1 rfl hl (by decide) (lv' := [(3, .int (nI 1)), (0, .ref b), (1, .int (nI v)), (2, .int (nI 1))]) rfl (fun ls hl => ?_)
  refine lv_iload_n hx hb d_X_appendDigits_2 rfl (lv_at hl 0 rfl) ?_
  refine lv_if_le hx hb d_X_appendDigits_3 (tgt := 29) (by decide) (fun hyes => absurd hyes (by decide)) (fun _ => ?_)
  refine lv_aload_n hx hb d_X_appendDigits_6 rfl (lv_at hl 1 rfl) ?_
  refine lv_bipush hx hb d_X_appendDigits_7 (v := (nI 48)) rfl ?_
  refine lv_iload_n hx hb d_X_appendDigits_9 rfl (lv_at hl 2 rfl) ?_
  refine lv_iload_n hx hb d_X_appendDigits_10 rfl (lv_at hl 0 rfl) ?_
  refine lv_idiv hx hb d_X_appendDigits_11 (by decide) ?_
  refine tq_ti (show _ = (nI (v / 1)) from pk_div (by omega) (by decide) (by decide)) ?_
  refine lv_bipush hx hb d_X_appendDigits_12 (v := (nI 10)) rfl ?_
  refine lv_irem hx hb d_X_appendDigits_14 (by decide) ?_
  refine tq_ti (show _ = (nI (v / 1 % 10)) from pk_rem (by omega) (by decide) (by decide)) ?_
  refine lv_iadd hx hb d_X_appendDigits_15 ?_
  refine tq_ti (show _ = (nI (tt_dg v 1)) from nI_add _ _) ?_
  have hd9 : tt_dg v 1 < 128 := by unfold tt_dg; omega
  refine lv_i2c hx hb d_X_appendDigits_16 (v := ((nI (tt_dg v 1)).toUInt32 % 65536).toInt32) rfl ?_
  refine tq_ti (show _ = (nI (tt_dg v 1)) from (sb_nar _ hd9).2.2.2.1) ?_
  refine tg_V ⟨hx, hb, hml, hown, hts⟩ hT (c_S_appC l D cB sz b (L := L) hd9 h34) lk_X_204 wS_mv ⟨hK, hC1, hB⟩ (sbS_rc hK hB) rfl hl.1 rfl (Nat.le_of_ble_eq_true rfl) d_X_appendDigits_17 ⟨rfl, rfl, Nat.le_of_ble_eq_true rfl, Nat.le_of_ble_eq_true rfl⟩ ⟨Nat.le_of_ble_eq_true rfl, Nat.le_of_ble_eq_true rfl⟩ hL9 (fun v9 H1 locs1 hF9 hL9 => ?_)
  obtain ⟨rfl, hB, hO9⟩ := hF9
  have hO := hO.tr hO9
  have hC1 := kc_kept hC hO.1 hO.2
  refine lv_pop hx hb d_X_appendDigits_20 rfl ?_
  refine lv_iload_n hx hb d_X_appendDigits_21 rfl (lv_at hl 0 rfl) ?_
  refine lv_bipush hx hb d_X_appendDigits_22 (v := (nI 10)) rfl ?_
  refine lv_idiv hx hb d_X_appendDigits_24 (by decide) ?_
  refine tq_ti (show _ = (nI 0) from rfl) ?_
  refine lv_istore_n hx hb d_X_appendDigits_25 rfl hl (by decide) (lv' := [(3, .int (nI 0)), (0, .ref b), (1, .int (nI v)), (2, .int (nI 1))]) rfl (fun ls hl => ?_)
  refine lv_goto hx hb d_X_appendDigits_26 (tgt := 2) (by decide) ?_
  refine lv_iload_n hx hb d_X_appendDigits_2 rfl (lv_at hl 0 rfl) ?_
  refine lv_if_le hx hb d_X_appendDigits_3 (tgt := 29) (by decide) (fun _ => ?_) (fun hno => absurd (by decide) hno)
  exact W.vret hx hb hr (fun t ht hW => ⟨_, rfl, rfl, by rw [ht]; exact hB, by rw [ht]; exact hO⟩) hL9 d_X_appendDigits_29
set_option maxHeartbeats 4000000 in
set_option maxRecDepth 100000 in
theorem c_X_appendDigits2 (l : Launch) (D : va_G) (cB : ClassId) (sz b : Nat) {L : List Nat} {v : Nat} (hv : v < 2147483648) (h34 : L.length + 2 ≤ 34) : Met l y_X_appendDigits (wT y_X_appendDigits b_X_appendDigits 4 none) ({ frames := 6, cells := 2, slots := 68, locals := 154 }) (tb (wS D cB sz b L) [.ref b, .int (nI v), .int (nI 10)]) (sbQ D cB sz b (L ++ [tt_dg v 10, tt_dg v 1]) none) 2 68 (aSz sz) := by
  refine Met.ofW (cc := b_X_appendDigits) (maxL := 4) (ret := none) (by decide) rfl ?_
  intro p e s m args below meth c s₁ B hml hv
  obtain ⟨rfl, hK, hC, hB⟩ := hv
  have hx := B.exec
  have hb := B.bytes
  have hr := B.returns
  have hts := atoms_spec (ws := wT y_X_appendDigits b_X_appendDigits 4 none) B.pre
  have hT : ∀ w ∈ TT, w ∈ wT y_X_appendDigits b_X_appendDigits 4 none := wT_T
  have hown : s.vm.findClass RX = some m.cls := findClass_of_methodNamed B.named
  have hlocks := B.notSynchronized
  have hl := lv_entry ([.ref b, .int (nI v), .int (nI 10)]) (n := 4) (Nat.le_of_ble_eq_true rfl)
  rw [lg_entry_eq]
  generalize (lg_sl ([.ref b, .int (nI v), .int (nI 10)]) ++ List.replicate (4 - (lg_sl ([.ref b, .int (nI v), .int (nI 10)])).length) Slot.unset).toArray = ls at hl ⊢
  have hl : lv_has ls 4 [(0, .ref b), (1, .int (nI v)), (2, .int (nI 10))] := hl
  have hO : sO sz s.heap s.heap := sO.rf
  have hL9 : ∀ q ∈ ([] : List Loc), aSz sz q.base := fun q hq => nomatch hq
  have hC1 := hC
  refine lv_iload_n hx hb d_X_appendDigits_0 rfl (lv_at hl 2 rfl) ?_
  refine lv_istore_n hx hb d_X_appendDigits_1 rfl hl (by decide) (lv' := [(3, .int (nI 10)), (0, .ref b), (1, .int (nI v)), (2, .int (nI 10))]) rfl (fun ls hl => ?_)
  refine lv_iload_n hx hb d_X_appendDigits_2 rfl (lv_at hl 0 rfl) ?_
  refine lv_if_le hx hb d_X_appendDigits_3 (tgt := 29) (by decide) (fun hyes => absurd hyes (by decide)) (fun _ => ?_)
  refine lv_aload_n hx hb d_X_appendDigits_6 rfl (lv_at hl 1 rfl) ?_
  refine lv_bipush hx hb d_X_appendDigits_7 (v := (nI 48)) rfl ?_
  refine lv_iload_n hx hb d_X_appendDigits_9 rfl (lv_at hl 2 rfl) ?_
  refine lv_iload_n hx hb d_X_appendDigits_10 rfl (lv_at hl 0 rfl) ?_
  refine lv_idiv hx hb d_X_appendDigits_11 (by decide) ?_
  refine tq_ti (show _ = (nI (v / 10)) from pk_div (by omega) (by decide) (by decide)) ?_
  refine lv_bipush hx hb d_X_appendDigits_12 (v := (nI 10)) rfl ?_
  refine lv_irem hx hb d_X_appendDigits_14 (by decide) ?_
  refine tq_ti (show _ = (nI (v / 10 % 10)) from pk_rem (by omega) (by decide) (by decide)) ?_
  refine lv_iadd hx hb d_X_appendDigits_15 ?_
  refine tq_ti (show _ = (nI (tt_dg v 10)) from nI_add _ _) ?_
  have hd9 : tt_dg v 10 < 128 := by unfold tt_dg; omega
  refine lv_i2c hx hb d_X_appendDigits_16 (v := ((nI (tt_dg v 10)).toUInt32 % 65536).toInt32) rfl ?_
  refine tq_ti (show _ = (nI (tt_dg v 10)) from (sb_nar _ hd9).2.2.2.1) ?_
  refine tg_V ⟨hx, hb, hml, hown, hts⟩ hT (c_S_appC l D cB sz b (L := L) hd9 (by omega)) lk_X_204 wS_mv ⟨hK, hC1, hB⟩ (sbS_rc hK hB) rfl hl.1 rfl (Nat.le_of_ble_eq_true rfl) d_X_appendDigits_17 ⟨rfl, rfl, Nat.le_of_ble_eq_true rfl, Nat.le_of_ble_eq_true rfl⟩ ⟨Nat.le_of_ble_eq_true rfl, Nat.le_of_ble_eq_true rfl⟩ hL9 (fun v9 H1 locs1 hF9 hL9 => ?_)
  obtain ⟨rfl, hB, hO9⟩ := hF9
  have hO := hO.tr hO9
  have hC1 := kc_kept hC hO.1 hO.2
  refine lv_pop hx hb d_X_appendDigits_20 rfl ?_
  refine lv_iload_n hx hb d_X_appendDigits_21 rfl (lv_at hl 0 rfl) ?_
  refine lv_bipush hx hb d_X_appendDigits_22 (v := (nI 10)) rfl ?_
  refine lv_idiv hx hb d_X_appendDigits_24 (by decide) ?_
  refine tq_ti (show _ = (nI 1) from rfl) ?_
  refine lv_istore_n hx hb d_X_appendDigits_25 rfl hl (by decide) (lv' := [(3, .int (nI 1)), (0, .ref b), (1, .int (nI v)), (2, .int (nI 10))]) rfl (fun ls hl => ?_)
  refine lv_goto hx hb d_X_appendDigits_26 (tgt := 2) (by decide) ?_
  refine lv_iload_n hx hb d_X_appendDigits_2 rfl (lv_at hl 0 rfl) ?_
  refine lv_if_le hx hb d_X_appendDigits_3 (tgt := 29) (by decide) (fun hyes => absurd hyes (by decide)) (fun _ => ?_)
  refine lv_aload_n hx hb d_X_appendDigits_6 rfl (lv_at hl 1 rfl) ?_
  refine lv_bipush hx hb d_X_appendDigits_7 (v := (nI 48)) rfl ?_
  refine lv_iload_n hx hb d_X_appendDigits_9 rfl (lv_at hl 2 rfl) ?_
  refine lv_iload_n hx hb d_X_appendDigits_10 rfl (lv_at hl 0 rfl) ?_
  refine lv_idiv hx hb d_X_appendDigits_11 (by decide) ?_
  refine tq_ti (show _ = (nI (v / 1)) from pk_div (by omega) (by decide) (by decide)) ?_
  refine lv_bipush hx hb d_X_appendDigits_12 (v := (nI 10)) rfl ?_
  refine lv_irem hx hb d_X_appendDigits_14 (by decide) ?_
  refine tq_ti (show _ = (nI (v / 1 % 10)) from pk_rem (by omega) (by decide) (by decide)) ?_
  refine lv_iadd hx hb d_X_appendDigits_15 ?_
  refine tq_ti (show _ = (nI (tt_dg v 1)) from nI_add _ _) ?_
  have hd9 : tt_dg v 1 < 128 := by unfold tt_dg; omega
  refine lv_i2c hx hb d_X_appendDigits_16 (v := ((nI (tt_dg v 1)).toUInt32 % 65536).toInt32) rfl ?_
  refine tq_ti (show _ = (nI (tt_dg v 1)) from (sb_nar _ hd9).2.2.2.1) ?_
  refine tg_V ⟨hx, hb, hml, hown, hts⟩ hT (c_S_appC l D cB sz b (L := (L ++ [tt_dg v 10])) hd9 (by rw [List.length_append]; show L.length + 1 + 1 ≤ 34; omega)) lk_X_204 wS_mv ⟨hK, hC1, hB⟩ (sbS_rc hK hB) rfl hl.1 rfl (Nat.le_of_ble_eq_true rfl) d_X_appendDigits_17 ⟨rfl, rfl, Nat.le_of_ble_eq_true rfl, Nat.le_of_ble_eq_true rfl⟩ ⟨Nat.le_of_ble_eq_true rfl, Nat.le_of_ble_eq_true rfl⟩ hL9 (fun v9 H1 locs1 hF9 hL9 => ?_)
  obtain ⟨rfl, hB, hO9⟩ := hF9
  have hO := hO.tr hO9
  have hC1 := kc_kept hC hO.1 hO.2
  have hB : sbS D cB sz b (L ++ [tt_dg v 10, tt_dg v 1]) H1 := by have h9 := hB; simp only [List.append_assoc, List.cons_append, List.nil_append] at h9; exact h9
  refine lv_pop hx hb d_X_appendDigits_20 rfl ?_
  refine lv_iload_n hx hb d_X_appendDigits_21 rfl (lv_at hl 0 rfl) ?_
  refine lv_bipush hx hb d_X_appendDigits_22 (v := (nI 10)) rfl ?_
  refine lv_idiv hx hb d_X_appendDigits_24 (by decide) ?_
  refine tq_ti (show _ = (nI 0) from rfl) ?_
  refine lv_istore_n hx hb d_X_appendDigits_25 rfl hl (by decide) (lv' := [(3, .int (nI 0)), (0, .ref b), (1, .int (nI v)), (2, .int (nI 10))]) rfl (fun ls hl => ?_)
  refine lv_goto hx hb d_X_appendDigits_26 (tgt := 2) (by decide) ?_
  refine lv_iload_n hx hb d_X_appendDigits_2 rfl (lv_at hl 0 rfl) ?_
  refine lv_if_le hx hb d_X_appendDigits_3 (tgt := 29) (by decide) (fun _ => ?_) (fun hno => absurd (by decide) hno)
  exact W.vret hx hb hr (fun t ht hW => ⟨_, rfl, rfl, by rw [ht]; exact hB, by rw [ht]; exact hO⟩) hL9 d_X_appendDigits_29
set_option maxHeartbeats 4000000 in
set_option maxRecDepth 100000 in
theorem c_X_appendDigits3 (l : Launch) (D : va_G) (cB : ClassId) (sz b : Nat) {L : List Nat} {v : Nat} (hv : v < 2147483648) (h34 : L.length + 3 ≤ 34) : Met l y_X_appendDigits (wT y_X_appendDigits b_X_appendDigits 4 none) ({ frames := 6, cells := 3, slots := 102, locals := 154 }) (tb (wS D cB sz b L) [.ref b, .int (nI v), .int (nI 100)]) (sbQ D cB sz b (L ++ [tt_dg v 100, tt_dg v 10, tt_dg v 1]) none) 3 102 (aSz sz) := by
  refine Met.ofW (cc := b_X_appendDigits) (maxL := 4) (ret := none) (by decide) rfl ?_
  intro p e s m args below meth c s₁ B hml hv
  obtain ⟨rfl, hK, hC, hB⟩ := hv
  have hx := B.exec
  have hb := B.bytes
  have hr := B.returns
  have hts := atoms_spec (ws := wT y_X_appendDigits b_X_appendDigits 4 none) B.pre
  have hT : ∀ w ∈ TT, w ∈ wT y_X_appendDigits b_X_appendDigits 4 none := wT_T
  have hown : s.vm.findClass RX = some m.cls := findClass_of_methodNamed B.named
  have hlocks := B.notSynchronized
  have hl := lv_entry ([.ref b, .int (nI v), .int (nI 100)]) (n := 4) (Nat.le_of_ble_eq_true rfl)
  rw [lg_entry_eq]
  generalize (lg_sl ([.ref b, .int (nI v), .int (nI 100)]) ++ List.replicate (4 - (lg_sl ([.ref b, .int (nI v), .int (nI 100)])).length) Slot.unset).toArray = ls at hl ⊢
  have hl : lv_has ls 4 [(0, .ref b), (1, .int (nI v)), (2, .int (nI 100))] := hl
  have hO : sO sz s.heap s.heap := sO.rf
  have hL9 : ∀ q ∈ ([] : List Loc), aSz sz q.base := fun q hq => nomatch hq
  have hC1 := hC
  refine lv_iload_n hx hb d_X_appendDigits_0 rfl (lv_at hl 2 rfl) ?_
  refine lv_istore_n hx hb d_X_appendDigits_1 rfl hl (by decide) (lv' := [(3, .int (nI 100)), (0, .ref b), (1, .int (nI v)), (2, .int (nI 100))]) rfl (fun ls hl => ?_)
  refine lv_iload_n hx hb d_X_appendDigits_2 rfl (lv_at hl 0 rfl) ?_
  refine lv_if_le hx hb d_X_appendDigits_3 (tgt := 29) (by decide) (fun hyes => absurd hyes (by decide)) (fun _ => ?_)
  refine lv_aload_n hx hb d_X_appendDigits_6 rfl (lv_at hl 1 rfl) ?_
  refine lv_bipush hx hb d_X_appendDigits_7 (v := (nI 48)) rfl ?_
  refine lv_iload_n hx hb d_X_appendDigits_9 rfl (lv_at hl 2 rfl) ?_
  refine lv_iload_n hx hb d_X_appendDigits_10 rfl (lv_at hl 0 rfl) ?_
  refine lv_idiv hx hb d_X_appendDigits_11 (by decide) ?_
  refine tq_ti (show _ = (nI (v / 100)) from pk_div (by omega) (by decide) (by decide)) ?_
  refine lv_bipush hx hb d_X_appendDigits_12 (v := (nI 10)) rfl ?_
  refine lv_irem hx hb d_X_appendDigits_14 (by decide) ?_
  refine tq_ti (show _ = (nI (v / 100 % 10)) from pk_rem (by omega) (by decide) (by decide)) ?_
  refine lv_iadd hx hb d_X_appendDigits_15 ?_
  refine tq_ti (show _ = (nI (tt_dg v 100)) from nI_add _ _) ?_
  have hd9 : tt_dg v 100 < 128 := by unfold tt_dg; omega
  refine lv_i2c hx hb d_X_appendDigits_16 (v := ((nI (tt_dg v 100)).toUInt32 % 65536).toInt32) rfl ?_
  refine tq_ti (show _ = (nI (tt_dg v 100)) from (sb_nar _ hd9).2.2.2.1) ?_
  refine tg_V ⟨hx, hb, hml, hown, hts⟩ hT (c_S_appC l D cB sz b (L := L) hd9 (by omega)) lk_X_204 wS_mv ⟨hK, hC1, hB⟩ (sbS_rc hK hB) rfl hl.1 rfl (Nat.le_of_ble_eq_true rfl) d_X_appendDigits_17 ⟨rfl, rfl, Nat.le_of_ble_eq_true rfl, Nat.le_of_ble_eq_true rfl⟩ ⟨Nat.le_of_ble_eq_true rfl, Nat.le_of_ble_eq_true rfl⟩ hL9 (fun v9 H1 locs1 hF9 hL9 => ?_)
  obtain ⟨rfl, hB, hO9⟩ := hF9
  have hO := hO.tr hO9
  have hC1 := kc_kept hC hO.1 hO.2
  refine lv_pop hx hb d_X_appendDigits_20 rfl ?_
  refine lv_iload_n hx hb d_X_appendDigits_21 rfl (lv_at hl 0 rfl) ?_
  refine lv_bipush hx hb d_X_appendDigits_22 (v := (nI 10)) rfl ?_
  refine lv_idiv hx hb d_X_appendDigits_24 (by decide) ?_
  refine tq_ti (show _ = (nI 10) from rfl) ?_
  refine lv_istore_n hx hb d_X_appendDigits_25 rfl hl (by decide) (lv' := [(3, .int (nI 10)), (0, .ref b), (1, .int (nI v)), (2, .int (nI 100))]) rfl (fun ls hl => ?_)
  refine lv_goto hx hb d_X_appendDigits_26 (tgt := 2) (by decide) ?_
  refine lv_iload_n hx hb d_X_appendDigits_2 rfl (lv_at hl 0 rfl) ?_
  refine lv_if_le hx hb d_X_appendDigits_3 (tgt := 29) (by decide) (fun hyes => absurd hyes (by decide)) (fun _ => ?_)
  refine lv_aload_n hx hb d_X_appendDigits_6 rfl (lv_at hl 1 rfl) ?_
  refine lv_bipush hx hb d_X_appendDigits_7 (v := (nI 48)) rfl ?_
  refine lv_iload_n hx hb d_X_appendDigits_9 rfl (lv_at hl 2 rfl) ?_
  refine lv_iload_n hx hb d_X_appendDigits_10 rfl (lv_at hl 0 rfl) ?_
  refine lv_idiv hx hb d_X_appendDigits_11 (by decide) ?_
  refine tq_ti (show _ = (nI (v / 10)) from pk_div (by omega) (by decide) (by decide)) ?_
  refine lv_bipush hx hb d_X_appendDigits_12 (v := (nI 10)) rfl ?_
  refine lv_irem hx hb d_X_appendDigits_14 (by decide) ?_
  refine tq_ti (show _ = (nI (v / 10 % 10)) from pk_rem (by omega) (by decide) (by decide)) ?_
  refine lv_iadd hx hb d_X_appendDigits_15 ?_
  refine tq_ti (show _ = (nI (tt_dg v 10)) from nI_add _ _) ?_
  have hd9 : tt_dg v 10 < 128 := by unfold tt_dg; omega
  refine lv_i2c hx hb d_X_appendDigits_16 (v := ((nI (tt_dg v 10)).toUInt32 % 65536).toInt32) rfl ?_
  refine tq_ti (show _ = (nI (tt_dg v 10)) from (sb_nar _ hd9).2.2.2.1) ?_
  refine tg_V ⟨hx, hb, hml, hown, hts⟩ hT (c_S_appC l D cB sz b (L := (L ++ [tt_dg v 100])) hd9 (by rw [List.length_append]; show L.length + 1 + 1 ≤ 34; omega)) lk_X_204 wS_mv ⟨hK, hC1, hB⟩ (sbS_rc hK hB) rfl hl.1 rfl (Nat.le_of_ble_eq_true rfl) d_X_appendDigits_17 ⟨rfl, rfl, Nat.le_of_ble_eq_true rfl, Nat.le_of_ble_eq_true rfl⟩ ⟨Nat.le_of_ble_eq_true rfl, Nat.le_of_ble_eq_true rfl⟩ hL9 (fun v9 H1 locs1 hF9 hL9 => ?_)
  obtain ⟨rfl, hB, hO9⟩ := hF9
  have hO := hO.tr hO9
  have hC1 := kc_kept hC hO.1 hO.2
  have hB : sbS D cB sz b (L ++ [tt_dg v 100, tt_dg v 10]) H1 := by have h9 := hB; simp only [List.append_assoc, List.cons_append, List.nil_append] at h9; exact h9
  refine lv_pop hx hb d_X_appendDigits_20 rfl ?_
  refine lv_iload_n hx hb d_X_appendDigits_21 rfl (lv_at hl 0 rfl) ?_
  refine lv_bipush hx hb d_X_appendDigits_22 (v := (nI 10)) rfl ?_
  refine lv_idiv hx hb d_X_appendDigits_24 (by decide) ?_
  refine tq_ti (show _ = (nI 1) from rfl) ?_
  refine lv_istore_n hx hb d_X_appendDigits_25 rfl hl (by decide) (lv' := [(3, .int (nI 1)), (0, .ref b), (1, .int (nI v)), (2, .int (nI 100))]) rfl (fun ls hl => ?_)
  refine lv_goto hx hb d_X_appendDigits_26 (tgt := 2) (by decide) ?_
  refine lv_iload_n hx hb d_X_appendDigits_2 rfl (lv_at hl 0 rfl) ?_
  refine lv_if_le hx hb d_X_appendDigits_3 (tgt := 29) (by decide) (fun hyes => absurd hyes (by decide)) (fun _ => ?_)
  refine lv_aload_n hx hb d_X_appendDigits_6 rfl (lv_at hl 1 rfl) ?_
  refine lv_bipush hx hb d_X_appendDigits_7 (v := (nI 48)) rfl ?_
  refine lv_iload_n hx hb d_X_appendDigits_9 rfl (lv_at hl 2 rfl) ?_
  refine lv_iload_n hx hb d_X_appendDigits_10 rfl (lv_at hl 0 rfl) ?_
  refine lv_idiv hx hb d_X_appendDigits_11 (by decide) ?_
  refine tq_ti (show _ = (nI (v / 1)) from pk_div (by omega) (by decide) (by decide)) ?_
  refine lv_bipush hx hb d_X_appendDigits_12 (v := (nI 10)) rfl ?_
  refine lv_irem hx hb d_X_appendDigits_14 (by decide) ?_
  refine tq_ti (show _ = (nI (v / 1 % 10)) from pk_rem (by omega) (by decide) (by decide)) ?_
  refine lv_iadd hx hb d_X_appendDigits_15 ?_
  refine tq_ti (show _ = (nI (tt_dg v 1)) from nI_add _ _) ?_
  have hd9 : tt_dg v 1 < 128 := by unfold tt_dg; omega
  refine lv_i2c hx hb d_X_appendDigits_16 (v := ((nI (tt_dg v 1)).toUInt32 % 65536).toInt32) rfl ?_
  refine tq_ti (show _ = (nI (tt_dg v 1)) from (sb_nar _ hd9).2.2.2.1) ?_
  refine tg_V ⟨hx, hb, hml, hown, hts⟩ hT (c_S_appC l D cB sz b (L := (L ++ [tt_dg v 100, tt_dg v 10])) hd9 (by rw [List.length_append]; show L.length + 2 + 1 ≤ 34; omega)) lk_X_204 wS_mv ⟨hK, hC1, hB⟩ (sbS_rc hK hB) rfl hl.1 rfl (Nat.le_of_ble_eq_true rfl) d_X_appendDigits_17 ⟨rfl, rfl, Nat.le_of_ble_eq_true rfl, Nat.le_of_ble_eq_true rfl⟩ ⟨Nat.le_of_ble_eq_true rfl, Nat.le_of_ble_eq_true rfl⟩ hL9 (fun v9 H1 locs1 hF9 hL9 => ?_)
  obtain ⟨rfl, hB, hO9⟩ := hF9
  have hO := hO.tr hO9
  have hC1 := kc_kept hC hO.1 hO.2
  have hB : sbS D cB sz b (L ++ [tt_dg v 100, tt_dg v 10, tt_dg v 1]) H1 := by have h9 := hB; simp only [List.append_assoc, List.cons_append, List.nil_append] at h9; exact h9
  refine lv_pop hx hb d_X_appendDigits_20 rfl ?_
  refine lv_iload_n hx hb d_X_appendDigits_21 rfl (lv_at hl 0 rfl) ?_
  refine lv_bipush hx hb d_X_appendDigits_22 (v := (nI 10)) rfl ?_
  refine lv_idiv hx hb d_X_appendDigits_24 (by decide) ?_
  refine tq_ti (show _ = (nI 0) from rfl) ?_
  refine lv_istore_n hx hb d_X_appendDigits_25 rfl hl (by decide) (lv' := [(3, .int (nI 0)), (0, .ref b), (1, .int (nI v)), (2, .int (nI 100))]) rfl (fun ls hl => ?_)
  refine lv_goto hx hb d_X_appendDigits_26 (tgt := 2) (by decide) ?_
  refine lv_iload_n hx hb d_X_appendDigits_2 rfl (lv_at hl 0 rfl) ?_
  refine lv_if_le hx hb d_X_appendDigits_3 (tgt := 29) (by decide) (fun _ => ?_) (fun hno => absurd (by decide) hno)
  exact W.vret hx hb hr (fun t ht hW => ⟨_, rfl, rfl, by rw [ht]; exact hB, by rw [ht]; exact hO⟩) hL9 d_X_appendDigits_29
set_option maxHeartbeats 4000000 in
set_option maxRecDepth 100000 in
theorem c_X_appendDigits4 (l : Launch) (D : va_G) (cB : ClassId) (sz b : Nat) {L : List Nat} {v : Nat} (hv : v < 2147483648) (h34 : L.length + 4 ≤ 34) : Met l y_X_appendDigits (wT y_X_appendDigits b_X_appendDigits 4 none) ({ frames := 6, cells := 4, slots := 136, locals := 154 }) (tb (wS D cB sz b L) [.ref b, .int (nI v), .int (nI 1000)]) (sbQ D cB sz b (L ++ [tt_dg v 1000, tt_dg v 100, tt_dg v 10, tt_dg v 1]) none) 4 136 (aSz sz) := by
  refine Met.ofW (cc := b_X_appendDigits) (maxL := 4) (ret := none) (by decide) rfl ?_
  intro p e s m args below meth c s₁ B hml hv
  obtain ⟨rfl, hK, hC, hB⟩ := hv
  have hx := B.exec
  have hb := B.bytes
  have hr := B.returns
  have hts := atoms_spec (ws := wT y_X_appendDigits b_X_appendDigits 4 none) B.pre
  have hT : ∀ w ∈ TT, w ∈ wT y_X_appendDigits b_X_appendDigits 4 none := wT_T
  have hown : s.vm.findClass RX = some m.cls := findClass_of_methodNamed B.named
  have hlocks := B.notSynchronized
  have hl := lv_entry ([.ref b, .int (nI v), .int (nI 1000)]) (n := 4) (Nat.le_of_ble_eq_true rfl)
  rw [lg_entry_eq]
  generalize (lg_sl ([.ref b, .int (nI v), .int (nI 1000)]) ++ List.replicate (4 - (lg_sl ([.ref b, .int (nI v), .int (nI 1000)])).length) Slot.unset).toArray = ls at hl ⊢
  have hl : lv_has ls 4 [(0, .ref b), (1, .int (nI v)), (2, .int (nI 1000))] := hl
  have hO : sO sz s.heap s.heap := sO.rf
  have hL9 : ∀ q ∈ ([] : List Loc), aSz sz q.base := fun q hq => nomatch hq
  have hC1 := hC
  refine lv_iload_n hx hb d_X_appendDigits_0 rfl (lv_at hl 2 rfl) ?_
  refine lv_istore_n hx hb d_X_appendDigits_1 rfl hl (by decide) (lv' := [(3, .int (nI 1000)), (0, .ref b), (1, .int (nI v)), (2, .int (nI 1000))]) rfl (fun ls hl => ?_)
  refine lv_iload_n hx hb d_X_appendDigits_2 rfl (lv_at hl 0 rfl) ?_
  refine lv_if_le hx hb d_X_appendDigits_3 (tgt := 29) (by decide) (fun hyes => absurd hyes (by decide)) (fun _ => ?_)
  refine lv_aload_n hx hb d_X_appendDigits_6 rfl (lv_at hl 1 rfl) ?_
  refine lv_bipush hx hb d_X_appendDigits_7 (v := (nI 48)) rfl ?_
  refine lv_iload_n hx hb d_X_appendDigits_9 rfl (lv_at hl 2 rfl) ?_
  refine lv_iload_n hx hb d_X_appendDigits_10 rfl (lv_at hl 0 rfl) ?_
  refine lv_idiv hx hb d_X_appendDigits_11 (by decide) ?_
  refine tq_ti (show _ = (nI (v / 1000)) from pk_div (by omega) (by decide) (by decide)) ?_
  refine lv_bipush hx hb d_X_appendDigits_12 (v := (nI 10)) rfl ?_
  refine lv_irem hx hb d_X_appendDigits_14 (by decide) ?_
  refine tq_ti (show _ = (nI (v / 1000 % 10)) from pk_rem (by omega) (by decide) (by decide)) ?_
  refine lv_iadd hx hb d_X_appendDigits_15 ?_
  refine tq_ti (show _ = (nI (tt_dg v 1000)) from nI_add _ _) ?_
  have hd9 : tt_dg v 1000 < 128 := by unfold tt_dg; omega
  refine lv_i2c hx hb d_X_appendDigits_16 (v := ((nI (tt_dg v 1000)).toUInt32 % 65536).toInt32) rfl ?_
  refine tq_ti (show _ = (nI (tt_dg v 1000)) from (sb_nar _ hd9).2.2.2.1) ?_
  refine tg_V ⟨hx, hb, hml, hown, hts⟩ hT (c_S_appC l D cB sz b (L := L) hd9 (by omega)) lk_X_204 wS_mv ⟨hK, hC1, hB⟩ (sbS_rc hK hB) rfl hl.1 rfl (Nat.le_of_ble_eq_true rfl) d_X_appendDigits_17 ⟨rfl, rfl, Nat.le_of_ble_eq_true rfl, Nat.le_of_ble_eq_true rfl⟩ ⟨Nat.le_of_ble_eq_true rfl, Nat.le_of_ble_eq_true rfl⟩ hL9 (fun v9 H1 locs1 hF9 hL9 => ?_)
  obtain ⟨rfl, hB, hO9⟩ := hF9
  have hO := hO.tr hO9
  have hC1 := kc_kept hC hO.1 hO.2
  refine lv_pop hx hb d_X_appendDigits_20 rfl ?_
  refine lv_iload_n hx hb d_X_appendDigits_21 rfl (lv_at hl 0 rfl) ?_
  refine lv_bipush hx hb d_X_appendDigits_22 (v := (nI 10)) rfl ?_
  refine lv_idiv hx hb d_X_appendDigits_24 (by decide) ?_
  refine tq_ti (show _ = (nI 100) from rfl) ?_
  refine lv_istore_n hx hb d_X_appendDigits_25 rfl hl (by decide) (lv' := [(3, .int (nI 100)), (0, .ref b), (1, .int (nI v)), (2, .int (nI 1000))]) rfl (fun ls hl => ?_)
  refine lv_goto hx hb d_X_appendDigits_26 (tgt := 2) (by decide) ?_
  refine lv_iload_n hx hb d_X_appendDigits_2 rfl (lv_at hl 0 rfl) ?_
  refine lv_if_le hx hb d_X_appendDigits_3 (tgt := 29) (by decide) (fun hyes => absurd hyes (by decide)) (fun _ => ?_)
  refine lv_aload_n hx hb d_X_appendDigits_6 rfl (lv_at hl 1 rfl) ?_
  refine lv_bipush hx hb d_X_appendDigits_7 (v := (nI 48)) rfl ?_
  refine lv_iload_n hx hb d_X_appendDigits_9 rfl (lv_at hl 2 rfl) ?_
  refine lv_iload_n hx hb d_X_appendDigits_10 rfl (lv_at hl 0 rfl) ?_
  refine lv_idiv hx hb d_X_appendDigits_11 (by decide) ?_
  refine tq_ti (show _ = (nI (v / 100)) from pk_div (by omega) (by decide) (by decide)) ?_
  refine lv_bipush hx hb d_X_appendDigits_12 (v := (nI 10)) rfl ?_
  refine lv_irem hx hb d_X_appendDigits_14 (by decide) ?_
  refine tq_ti (show _ = (nI (v / 100 % 10)) from pk_rem (by omega) (by decide) (by decide)) ?_
  refine lv_iadd hx hb d_X_appendDigits_15 ?_
  refine tq_ti (show _ = (nI (tt_dg v 100)) from nI_add _ _) ?_
  have hd9 : tt_dg v 100 < 128 := by unfold tt_dg; omega
  refine lv_i2c hx hb d_X_appendDigits_16 (v := ((nI (tt_dg v 100)).toUInt32 % 65536).toInt32) rfl ?_
  refine tq_ti (show _ = (nI (tt_dg v 100)) from (sb_nar _ hd9).2.2.2.1) ?_
  refine tg_V ⟨hx, hb, hml, hown, hts⟩ hT (c_S_appC l D cB sz b (L := (L ++ [tt_dg v 1000])) hd9 (by rw [List.length_append]; show L.length + 1 + 1 ≤ 34; omega)) lk_X_204 wS_mv ⟨hK, hC1, hB⟩ (sbS_rc hK hB) rfl hl.1 rfl (Nat.le_of_ble_eq_true rfl) d_X_appendDigits_17 ⟨rfl, rfl, Nat.le_of_ble_eq_true rfl, Nat.le_of_ble_eq_true rfl⟩ ⟨Nat.le_of_ble_eq_true rfl, Nat.le_of_ble_eq_true rfl⟩ hL9 (fun v9 H1 locs1 hF9 hL9 => ?_)
  obtain ⟨rfl, hB, hO9⟩ := hF9
  have hO := hO.tr hO9
  have hC1 := kc_kept hC hO.1 hO.2
  have hB : sbS D cB sz b (L ++ [tt_dg v 1000, tt_dg v 100]) H1 := by have h9 := hB; simp only [List.append_assoc, List.cons_append, List.nil_append] at h9; exact h9
  refine lv_pop hx hb d_X_appendDigits_20 rfl ?_
  refine lv_iload_n hx hb d_X_appendDigits_21 rfl (lv_at hl 0 rfl) ?_
  refine lv_bipush hx hb d_X_appendDigits_22 (v := (nI 10)) rfl ?_
  refine lv_idiv hx hb d_X_appendDigits_24 (by decide) ?_
  refine tq_ti (show _ = (nI 10) from rfl) ?_
  refine lv_istore_n hx hb d_X_appendDigits_25 rfl hl (by decide) (lv' := [(3, .int (nI 10)), (0, .ref b), (1, .int (nI v)), (2, .int (nI 1000))]) rfl (fun ls hl => ?_)
  refine lv_goto hx hb d_X_appendDigits_26 (tgt := 2) (by decide) ?_
  refine lv_iload_n hx hb d_X_appendDigits_2 rfl (lv_at hl 0 rfl) ?_
  refine lv_if_le hx hb d_X_appendDigits_3 (tgt := 29) (by decide) (fun hyes => absurd hyes (by decide)) (fun _ => ?_)
  refine lv_aload_n hx hb d_X_appendDigits_6 rfl (lv_at hl 1 rfl) ?_
  refine lv_bipush hx hb d_X_appendDigits_7 (v := (nI 48)) rfl ?_
  refine lv_iload_n hx hb d_X_appendDigits_9 rfl (lv_at hl 2 rfl) ?_
  refine lv_iload_n hx hb d_X_appendDigits_10 rfl (lv_at hl 0 rfl) ?_
  refine lv_idiv hx hb d_X_appendDigits_11 (by decide) ?_
  refine tq_ti (show _ = (nI (v / 10)) from pk_div (by omega) (by decide) (by decide)) ?_
  refine lv_bipush hx hb d_X_appendDigits_12 (v := (nI 10)) rfl ?_
  refine lv_irem hx hb d_X_appendDigits_14 (by decide) ?_
  refine tq_ti (show _ = (nI (v / 10 % 10)) from pk_rem (by omega) (by decide) (by decide)) ?_
  refine lv_iadd hx hb d_X_appendDigits_15 ?_
  refine tq_ti (show _ = (nI (tt_dg v 10)) from nI_add _ _) ?_
  have hd9 : tt_dg v 10 < 128 := by unfold tt_dg; omega
  refine lv_i2c hx hb d_X_appendDigits_16 (v := ((nI (tt_dg v 10)).toUInt32 % 65536).toInt32) rfl ?_
  refine tq_ti (show _ = (nI (tt_dg v 10)) from (sb_nar _ hd9).2.2.2.1) ?_
  refine tg_V ⟨hx, hb, hml, hown, hts⟩ hT (c_S_appC l D cB sz b (L := (L ++ [tt_dg v 1000, tt_dg v 100])) hd9 (by rw [List.length_append]; show L.length + 2 + 1 ≤ 34; omega)) lk_X_204 wS_mv ⟨hK, hC1, hB⟩ (sbS_rc hK hB) rfl hl.1 rfl (Nat.le_of_ble_eq_true rfl) d_X_appendDigits_17 ⟨rfl, rfl, Nat.le_of_ble_eq_true rfl, Nat.le_of_ble_eq_true rfl⟩ ⟨Nat.le_of_ble_eq_true rfl, Nat.le_of_ble_eq_true rfl⟩ hL9 (fun v9 H1 locs1 hF9 hL9 => ?_)
  obtain ⟨rfl, hB, hO9⟩ := hF9
  have hO := hO.tr hO9
  have hC1 := kc_kept hC hO.1 hO.2
  have hB : sbS D cB sz b (L ++ [tt_dg v 1000, tt_dg v 100, tt_dg v 10]) H1 := by have h9 := hB; simp only [List.append_assoc, List.cons_append, List.nil_append] at h9; exact h9
  refine lv_pop hx hb d_X_appendDigits_20 rfl ?_
  refine lv_iload_n hx hb d_X_appendDigits_21 rfl (lv_at hl 0 rfl) ?_
  refine lv_bipush hx hb d_X_appendDigits_22 (v := (nI 10)) rfl ?_
  refine lv_idiv hx hb d_X_appendDigits_24 (by decide) ?_
  refine tq_ti (show _ = (nI 1) from rfl) ?_
  refine lv_istore_n hx hb d_X_appendDigits_25 rfl hl (by decide) (lv' := [(3, .int (nI 1)), (0, .ref b), (1, .int (nI v)), (2, .int (nI 1000))]) rfl (fun ls hl => ?_)
  refine lv_goto hx hb d_X_appendDigits_26 (tgt := 2) (by decide) ?_
  refine lv_iload_n hx hb d_X_appendDigits_2 rfl (lv_at hl 0 rfl) ?_
  refine lv_if_le hx hb d_X_appendDigits_3 (tgt := 29) (by decide) (fun hyes => absurd hyes (by decide)) (fun _ => ?_)
  refine lv_aload_n hx hb d_X_appendDigits_6 rfl (lv_at hl 1 rfl) ?_
  refine lv_bipush hx hb d_X_appendDigits_7 (v := (nI 48)) rfl ?_
  refine lv_iload_n hx hb d_X_appendDigits_9 rfl (lv_at hl 2 rfl) ?_
  refine lv_iload_n hx hb d_X_appendDigits_10 rfl (lv_at hl 0 rfl) ?_
  refine lv_idiv hx hb d_X_appendDigits_11 (by decide) ?_
  refine tq_ti (show _ = (nI (v / 1)) from pk_div (by omega) (by decide) (by decide)) ?_
  refine lv_bipush hx hb d_X_appendDigits_12 (v := (nI 10)) rfl ?_
  refine lv_irem hx hb d_X_appendDigits_14 (by decide) ?_
  refine tq_ti (show _ = (nI (v / 1 % 10)) from pk_rem (by omega) (by decide) (by decide)) ?_
  refine lv_iadd hx hb d_X_appendDigits_15 ?_
  refine tq_ti (show _ = (nI (tt_dg v 1)) from nI_add _ _) ?_
  have hd9 : tt_dg v 1 < 128 := by unfold tt_dg; omega
  refine lv_i2c hx hb d_X_appendDigits_16 (v := ((nI (tt_dg v 1)).toUInt32 % 65536).toInt32) rfl ?_
  refine tq_ti (show _ = (nI (tt_dg v 1)) from (sb_nar _ hd9).2.2.2.1) ?_
  refine tg_V ⟨hx, hb, hml, hown, hts⟩ hT (c_S_appC l D cB sz b (L := (L ++ [tt_dg v 1000, tt_dg v 100, tt_dg v 10])) hd9 (by rw [List.length_append]; show L.length + 3 + 1 ≤ 34; omega)) lk_X_204 wS_mv ⟨hK, hC1, hB⟩ (sbS_rc hK hB) rfl hl.1 rfl (Nat.le_of_ble_eq_true rfl) d_X_appendDigits_17 ⟨rfl, rfl, Nat.le_of_ble_eq_true rfl, Nat.le_of_ble_eq_true rfl⟩ ⟨Nat.le_of_ble_eq_true rfl, Nat.le_of_ble_eq_true rfl⟩ hL9 (fun v9 H1 locs1 hF9 hL9 => ?_)
  obtain ⟨rfl, hB, hO9⟩ := hF9
  have hO := hO.tr hO9
  have hC1 := kc_kept hC hO.1 hO.2
  have hB : sbS D cB sz b (L ++ [tt_dg v 1000, tt_dg v 100, tt_dg v 10, tt_dg v 1]) H1 := by have h9 := hB; simp only [List.append_assoc, List.cons_append, List.nil_append] at h9; exact h9
  refine lv_pop hx hb d_X_appendDigits_20 rfl ?_
  refine lv_iload_n hx hb d_X_appendDigits_21 rfl (lv_at hl 0 rfl) ?_
  refine lv_bipush hx hb d_X_appendDigits_22 (v := (nI 10)) rfl ?_
  refine lv_idiv hx hb d_X_appendDigits_24 (by decide) ?_
  refine tq_ti (show _ = (nI 0) from rfl) ?_
  refine lv_istore_n hx hb d_X_appendDigits_25 rfl hl (by decide) (lv' := [(3, .int (nI 0)), (0, .ref b), (1, .int (nI v)), (2, .int (nI 1000))]) rfl (fun ls hl => ?_)
  refine lv_goto hx hb d_X_appendDigits_26 (tgt := 2) (by decide) ?_
  refine lv_iload_n hx hb d_X_appendDigits_2 rfl (lv_at hl 0 rfl) ?_
  refine lv_if_le hx hb d_X_appendDigits_3 (tgt := 29) (by decide) (fun _ => ?_) (fun hno => absurd (by decide) hno)
  exact W.vret hx hb hr (fun t ht hW => ⟨_, rfl, rfl, by rw [ht]; exact hB, by rw [ht]; exact hO⟩) hL9 d_X_appendDigits_29
set_option maxHeartbeats 4000000 in
set_option maxRecDepth 100000 in
theorem c_X_appendHeight (l : Launch) (D : va_G) (cB : ClassId) (sz b : Nat) {L : List Nat} {z : Int} (hz1 : -2000000 ≤ z) (hz2 : z ≤ 2000000) (h34 : L.length + 9 ≤ 34) : Met l y_X_appendHeight (wT y_X_appendHeight b_X_appendHeight 3 none) ({ frames := 7, cells := 7, slots := 238, locals := 177 }) (tb (wS D cB sz b L) [.ref b, .int (iZ z)]) (sbQ D cB sz b (L ++ tt_ht z) none) 7 238 (aSz sz) := by
  refine Met.ofW (cc := b_X_appendHeight) (maxL := 3) (ret := none) (by decide) rfl ?_
  intro p e s m args below meth c s₁ B hml hv
  obtain ⟨rfl, hK, hC, hB⟩ := hv
  have hx := B.exec
  have hb := B.bytes
  have hr := B.returns
  have hts := atoms_spec (ws := wT y_X_appendHeight b_X_appendHeight 3 none) B.pre
  have hT : ∀ w ∈ TT, w ∈ wT y_X_appendHeight b_X_appendHeight 3 none := wT_T
  have hown : s.vm.findClass RX = some m.cls := findClass_of_methodNamed B.named
  have hlocks := B.notSynchronized
  have hl := lv_entry ([.ref b, .int (iZ z)]) (n := 3) (Nat.le_of_ble_eq_true rfl)
  rw [lg_entry_eq]
  generalize (lg_sl ([.ref b, .int (iZ z)]) ++ List.replicate (3 - (lg_sl ([.ref b, .int (iZ z)])).length) Slot.unset).toArray = ls at hl ⊢
  have hl : lv_has ls 3 [(0, .ref b), (1, .int (iZ z))] := hl
  have hO : sO sz s.heap s.heap := sO.rf
  have hL9 : ∀ q ∈ ([] : List Loc), aSz sz q.base := fun q hq => nomatch hq
  have hC1 := hC
  have ez : (iZ z).toInt = z := iZ_toInt (by omega) (by omega)
  refine lv_iload_n hx hb d_X_appendHeight_0 rfl (lv_at hl 1 rfl) ?_
  refine lv_if_ge hx hb d_X_appendHeight_1 (tgt := 11) (by decide) (fun h1 => ?_) (fun h1 => ?_)
  · have h1 : ¬ z < 0 := by have h8 := iv_ge0.mp h1; omega
    refine lv_iload_n hx hb d_X_appendHeight_11 rfl (lv_at hl 1 rfl) ?_
    refine va_mabs hx hb (hml.trans hl.1.symm) hown (hts _ (hT _ km_abs_l)) (hts _ (hT _ km_abs_s)) (hts _ (hT _ k_ini_Math)) (hts _ (hT _ km_abs_c)) (Nat.le_of_ble_eq_true rfl) (Nat.le_of_ble_eq_true rfl) (Nat.le_of_ble_eq_true rfl) (Nat.le_of_ble_eq_true rfl) d_X_appendHeight_12 ?_
    refine tq_ti (show _ = (nI z.natAbs) from (by rw [if_pos (by rw [iv_ge0, ez]; omega)]; rw [nI_iZ]; congr 1; omega)) ?_
    refine lv_istore_n hx hb d_X_appendHeight_15 rfl hl (by decide) (lv' := [(2, .int (nI z.natAbs)), (0, .ref b), (1, .int (iZ z))]) rfl (fun ls hl => ?_)
    refine lv_aload_n hx hb d_X_appendHeight_16 rfl (lv_at hl 1 rfl) ?_
    refine lv_iload_n hx hb d_X_appendHeight_17 rfl (lv_at hl 0 rfl) ?_
    refine lv_sipush hx hb d_X_appendHeight_18 (v := (nI 10000)) rfl ?_
    refine lv_idiv hx hb d_X_appendHeight_21 (by decide) ?_
    refine tq_ti (show _ = (nI (z.natAbs / 10000)) from pk_div (by omega) (by decide) (by decide)) ?_
    have hwl := tt_wd_len (z.natAbs / 10000)
    refine tg_V ⟨hx, hb, hml, hown, hts⟩ hT (c_S_appI l D cB sz b (L := L) (x := z.natAbs / 10000) (by omega) (by show L.length + 3 ≤ 34; omega)) lk_X_222 wS_mv ⟨hK, hC1, hB⟩ (sbS_rc hK hB) rfl hl.1 rfl (Nat.le_of_ble_eq_true rfl) d_X_appendHeight_22 ⟨rfl, rfl, Nat.le_of_ble_eq_true rfl, Nat.le_of_ble_eq_true rfl⟩ ⟨Nat.le_of_ble_eq_true rfl, Nat.le_of_ble_eq_true rfl⟩ hL9 (fun v9 H1 locs1 hF9 hL9 => ?_)
    obtain ⟨rfl, hB, hO9⟩ := hF9
    have hO := hO.tr hO9
    have hC1 := kc_kept hC hO.1 hO.2
    refine lv_pop hx hb d_X_appendHeight_25 rfl ?_
    refine lv_aload_n hx hb d_X_appendHeight_26 rfl (lv_at hl 1 rfl) ?_
    refine lv_bipush hx hb d_X_appendHeight_27 (v := (nI 46)) rfl ?_
    have hl2 : (L ++ tt_wd (z.natAbs / 10000)).length + 5 ≤ 34 := by rw [List.length_append]; show L.length + (tt_wd (z.natAbs / 10000)).length + 5 ≤ 34; omega
    refine tg_V ⟨hx, hb, hml, hown, hts⟩ hT (c_S_appC l D cB sz b (L := (L ++ tt_wd (z.natAbs / 10000))) (ch := 46) (by decide) (by omega)) lk_X_204 wS_mv ⟨hK, hC1, hB⟩ (sbS_rc hK hB) rfl hl.1 rfl (Nat.le_of_ble_eq_true rfl) d_X_appendHeight_29 ⟨rfl, rfl, Nat.le_of_ble_eq_true rfl, Nat.le_of_ble_eq_true rfl⟩ ⟨Nat.le_of_ble_eq_true rfl, Nat.le_of_ble_eq_true rfl⟩ hL9 (fun v9 H1 locs1 hF9 hL9 => ?_)
    obtain ⟨rfl, hB, hO9⟩ := hF9
    have hO := hO.tr hO9
    have hC1 := kc_kept hC hO.1 hO.2
    refine lv_pop hx hb d_X_appendHeight_32 rfl ?_
    refine lv_aload_n hx hb d_X_appendHeight_33 rfl (lv_at hl 1 rfl) ?_
    refine lv_iload_n hx hb d_X_appendHeight_34 rfl (lv_at hl 0 rfl) ?_
    refine lv_sipush hx hb d_X_appendHeight_35 (v := (nI 10000)) rfl ?_
    refine lv_irem hx hb d_X_appendHeight_38 (by decide) ?_
    refine tq_ti (show _ = (nI (z.natAbs % 10000)) from pk_rem (by omega) (by decide) (by decide)) ?_
    refine lv_sipush hx hb d_X_appendHeight_39 (v := (nI 1000)) rfl ?_
    refine tg_S ⟨hx, hb, hml, hown, hts⟩ hT (c_X_appendDigits4 l D cB sz b (L := (L ++ tt_wd (z.natAbs / 10000)) ++ [46]) (v := z.natAbs % 10000) (by omega) (by rw [List.length_append]; show (L ++ tt_wd (z.natAbs / 10000)).length + 1 + 4 ≤ 34; omega)) lk_X_200 wS_mv ⟨hK, hC1, hB⟩ rfl hl.1 rfl (Nat.le_of_ble_eq_true rfl) d_X_appendHeight_42 ⟨rfl, rfl, Nat.le_of_ble_eq_true rfl, Nat.le_of_ble_eq_true rfl⟩ ⟨Nat.le_of_ble_eq_true rfl, Nat.le_of_ble_eq_true rfl⟩ hL9 (fun v9 H1 locs1 hF9 hL9 => ?_)
    obtain ⟨rfl, hB, hO9⟩ := hF9
    have hO := hO.tr hO9
    have hC1 := kc_kept hC hO.1 hO.2
    have e9 : L ++ tt_ht z = (L ++ tt_wd (z.natAbs / 10000)) ++ [46] ++ [tt_dg (z.natAbs % 10000) 1000, tt_dg (z.natAbs % 10000) 100, tt_dg (z.natAbs % 10000) 10, tt_dg (z.natAbs % 10000) 1] := by unfold tt_ht; rw [if_neg h1]; simp
    rw [← e9] at hB
    refine W.widen (k := 7) (n := 238) (Nat.le_of_ble_eq_true rfl) (Nat.le_of_ble_eq_true rfl) ?_
    exact W.vret hx hb hr (fun t ht hW => ⟨_, rfl, rfl, by rw [ht]; exact hB, by rw [ht]; exact hO⟩) hL9 d_X_appendHeight_45
  · have h1 : z < 0 := by have h8 := mt iv_ge0.mpr h1; omega
    refine lv_aload_n hx hb d_X_appendHeight_4 rfl (lv_at hl 0 rfl) ?_
    refine lv_bipush hx hb d_X_appendHeight_5 (v := (nI 45)) rfl ?_
    refine tg_V ⟨hx, hb, hml, hown, hts⟩ hT (c_S_appC l D cB sz b (L := L) (ch := 45) (by decide) (by omega)) lk_X_204 wS_mv ⟨hK, hC1, hB⟩ (sbS_rc hK hB) rfl hl.1 rfl (Nat.le_of_ble_eq_true rfl) d_X_appendHeight_7 ⟨rfl, rfl, Nat.le_of_ble_eq_true rfl, Nat.le_of_ble_eq_true rfl⟩ ⟨Nat.le_of_ble_eq_true rfl, Nat.le_of_ble_eq_true rfl⟩ hL9 (fun v9 H1 locs1 hF9 hL9 => ?_)
    obtain ⟨rfl, hB, hO9⟩ := hF9
    have hO := hO.tr hO9
    have hC1 := kc_kept hC hO.1 hO.2
    refine lv_pop hx hb d_X_appendHeight_10 rfl ?_
    refine lv_iload_n hx hb d_X_appendHeight_11 rfl (lv_at hl 1 rfl) ?_
    refine va_mabs hx hb (hml.trans hl.1.symm) hown (hts _ (hT _ km_abs_l)) (hts _ (hT _ km_abs_s)) (hts _ (hT _ k_ini_Math)) (hts _ (hT _ km_abs_c)) (Nat.le_of_ble_eq_true rfl) (Nat.le_of_ble_eq_true rfl) (Nat.le_of_ble_eq_true rfl) (Nat.le_of_ble_eq_true rfl) d_X_appendHeight_12 ?_
    refine tq_ti (show _ = (nI z.natAbs) from (by rw [if_neg (by rw [iv_ge0, ez]; omega)]; rw [show (0 : Int32) = iZ 0 from rfl, iZ_sub]; rw [nI_iZ]; congr 1; omega)) ?_
    refine lv_istore_n hx hb d_X_appendHeight_15 rfl hl (by decide) (lv' := [(2, .int (nI z.natAbs)), (0, .ref b), (1, .int (iZ z))]) rfl (fun ls hl => ?_)
    refine lv_aload_n hx hb d_X_appendHeight_16 rfl (lv_at hl 1 rfl) ?_
    refine lv_iload_n hx hb d_X_appendHeight_17 rfl (lv_at hl 0 rfl) ?_
    refine lv_sipush hx hb d_X_appendHeight_18 (v := (nI 10000)) rfl ?_
    refine lv_idiv hx hb d_X_appendHeight_21 (by decide) ?_
    refine tq_ti (show _ = (nI (z.natAbs / 10000)) from pk_div (by omega) (by decide) (by decide)) ?_
    have hwl := tt_wd_len (z.natAbs / 10000)
    refine tg_V ⟨hx, hb, hml, hown, hts⟩ hT (c_S_appI l D cB sz b (L := (L ++ [45])) (x := z.natAbs / 10000) (by omega) (by rw [List.length_append]; show L.length + 1 + 3 ≤ 34; omega)) lk_X_222 wS_mv ⟨hK, hC1, hB⟩ (sbS_rc hK hB) rfl hl.1 rfl (Nat.le_of_ble_eq_true rfl) d_X_appendHeight_22 ⟨rfl, rfl, Nat.le_of_ble_eq_true rfl, Nat.le_of_ble_eq_true rfl⟩ ⟨Nat.le_of_ble_eq_true rfl, Nat.le_of_ble_eq_true rfl⟩ hL9 (fun v9 H1 locs1 hF9 hL9 => ?_)
    obtain ⟨rfl, hB, hO9⟩ := hF9
    have hO := hO.tr hO9
    have hC1 := kc_kept hC hO.1 hO.2
    refine lv_pop hx hb d_X_appendHeight_25 rfl ?_
    refine lv_aload_n hx hb d_X_appendHeight_26 rfl (lv_at hl 1 rfl) ?_
    refine lv_bipush hx hb d_X_appendHeight_27 (v := (nI 46)) rfl ?_
    have hl2 : ((L ++ [45]) ++ tt_wd (z.natAbs / 10000)).length + 5 ≤ 34 := by rw [List.length_append]; rw [List.length_append]; show L.length + 1 + (tt_wd (z.natAbs / 10000)).length + 5 ≤ 34; omega
    refine tg_V ⟨hx, hb, hml, hown, hts⟩ hT (c_S_appC l D cB sz b (L := ((L ++ [45]) ++ tt_wd (z.natAbs / 10000))) (ch := 46) (by decide) (by omega)) lk_X_204 wS_mv ⟨hK, hC1, hB⟩ (sbS_rc hK hB) rfl hl.1 rfl (Nat.le_of_ble_eq_true rfl) d_X_appendHeight_29 ⟨rfl, rfl, Nat.le_of_ble_eq_true rfl, Nat.le_of_ble_eq_true rfl⟩ ⟨Nat.le_of_ble_eq_true rfl, Nat.le_of_ble_eq_true rfl⟩ hL9 (fun v9 H1 locs1 hF9 hL9 => ?_)
    obtain ⟨rfl, hB, hO9⟩ := hF9
    have hO := hO.tr hO9
    have hC1 := kc_kept hC hO.1 hO.2
    refine lv_pop hx hb d_X_appendHeight_32 rfl ?_
    refine lv_aload_n hx hb d_X_appendHeight_33 rfl (lv_at hl 1 rfl) ?_
    refine lv_iload_n hx hb d_X_appendHeight_34 rfl (lv_at hl 0 rfl) ?_
    refine lv_sipush hx hb d_X_appendHeight_35 (v := (nI 10000)) rfl ?_
    refine lv_irem hx hb d_X_appendHeight_38 (by decide) ?_
    refine tq_ti (show _ = (nI (z.natAbs % 10000)) from pk_rem (by omega) (by decide) (by decide)) ?_
    refine lv_sipush hx hb d_X_appendHeight_39 (v := (nI 1000)) rfl ?_
    refine tg_S ⟨hx, hb, hml, hown, hts⟩ hT (c_X_appendDigits4 l D cB sz b (L := ((L ++ [45]) ++ tt_wd (z.natAbs / 10000)) ++ [46]) (v := z.natAbs % 10000) (by omega) (by rw [List.length_append]; show ((L ++ [45]) ++ tt_wd (z.natAbs / 10000)).length + 1 + 4 ≤ 34; omega)) lk_X_200 wS_mv ⟨hK, hC1, hB⟩ rfl hl.1 rfl (Nat.le_of_ble_eq_true rfl) d_X_appendHeight_42 ⟨rfl, rfl, Nat.le_of_ble_eq_true rfl, Nat.le_of_ble_eq_true rfl⟩ ⟨Nat.le_of_ble_eq_true rfl, Nat.le_of_ble_eq_true rfl⟩ hL9 (fun v9 H1 locs1 hF9 hL9 => ?_)
    obtain ⟨rfl, hB, hO9⟩ := hF9
    have hO := hO.tr hO9
    have hC1 := kc_kept hC hO.1 hO.2
    have e9 : L ++ tt_ht z = ((L ++ [45]) ++ tt_wd (z.natAbs / 10000)) ++ [46] ++ [tt_dg (z.natAbs % 10000) 1000, tt_dg (z.natAbs % 10000) 100, tt_dg (z.natAbs % 10000) 10, tt_dg (z.natAbs % 10000) 1] := by unfold tt_ht; rw [if_pos h1]; simp
    rw [← e9] at hB
    refine W.widen (k := 7) (n := 238) (Nat.le_of_ble_eq_true rfl) (Nat.le_of_ble_eq_true rfl) ?_
    exact W.vret hx hb hr (fun t ht hW => ⟨_, rfl, rfl, by rw [ht]; exact hB, by rw [ht]; exact hO⟩) hL9 d_X_appendHeight_45
