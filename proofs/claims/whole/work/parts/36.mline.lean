/-! the reference's lines. Written by wip/whole/gen.py -/
def tt_TX (L : List Nat) (tx : Nat → Int32) : Prop := ∀ i, i < L.length → tx i = nI (L.getD i 0)
theorem tt_TX_add {L : List Nat} {tx : Nat → Int32} {n c : Nat} (hn : L.length = n) (q : tt_TX L tx) : tt_TX (L ++ [c]) (upd tx n (nI c)) := by
  intro i hi
  subst hn
  rw [List.length_append, List.length_singleton] at hi
  unfold upd
  by_cases e : i = L.length
  · rw [if_pos e, e]
    simp
  · rw [if_neg e, q i (by omega)]
    simp [List.getElem?_append, show i < L.length by omega]
set_option maxHeartbeats 4000000 in
set_option maxRecDepth 100000 in
theorem c_M_put (l : Launch) (D : va_G) (ci : Nat → ClassId) (am : Nat → Nat) (g : TS) (th fo : Int32) (hs mi hi tx : Nat → Int32) {L : List Nat} {n : Nat} (hn : L.length = n) (hTX : tt_TX L tx) (h40 : n + 1 ≤ 40) (cc : Nat) : Met l y_M_put (wT y_M_put b_M_put 2 none) (rP 0 0) (tb (wMD D ci am g th fo (nI n) hs mi hi tx) [.ref (am 0), .int (nI cc)]) (tq_Q (fun o9 H H1 => o9 = none ∧ ∃ tx1, tm D ci am g th fo (nI (n + 1)) hs mi hi tx1 H1 ∧ tt_TX (L ++ [cc]) tx1 ∧ mO am H H1)) 0 0 (mF am) := by
  refine Met.ofW (cc := b_M_put) (maxL := 2) (ret := none) (by decide) rfl ?_
  intro p e s m args below meth c s₁ B hml hv
  obtain ⟨rfl, hK, hg, hM, hD⟩ := hv
  have hx := B.exec
  have hb := B.bytes
  have hr := B.returns
  have hts := atoms_spec (ws := wT y_M_put b_M_put 2 none) B.pre
  have hT : ∀ w ∈ TT, w ∈ wT y_M_put b_M_put 2 none := wT_T
  have hown : s.vm.findClass RM = some m.cls := findClass_of_methodNamed B.named
  have hlocks := B.notSynchronized
  have hl := lv_entry ([.ref (am 0), .int (nI cc)]) (n := 2) (Nat.le_of_ble_eq_true rfl)
  rw [lg_entry_eq]
  generalize (lg_sl ([.ref (am 0), .int (nI cc)]) ++ List.replicate (2 - (lg_sl ([.ref (am 0), .int (nI cc)])).length) Slot.unset).toArray = ls at hl ⊢
  have hl : lv_has ls 2 [(0, .ref (am 0)), (1, .int (nI cc))] := hl
  have hL : ∀ q ∈ ([] : List Loc), mF am q.base := fun q hq => nomatch hq
  have hO : mO am s.heap s.heap := mO.rf
  refine lv_aload_n hx hb d_M_put_0 rfl (lv_at hl 0 rfl) ?_
  refine va_get hx hb hts (fun w h => hT w (uM_in w h)) hown hK hM 0 rfl rfl 13 (by decide) (hts _ (hT _ k_M_39)) (fun _ h => h) rfl d_M_put_1 ?_
  refine lv_aload_n hx hb d_M_put_4 rfl (lv_at hl 0 rfl) ?_
  refine va_get hx hb hts (fun w h => hT w (uM_in w h)) hown hK hM 0 rfl rfl 12 (by decide) (hts _ (hT _ k_M_126)) (fun _ h => h) rfl d_M_put_5 ?_
  refine lv_iload_n hx hb d_M_put_8 rfl (lv_at hl 1 rfl) ?_
  refine tq_iast (F := mF am) hx hb hK 0 (tm_one hM 10 rfl) rfl (show n < 40 by omega) (by decide) ⟨10, by decide, rfl⟩ hL d_M_put_9 (fun H1 locs1 hP1 hz1 hq1 hL => ?_)
  have hM : tm D ci am g th fo (nI n) hs mi hi (upd tx n (nI cc)) H1 := tm_set hD hM 10 (by decide) rfl hP1 (fun j hj => by rcases j with _ | _ | _ | _ | _ | _ | _ | _ | _ | _ | _ | j <;> first | rfl | exact absurd rfl hj) hq1
  have hO := hO.tr (mO.put (k := 10) (by decide) hz1 hq1)
  refine lv_aload_n hx hb d_M_put_10 rfl (lv_at hl 0 rfl) ?_
  refine lv_dup hx hb d_M_put_11 rfl ?_
  refine va_get hx hb hts (fun w h => hT w (uM_in w h)) hown hK hM 0 rfl rfl 12 (by decide) (hts _ (hT _ k_M_126)) (fun _ h => h) rfl d_M_put_12 ?_
  refine lv_iconst hx hb d_M_put_15 (v := (nI 1)) rfl ?_
  refine lv_iadd hx hb d_M_put_16 ?_
  refine tq_ti (show _ = (nI (n + 1)) from nI_add _ 1) ?_
  refine tq_put (F := mF am) hx hb hts (fun w h => hT w (uM_in w h)) tM tM_ok nM hown hK (tm_one hM 0 rfl) (ci := 1) rfl 12 (by decide) (hts _ (hT _ k_M_126)) (fun _ h => h) rfl (ty := .int) rfl rfl rfl (Nat.le_of_ble_eq_true rfl) ⟨0, by decide, rfl⟩ hL d_M_put_17 (fun H1 locs1 hP1 hz1 hq1 hL => ?_)
  have hM : tm D ci am g th fo (nI (n + 1)) hs mi hi (upd tx n (nI cc)) H1 := tm_set hD hM 0 (by decide) rfl hP1 (fun j hj => by rcases j with _ | _ | _ | _ | _ | _ | _ | _ | _ | _ | _ | j <;> first | rfl | exact absurd rfl hj) hq1
  have hO := hO.tr (mO.put (k := 0) (by decide) hz1 hq1)
  exact W.vret hx hb hr (fun t ht hW => ⟨_, rfl, rfl, _, by rw [ht]; exact hM, tt_TX_add hn hTX, by rw [ht]; exact hO⟩) hL d_M_put_20
set_option maxHeartbeats 4000000 in
set_option maxRecDepth 100000 in
theorem c_M_putDigits1 (l : Launch) (D : va_G) (ci : Nat → ClassId) (am : Nat → Nat) (g : TS) (th fo : Int32) (hs mi hi tx : Nat → Int32) {L : List Nat} {n : Nat} (hn : L.length = n) (hTX : tt_TX L tx) (h40 : n + 1 ≤ 40) {v : Nat} (hv : v < 2147483648) : Met l y_M_putDigits (wT y_M_putDigits b_M_putDigits 5 none) (rP 1 21) (tb (wMD D ci am g th fo (nI n) hs mi hi tx) [.ref (am 0), .int (nI v), .int (nI 1)]) (tq_Q (fun o9 H H1 => o9 = none ∧ ∃ tx1, tm D ci am g th fo (nI (n + 1)) hs mi hi tx1 H1 ∧ tt_TX (L ++ [tt_dg v 1]) tx1 ∧ mO am H H1)) 0 0 (mF am) := by
  refine Met.ofW (cc := b_M_putDigits) (maxL := 5) (ret := none) (by decide) rfl ?_
  intro p e s m args below meth c s₁ B hml hv
  obtain ⟨rfl, hK, hg, hM, hD⟩ := hv
  have hx := B.exec
  have hb := B.bytes
  have hr := B.returns
  have hts := atoms_spec (ws := wT y_M_putDigits b_M_putDigits 5 none) B.pre
  have hT : ∀ w ∈ TT, w ∈ wT y_M_putDigits b_M_putDigits 5 none := wT_T
  have hown : s.vm.findClass RM = some m.cls := findClass_of_methodNamed B.named
  have hlocks := B.notSynchronized
  have hl := lv_entry ([.ref (am 0), .int (nI v), .int (nI 1)]) (n := 5) (Nat.le_of_ble_eq_true rfl)
  rw [lg_entry_eq]
  generalize (lg_sl ([.ref (am 0), .int (nI v), .int (nI 1)]) ++ List.replicate (5 - (lg_sl ([.ref (am 0), .int (nI v), .int (nI 1)])).length) Slot.unset).toArray = ls at hl ⊢
  have hl : lv_has ls 5 [(0, .ref (am 0)), (1, .int (nI v)), (2, .int (nI 1))] := hl
  have hL : ∀ q ∈ ([] : List Loc), mF am q.base := fun q hq => nomatch hq
  have hO : mO am s.heap s.heap := mO.rf
  refine lv_iconst hx hb d_M_putDigits_0 (v := (nI 1)) rfl ?_
  refine lv_istore_n hx hb d_M_putDigits_1 rfl hl (by decide) (lv' := [(3, .int (nI 1)), (0, .ref (am 0)), (1, .int (nI v)), (2, .int (nI 1))]) rfl (fun ls hl => ?_)
  refine lv_iconst hx hb d_M_putDigits_2 (v := (nI 1)) rfl ?_
  refine lv_istore hx hb d_M_putDigits_3 hl (by decide) (lv' := [(4, .int (nI 1)), (3, .int (nI 1)), (0, .ref (am 0)), (1, .int (nI v)), (2, .int (nI 1))]) rfl (fun ls hl => ?_)
  refine lv_iload hx hb d_M_putDigits_5 (lv_at hl 0 rfl) ?_
  refine lv_iload_n hx hb d_M_putDigits_7 rfl (lv_at hl 4 rfl) ?_
  refine lv_icmp_ge hx hb d_M_putDigits_8 (tgt := 22) (by decide) (fun _ => ?_) (fun hno => absurd (by decide) hno)
  refine lv_iload_n hx hb d_M_putDigits_22 rfl (lv_at hl 1 rfl) ?_
  refine lv_istore hx hb d_M_putDigits_23 hl (by decide) (lv' := [(4, .int (nI 1)), (3, .int (nI 1)), (0, .ref (am 0)), (1, .int (nI v)), (2, .int (nI 1))]) rfl (fun ls hl => ?_)
  refine lv_iload hx hb d_M_putDigits_25 (lv_at hl 0 rfl) ?_
  refine lv_if_le hx hb d_M_putDigits_27 (tgt := 54) (by decide) (fun hyes => absurd hyes (by decide)) (fun _ => ?_)
  refine lv_aload_n hx hb d_M_putDigits_30 rfl (lv_at hl 2 rfl) ?_
  refine lv_bipush hx hb d_M_putDigits_31 (v := (nI 48)) rfl ?_
  refine lv_iload_n hx hb d_M_putDigits_33 rfl (lv_at hl 3 rfl) ?_
  refine lv_iload hx hb d_M_putDigits_34 (lv_at hl 0 rfl) ?_
  refine lv_idiv hx hb d_M_putDigits_36 (by decide) ?_
  refine tq_ti (show _ = (nI (v / 1)) from pk_div (by omega) (by decide) (by decide)) ?_
  refine lv_bipush hx hb d_M_putDigits_37 (v := (nI 10)) rfl ?_
  refine lv_irem hx hb d_M_putDigits_39 (by decide) ?_
  refine tq_ti (show _ = (nI (v / 1 % 10)) from pk_rem (by omega) (by decide) (by decide)) ?_
  refine lv_iadd hx hb d_M_putDigits_40 ?_
  refine tq_ti (show _ = (nI (tt_dg v 1)) from nI_add _ _) ?_
  refine tq_VW ⟨hx, hb, hml, hown, hts⟩ hT (c_M_put l D ci am g th fo hs mi hi tx (L := L) (n := n + 0) hn hTX (by omega) (tt_dg v 1)) lk_M_129 wMD_mv ⟨hK, hg, hM, hD⟩ (wM_rc hK hM) rfl hl.1 rfl (Nat.le_of_ble_eq_true rfl) d_M_putDigits_41 ⟨rfl, rfl, Nat.le_of_ble_eq_true rfl, Nat.le_of_ble_eq_true rfl⟩ ⟨Nat.zero_le _, Nat.zero_le _⟩ hL (fun v9 H1 locs1 hF9 hL => ?_)
  obtain ⟨rfl, tx1, hM, hTX, hO9⟩ := hF9
  have hO := hO.tr hO9
  refine lv_iload hx hb d_M_putDigits_44 (lv_at hl 0 rfl) ?_
  refine lv_bipush hx hb d_M_putDigits_46 (v := (nI 10)) rfl ?_
  refine lv_idiv hx hb d_M_putDigits_48 (by decide) ?_
  refine tq_ti (show _ = (nI 0) from rfl) ?_
  refine lv_istore hx hb d_M_putDigits_49 hl (by decide) (lv' := [(4, .int (nI 0)), (3, .int (nI 1)), (0, .ref (am 0)), (1, .int (nI v)), (2, .int (nI 1))]) rfl (fun ls hl => ?_)
  refine lv_goto hx hb d_M_putDigits_51 (tgt := 25) (by decide) ?_
  refine lv_iload hx hb d_M_putDigits_25 (lv_at hl 0 rfl) ?_
  refine lv_if_le hx hb d_M_putDigits_27 (tgt := 54) (by decide) (fun _ => ?_) (fun hno => absurd (by decide) hno)
  exact W.vret hx hb hr (fun t ht hW => ⟨_, rfl, rfl, _, by rw [ht]; exact hM, hTX, by rw [ht]; exact hO⟩) hL d_M_putDigits_54
set_option maxHeartbeats 4000000 in
set_option maxRecDepth 100000 in
theorem c_M_putDigits2 (l : Launch) (D : va_G) (ci : Nat → ClassId) (am : Nat → Nat) (g : TS) (th fo : Int32) (hs mi hi tx : Nat → Int32) {L : List Nat} {n : Nat} (hn : L.length = n) (hTX : tt_TX L tx) (h40 : n + 2 ≤ 40) {v : Nat} (hv : v < 2147483648) : Met l y_M_putDigits (wT y_M_putDigits b_M_putDigits 5 none) (rP 1 21) (tb (wMD D ci am g th fo (nI n) hs mi hi tx) [.ref (am 0), .int (nI v), .int (nI 2)]) (tq_Q (fun o9 H H1 => o9 = none ∧ ∃ tx1, tm D ci am g th fo (nI (n + 2)) hs mi hi tx1 H1 ∧ tt_TX (L ++ [tt_dg v 10, tt_dg v 1]) tx1 ∧ mO am H H1)) 0 0 (mF am) := by
  refine Met.ofW (cc := b_M_putDigits) (maxL := 5) (ret := none) (by decide) rfl ?_
  intro p e s m args below meth c s₁ B hml hv
  obtain ⟨rfl, hK, hg, hM, hD⟩ := hv
  have hx := B.exec
  have hb := B.bytes
  have hr := B.returns
  have hts := atoms_spec (ws := wT y_M_putDigits b_M_putDigits 5 none) B.pre
  have hT : ∀ w ∈ TT, w ∈ wT y_M_putDigits b_M_putDigits 5 none := wT_T
  have hown : s.vm.findClass RM = some m.cls := findClass_of_methodNamed B.named
  have hlocks := B.notSynchronized
  have hl := lv_entry ([.ref (am 0), .int (nI v), .int (nI 2)]) (n := 5) (Nat.le_of_ble_eq_true rfl)
  rw [lg_entry_eq]
  generalize (lg_sl ([.ref (am 0), .int (nI v), .int (nI 2)]) ++ List.replicate (5 - (lg_sl ([.ref (am 0), .int (nI v), .int (nI 2)])).length) Slot.unset).toArray = ls at hl ⊢
  have hl : lv_has ls 5 [(0, .ref (am 0)), (1, .int (nI v)), (2, .int (nI 2))] := hl
  have hL : ∀ q ∈ ([] : List Loc), mF am q.base := fun q hq => nomatch hq
  have hO : mO am s.heap s.heap := mO.rf
  refine lv_iconst hx hb d_M_putDigits_0 (v := (nI 1)) rfl ?_
  refine lv_istore_n hx hb d_M_putDigits_1 rfl hl (by decide) (lv' := [(3, .int (nI 1)), (0, .ref (am 0)), (1, .int (nI v)), (2, .int (nI 2))]) rfl (fun ls hl => ?_)
  refine lv_iconst hx hb d_M_putDigits_2 (v := (nI 1)) rfl ?_
  refine lv_istore hx hb d_M_putDigits_3 hl (by decide) (lv' := [(4, .int (nI 1)), (3, .int (nI 1)), (0, .ref (am 0)), (1, .int (nI v)), (2, .int (nI 2))]) rfl (fun ls hl => ?_)
  refine lv_iload hx hb d_M_putDigits_5 (lv_at hl 0 rfl) ?_
  refine lv_iload_n hx hb d_M_putDigits_7 rfl (lv_at hl 4 rfl) ?_
  refine lv_icmp_ge hx hb d_M_putDigits_8 (tgt := 22) (by decide) (fun hyes => absurd hyes (by decide)) (fun _ => ?_)
  refine lv_bipush hx hb d_M_putDigits_11 (v := (nI 10)) rfl ?_
  refine lv_iload_n hx hb d_M_putDigits_13 rfl (lv_at hl 1 rfl) ?_
  refine lv_imul hx hb d_M_putDigits_14 ?_
  refine tq_ti (show _ = (nI 10) from rfl) ?_
  refine lv_istore_n hx hb d_M_putDigits_15 rfl hl (by decide) (lv' := [(3, .int (nI 10)), (4, .int (nI 1)), (0, .ref (am 0)), (1, .int (nI v)), (2, .int (nI 2))]) rfl (fun ls hl => ?_)
  refine lv_iinc hx hb d_M_putDigits_16 hl (k := 1) rfl (v := (nI 2)) rfl (by decide) (lv' := [(4, .int (nI 2)), (3, .int (nI 10)), (0, .ref (am 0)), (1, .int (nI v)), (2, .int (nI 2))]) rfl (fun ls hl => ?_)
  refine lv_goto hx hb d_M_putDigits_19 (tgt := 5) (by decide) ?_
  refine lv_iload hx hb d_M_putDigits_5 (lv_at hl 0 rfl) ?_
  refine lv_iload_n hx hb d_M_putDigits_7 rfl (lv_at hl 4 rfl) ?_
  refine lv_icmp_ge hx hb d_M_putDigits_8 (tgt := 22) (by decide) (fun _ => ?_) (fun hno => absurd (by decide) hno)
  refine lv_iload_n hx hb d_M_putDigits_22 rfl (lv_at hl 1 rfl) ?_
  refine lv_istore hx hb d_M_putDigits_23 hl (by decide) (lv' := [(4, .int (nI 10)), (3, .int (nI 10)), (0, .ref (am 0)), (1, .int (nI v)), (2, .int (nI 2))]) rfl (fun ls hl => ?_)
  refine lv_iload hx hb d_M_putDigits_25 (lv_at hl 0 rfl) ?_
  refine lv_if_le hx hb d_M_putDigits_27 (tgt := 54) (by decide) (fun hyes => absurd hyes (by decide)) (fun _ => ?_)
  refine lv_aload_n hx hb d_M_putDigits_30 rfl (lv_at hl 2 rfl) ?_
  refine lv_bipush hx hb d_M_putDigits_31 (v := (nI 48)) rfl ?_
  refine lv_iload_n hx hb d_M_putDigits_33 rfl (lv_at hl 3 rfl) ?_
  refine lv_iload hx hb d_M_putDigits_34 (lv_at hl 0 rfl) ?_
  refine lv_idiv hx hb d_M_putDigits_36 (by decide) ?_
  refine tq_ti (show _ = (nI (v / 10)) from pk_div (by omega) (by decide) (by decide)) ?_
  refine lv_bipush hx hb d_M_putDigits_37 (v := (nI 10)) rfl ?_
  refine lv_irem hx hb d_M_putDigits_39 (by decide) ?_
  refine tq_ti (show _ = (nI (v / 10 % 10)) from pk_rem (by omega) (by decide) (by decide)) ?_
  refine lv_iadd hx hb d_M_putDigits_40 ?_
  refine tq_ti (show _ = (nI (tt_dg v 10)) from nI_add _ _) ?_
  refine tq_VW ⟨hx, hb, hml, hown, hts⟩ hT (c_M_put l D ci am g th fo hs mi hi tx (L := L) (n := n + 0) hn hTX (by omega) (tt_dg v 10)) lk_M_129 wMD_mv ⟨hK, hg, hM, hD⟩ (wM_rc hK hM) rfl hl.1 rfl (Nat.le_of_ble_eq_true rfl) d_M_putDigits_41 ⟨rfl, rfl, Nat.le_of_ble_eq_true rfl, Nat.le_of_ble_eq_true rfl⟩ ⟨Nat.zero_le _, Nat.zero_le _⟩ hL (fun v9 H1 locs1 hF9 hL => ?_)
  obtain ⟨rfl, tx1, hM, hTX, hO9⟩ := hF9
  have hO := hO.tr hO9
  refine lv_iload hx hb d_M_putDigits_44 (lv_at hl 0 rfl) ?_
  refine lv_bipush hx hb d_M_putDigits_46 (v := (nI 10)) rfl ?_
  refine lv_idiv hx hb d_M_putDigits_48 (by decide) ?_
  refine tq_ti (show _ = (nI 1) from rfl) ?_
  refine lv_istore hx hb d_M_putDigits_49 hl (by decide) (lv' := [(4, .int (nI 1)), (3, .int (nI 10)), (0, .ref (am 0)), (1, .int (nI v)), (2, .int (nI 2))]) rfl (fun ls hl => ?_)
  refine lv_goto hx hb d_M_putDigits_51 (tgt := 25) (by decide) ?_
  refine lv_iload hx hb d_M_putDigits_25 (lv_at hl 0 rfl) ?_
  refine lv_if_le hx hb d_M_putDigits_27 (tgt := 54) (by decide) (fun hyes => absurd hyes (by decide)) (fun _ => ?_)
  refine lv_aload_n hx hb d_M_putDigits_30 rfl (lv_at hl 2 rfl) ?_
  refine lv_bipush hx hb d_M_putDigits_31 (v := (nI 48)) rfl ?_
  refine lv_iload_n hx hb d_M_putDigits_33 rfl (lv_at hl 3 rfl) ?_
  refine lv_iload hx hb d_M_putDigits_34 (lv_at hl 0 rfl) ?_
  refine lv_idiv hx hb d_M_putDigits_36 (by decide) ?_
  refine tq_ti (show _ = (nI (v / 1)) from pk_div (by omega) (by decide) (by decide)) ?_
  refine lv_bipush hx hb d_M_putDigits_37 (v := (nI 10)) rfl ?_
  refine lv_irem hx hb d_M_putDigits_39 (by decide) ?_
  refine tq_ti (show _ = (nI (v / 1 % 10)) from pk_rem (by omega) (by decide) (by decide)) ?_
  refine lv_iadd hx hb d_M_putDigits_40 ?_
  refine tq_ti (show _ = (nI (tt_dg v 1)) from nI_add _ _) ?_
  refine tq_VW ⟨hx, hb, hml, hown, hts⟩ hT (c_M_put l D ci am g th fo hs mi hi tx1 (L := (L ++ [tt_dg v 10])) (n := n + 1) (by rw [List.length_append, hn]; rfl) hTX (by omega) (tt_dg v 1)) lk_M_129 wMD_mv ⟨hK, hg, hM, hD⟩ (wM_rc hK hM) rfl hl.1 rfl (Nat.le_of_ble_eq_true rfl) d_M_putDigits_41 ⟨rfl, rfl, Nat.le_of_ble_eq_true rfl, Nat.le_of_ble_eq_true rfl⟩ ⟨Nat.zero_le _, Nat.zero_le _⟩ hL (fun v9 H1 locs1 hF9 hL => ?_)
  obtain ⟨rfl, tx1, hM, hTX, hO9⟩ := hF9
  have hO := hO.tr hO9
  have hTX : tt_TX (L ++ [tt_dg v 10, tt_dg v 1]) tx1 := by have h9 := hTX; simp only [List.append_assoc, List.cons_append, List.nil_append] at h9; exact h9
  refine lv_iload hx hb d_M_putDigits_44 (lv_at hl 0 rfl) ?_
  refine lv_bipush hx hb d_M_putDigits_46 (v := (nI 10)) rfl ?_
  refine lv_idiv hx hb d_M_putDigits_48 (by decide) ?_
  refine tq_ti (show _ = (nI 0) from rfl) ?_
  refine lv_istore hx hb d_M_putDigits_49 hl (by decide) (lv' := [(4, .int (nI 0)), (3, .int (nI 10)), (0, .ref (am 0)), (1, .int (nI v)), (2, .int (nI 2))]) rfl (fun ls hl => ?_)
  refine lv_goto hx hb d_M_putDigits_51 (tgt := 25) (by decide) ?_
  refine lv_iload hx hb d_M_putDigits_25 (lv_at hl 0 rfl) ?_
  refine lv_if_le hx hb d_M_putDigits_27 (tgt := 54) (by decide) (fun _ => ?_) (fun hno => absurd (by decide) hno)
  exact W.vret hx hb hr (fun t ht hW => ⟨_, rfl, rfl, _, by rw [ht]; exact hM, hTX, by rw [ht]; exact hO⟩) hL d_M_putDigits_54
set_option maxHeartbeats 4000000 in
set_option maxRecDepth 100000 in
theorem c_M_putDigits3 (l : Launch) (D : va_G) (ci : Nat → ClassId) (am : Nat → Nat) (g : TS) (th fo : Int32) (hs mi hi tx : Nat → Int32) {L : List Nat} {n : Nat} (hn : L.length = n) (hTX : tt_TX L tx) (h40 : n + 3 ≤ 40) {v : Nat} (hv : v < 2147483648) : Met l y_M_putDigits (wT y_M_putDigits b_M_putDigits 5 none) (rP 1 21) (tb (wMD D ci am g th fo (nI n) hs mi hi tx) [.ref (am 0), .int (nI v), .int (nI 3)]) (tq_Q (fun o9 H H1 => o9 = none ∧ ∃ tx1, tm D ci am g th fo (nI (n + 3)) hs mi hi tx1 H1 ∧ tt_TX (L ++ [tt_dg v 100, tt_dg v 10, tt_dg v 1]) tx1 ∧ mO am H H1)) 0 0 (mF am) := by
  refine Met.ofW (cc := b_M_putDigits) (maxL := 5) (ret := none) (by decide) rfl ?_
  intro p e s m args below meth c s₁ B hml hv
  obtain ⟨rfl, hK, hg, hM, hD⟩ := hv
  have hx := B.exec
  have hb := B.bytes
  have hr := B.returns
  have hts := atoms_spec (ws := wT y_M_putDigits b_M_putDigits 5 none) B.pre
  have hT : ∀ w ∈ TT, w ∈ wT y_M_putDigits b_M_putDigits 5 none := wT_T
  have hown : s.vm.findClass RM = some m.cls := findClass_of_methodNamed B.named
  have hlocks := B.notSynchronized
  have hl := lv_entry ([.ref (am 0), .int (nI v), .int (nI 3)]) (n := 5) (Nat.le_of_ble_eq_true rfl)
  rw [lg_entry_eq]
  generalize (lg_sl ([.ref (am 0), .int (nI v), .int (nI 3)]) ++ List.replicate (5 - (lg_sl ([.ref (am 0), .int (nI v), .int (nI 3)])).length) Slot.unset).toArray = ls at hl ⊢
  have hl : lv_has ls 5 [(0, .ref (am 0)), (1, .int (nI v)), (2, .int (nI 3))] := hl
  have hL : ∀ q ∈ ([] : List Loc), mF am q.base := fun q hq => nomatch hq
  have hO : mO am s.heap s.heap := mO.rf
  refine lv_iconst hx hb d_M_putDigits_0 (v := (nI 1)) rfl ?_
  refine lv_istore_n hx hb d_M_putDigits_1 rfl hl (by decide) (lv' := [(3, .int (nI 1)), (0, .ref (am 0)), (1, .int (nI v)), (2, .int (nI 3))]) rfl (fun ls hl => ?_)
  refine lv_iconst hx hb d_M_putDigits_2 (v := (nI 1)) rfl ?_
  refine lv_istore hx hb d_M_putDigits_3 hl (by decide) (lv' := [(4, .int (nI 1)), (3, .int (nI 1)), (0, .ref (am 0)), (1, .int (nI v)), (2, .int (nI 3))]) rfl (fun ls hl => ?_)
  refine lv_iload hx hb d_M_putDigits_5 (lv_at hl 0 rfl) ?_
  refine lv_iload_n hx hb d_M_putDigits_7 rfl (lv_at hl 4 rfl) ?_
  refine lv_icmp_ge hx hb d_M_putDigits_8 (tgt := 22) (by decide) (fun hyes => absurd hyes (by decide)) (fun _ => ?_)
  refine lv_bipush hx hb d_M_putDigits_11 (v := (nI 10)) rfl ?_
  refine lv_iload_n hx hb d_M_putDigits_13 rfl (lv_at hl 1 rfl) ?_
  refine lv_imul hx hb d_M_putDigits_14 ?_
  refine tq_ti (show _ = (nI 10) from rfl) ?_
  refine lv_istore_n hx hb d_M_putDigits_15 rfl hl (by decide) (lv' := [(3, .int (nI 10)), (4, .int (nI 1)), (0, .ref (am 0)), (1, .int (nI v)), (2, .int (nI 3))]) rfl (fun ls hl => ?_)
  refine lv_iinc hx hb d_M_putDigits_16 hl (k := 1) rfl (v := (nI 2)) rfl (by decide) (lv' := [(4, .int (nI 2)), (3, .int (nI 10)), (0, .ref (am 0)), (1, .int (nI v)), (2, .int (nI 3))]) rfl (fun ls hl => ?_)
  refine lv_goto hx hb d_M_putDigits_19 (tgt := 5) (by decide) ?_
  refine lv_iload hx hb d_M_putDigits_5 (lv_at hl 0 rfl) ?_
  refine lv_iload_n hx hb d_M_putDigits_7 rfl (lv_at hl 4 rfl) ?_
  refine lv_icmp_ge hx hb d_M_putDigits_8 (tgt := 22) (by decide) (fun hyes => absurd hyes (by decide)) (fun _ => ?_)
  refine lv_bipush hx hb d_M_putDigits_11 (v := (nI 10)) rfl ?_
  refine lv_iload_n hx hb d_M_putDigits_13 rfl (lv_at hl 1 rfl) ?_
  refine lv_imul hx hb d_M_putDigits_14 ?_
  refine tq_ti (show _ = (nI 100) from rfl) ?_
  refine lv_istore_n hx hb d_M_putDigits_15 rfl hl (by decide) (lv' := [(3, .int (nI 100)), (4, .int (nI 2)), (0, .ref (am 0)), (1, .int (nI v)), (2, .int (nI 3))]) rfl (fun ls hl => ?_)
  refine lv_iinc hx hb d_M_putDigits_16 hl (k := 1) rfl (v := (nI 3)) rfl (by decide) (lv' := [(4, .int (nI 3)), (3, .int (nI 100)), (0, .ref (am 0)), (1, .int (nI v)), (2, .int (nI 3))]) rfl (fun ls hl => ?_)
  refine lv_goto hx hb d_M_putDigits_19 (tgt := 5) (by decide) ?_
  refine lv_iload hx hb d_M_putDigits_5 (lv_at hl 0 rfl) ?_
  refine lv_iload_n hx hb d_M_putDigits_7 rfl (lv_at hl 4 rfl) ?_
  refine lv_icmp_ge hx hb d_M_putDigits_8 (tgt := 22) (by decide) (fun _ => ?_) (fun hno => absurd (by decide) hno)
  refine lv_iload_n hx hb d_M_putDigits_22 rfl (lv_at hl 1 rfl) ?_
  refine lv_istore hx hb d_M_putDigits_23 hl (by decide) (lv' := [(4, .int (nI 100)), (3, .int (nI 100)), (0, .ref (am 0)), (1, .int (nI v)), (2, .int (nI 3))]) rfl (fun ls hl => ?_)
  refine lv_iload hx hb d_M_putDigits_25 (lv_at hl 0 rfl) ?_
  refine lv_if_le hx hb d_M_putDigits_27 (tgt := 54) (by decide) (fun hyes => absurd hyes (by decide)) (fun _ => ?_)
  refine lv_aload_n hx hb d_M_putDigits_30 rfl (lv_at hl 2 rfl) ?_
  refine lv_bipush hx hb d_M_putDigits_31 (v := (nI 48)) rfl ?_
  refine lv_iload_n hx hb d_M_putDigits_33 rfl (lv_at hl 3 rfl) ?_
  refine lv_iload hx hb d_M_putDigits_34 (lv_at hl 0 rfl) ?_
  refine lv_idiv hx hb d_M_putDigits_36 (by decide) ?_
  refine tq_ti (show _ = (nI (v / 100)) from pk_div (by omega) (by decide) (by decide)) ?_
  refine lv_bipush hx hb d_M_putDigits_37 (v := (nI 10)) rfl ?_
  refine lv_irem hx hb d_M_putDigits_39 (by decide) ?_
  refine tq_ti (show _ = (nI (v / 100 % 10)) from pk_rem (by omega) (by decide) (by decide)) ?_
  refine lv_iadd hx hb d_M_putDigits_40 ?_
  refine tq_ti (show _ = (nI (tt_dg v 100)) from nI_add _ _) ?_
  refine tq_VW ⟨hx, hb, hml, hown, hts⟩ hT (c_M_put l D ci am g th fo hs mi hi tx (L := L) (n := n + 0) hn hTX (by omega) (tt_dg v 100)) lk_M_129 wMD_mv ⟨hK, hg, hM, hD⟩ (wM_rc hK hM) rfl hl.1 rfl (Nat.le_of_ble_eq_true rfl) d_M_putDigits_41 ⟨rfl, rfl, Nat.le_of_ble_eq_true rfl, Nat.le_of_ble_eq_true rfl⟩ ⟨Nat.zero_le _, Nat.zero_le _⟩ hL (fun v9 H1 locs1 hF9 hL => ?_)
  obtain ⟨rfl, tx1, hM, hTX, hO9⟩ := hF9
  have hO := hO.tr hO9
  refine lv_iload hx hb d_M_putDigits_44 (lv_at hl 0 rfl) ?_
  refine lv_bipush hx hb d_M_putDigits_46 (v := (nI 10)) rfl ?_
  refine lv_idiv hx hb d_M_putDigits_48 (by decide) ?_
  refine tq_ti (show _ = (nI 10) from rfl) ?_
  refine lv_istore hx hb d_M_putDigits_49 hl (by decide) (lv' := [(4, .int (nI 10)), (3, .int (nI 100)), (0, .ref (am 0)), (1, .int (nI v)), (2, .int (nI 3))]) rfl (fun ls hl => ?_)
  refine lv_goto hx hb d_M_putDigits_51 (tgt := 25) (by decide) ?_
  refine lv_iload hx hb d_M_putDigits_25 (lv_at hl 0 rfl) ?_
  refine lv_if_le hx hb d_M_putDigits_27 (tgt := 54) (by decide) (fun hyes => absurd hyes (by decide)) (fun _ => ?_)
  refine lv_aload_n hx hb d_M_putDigits_30 rfl (lv_at hl 2 rfl) ?_
  refine lv_bipush hx hb d_M_putDigits_31 (v := (nI 48)) rfl ?_
  refine lv_iload_n hx hb d_M_putDigits_33 rfl (lv_at hl 3 rfl) ?_
  refine lv_iload hx hb d_M_putDigits_34 (lv_at hl 0 rfl) ?_
  refine lv_idiv hx hb d_M_putDigits_36 (by decide) ?_
  refine tq_ti (show _ = (nI (v / 10)) from pk_div (by omega) (by decide) (by decide)) ?_
  refine lv_bipush hx hb d_M_putDigits_37 (v := (nI 10)) rfl ?_
  refine lv_irem hx hb d_M_putDigits_39 (by decide) ?_
  refine tq_ti (show _ = (nI (v / 10 % 10)) from pk_rem (by omega) (by decide) (by decide)) ?_
  refine lv_iadd hx hb d_M_putDigits_40 ?_
  refine tq_ti (show _ = (nI (tt_dg v 10)) from nI_add _ _) ?_
  refine tq_VW ⟨hx, hb, hml, hown, hts⟩ hT (c_M_put l D ci am g th fo hs mi hi tx1 (L := (L ++ [tt_dg v 100])) (n := n + 1) (by rw [List.length_append, hn]; rfl) hTX (by omega) (tt_dg v 10)) lk_M_129 wMD_mv ⟨hK, hg, hM, hD⟩ (wM_rc hK hM) rfl hl.1 rfl (Nat.le_of_ble_eq_true rfl) d_M_putDigits_41 ⟨rfl, rfl, Nat.le_of_ble_eq_true rfl, Nat.le_of_ble_eq_true rfl⟩ ⟨Nat.zero_le _, Nat.zero_le _⟩ hL (fun v9 H1 locs1 hF9 hL => ?_)
  obtain ⟨rfl, tx1, hM, hTX, hO9⟩ := hF9
  have hO := hO.tr hO9
  have hTX : tt_TX (L ++ [tt_dg v 100, tt_dg v 10]) tx1 := by have h9 := hTX; simp only [List.append_assoc, List.cons_append, List.nil_append] at h9; exact h9
  refine lv_iload hx hb d_M_putDigits_44 (lv_at hl 0 rfl) ?_
  refine lv_bipush hx hb d_M_putDigits_46 (v := (nI 10)) rfl ?_
  refine lv_idiv hx hb d_M_putDigits_48 (by decide) ?_
  refine tq_ti (show _ = (nI 1) from rfl) ?_
  refine lv_istore hx hb d_M_putDigits_49 hl (by decide) (lv' := [(4, .int (nI 1)), (3, .int (nI 100)), (0, .ref (am 0)), (1, .int (nI v)), (2, .int (nI 3))]) rfl (fun ls hl => ?_)
  refine lv_goto hx hb d_M_putDigits_51 (tgt := 25) (by decide) ?_
  refine lv_iload hx hb d_M_putDigits_25 (lv_at hl 0 rfl) ?_
  refine lv_if_le hx hb d_M_putDigits_27 (tgt := 54) (by decide) (fun hyes => absurd hyes (by decide)) (fun _ => ?_)
  refine lv_aload_n hx hb d_M_putDigits_30 rfl (lv_at hl 2 rfl) ?_
  refine lv_bipush hx hb d_M_putDigits_31 (v := (nI 48)) rfl ?_
  refine lv_iload_n hx hb d_M_putDigits_33 rfl (lv_at hl 3 rfl) ?_
  refine lv_iload hx hb d_M_putDigits_34 (lv_at hl 0 rfl) ?_
  refine lv_idiv hx hb d_M_putDigits_36 (by decide) ?_
  refine tq_ti (show _ = (nI (v / 1)) from pk_div (by omega) (by decide) (by decide)) ?_
  refine lv_bipush hx hb d_M_putDigits_37 (v := (nI 10)) rfl ?_
  refine lv_irem hx hb d_M_putDigits_39 (by decide) ?_
  refine tq_ti (show _ = (nI (v / 1 % 10)) from pk_rem (by omega) (by decide) (by decide)) ?_
  refine lv_iadd hx hb d_M_putDigits_40 ?_
  refine tq_ti (show _ = (nI (tt_dg v 1)) from nI_add _ _) ?_
  refine tq_VW ⟨hx, hb, hml, hown, hts⟩ hT (c_M_put l D ci am g th fo hs mi hi tx1 (L := (L ++ [tt_dg v 100, tt_dg v 10])) (n := n + 2) (by rw [List.length_append, hn]; rfl) hTX (by omega) (tt_dg v 1)) lk_M_129 wMD_mv ⟨hK, hg, hM, hD⟩ (wM_rc hK hM) rfl hl.1 rfl (Nat.le_of_ble_eq_true rfl) d_M_putDigits_41 ⟨rfl, rfl, Nat.le_of_ble_eq_true rfl, Nat.le_of_ble_eq_true rfl⟩ ⟨Nat.zero_le _, Nat.zero_le _⟩ hL (fun v9 H1 locs1 hF9 hL => ?_)
  obtain ⟨rfl, tx1, hM, hTX, hO9⟩ := hF9
  have hO := hO.tr hO9
  have hTX : tt_TX (L ++ [tt_dg v 100, tt_dg v 10, tt_dg v 1]) tx1 := by have h9 := hTX; simp only [List.append_assoc, List.cons_append, List.nil_append] at h9; exact h9
  refine lv_iload hx hb d_M_putDigits_44 (lv_at hl 0 rfl) ?_
  refine lv_bipush hx hb d_M_putDigits_46 (v := (nI 10)) rfl ?_
  refine lv_idiv hx hb d_M_putDigits_48 (by decide) ?_
  refine tq_ti (show _ = (nI 0) from rfl) ?_
  refine lv_istore hx hb d_M_putDigits_49 hl (by decide) (lv' := [(4, .int (nI 0)), (3, .int (nI 100)), (0, .ref (am 0)), (1, .int (nI v)), (2, .int (nI 3))]) rfl (fun ls hl => ?_)
  refine lv_goto hx hb d_M_putDigits_51 (tgt := 25) (by decide) ?_
  refine lv_iload hx hb d_M_putDigits_25 (lv_at hl 0 rfl) ?_
  refine lv_if_le hx hb d_M_putDigits_27 (tgt := 54) (by decide) (fun _ => ?_) (fun hno => absurd (by decide) hno)
  exact W.vret hx hb hr (fun t ht hW => ⟨_, rfl, rfl, _, by rw [ht]; exact hM, hTX, by rw [ht]; exact hO⟩) hL d_M_putDigits_54
set_option maxHeartbeats 4000000 in
set_option maxRecDepth 100000 in
theorem c_M_putDigits4 (l : Launch) (D : va_G) (ci : Nat → ClassId) (am : Nat → Nat) (g : TS) (th fo : Int32) (hs mi hi tx : Nat → Int32) {L : List Nat} {n : Nat} (hn : L.length = n) (hTX : tt_TX L tx) (h40 : n + 4 ≤ 40) {v : Nat} (hv : v < 2147483648) : Met l y_M_putDigits (wT y_M_putDigits b_M_putDigits 5 none) (rP 1 21) (tb (wMD D ci am g th fo (nI n) hs mi hi tx) [.ref (am 0), .int (nI v), .int (nI 4)]) (tq_Q (fun o9 H H1 => o9 = none ∧ ∃ tx1, tm D ci am g th fo (nI (n + 4)) hs mi hi tx1 H1 ∧ tt_TX (L ++ [tt_dg v 1000, tt_dg v 100, tt_dg v 10, tt_dg v 1]) tx1 ∧ mO am H H1)) 0 0 (mF am) := by
  refine Met.ofW (cc := b_M_putDigits) (maxL := 5) (ret := none) (by decide) rfl ?_
  intro p e s m args below meth c s₁ B hml hv
  obtain ⟨rfl, hK, hg, hM, hD⟩ := hv
  have hx := B.exec
  have hb := B.bytes
  have hr := B.returns
  have hts := atoms_spec (ws := wT y_M_putDigits b_M_putDigits 5 none) B.pre
  have hT : ∀ w ∈ TT, w ∈ wT y_M_putDigits b_M_putDigits 5 none := wT_T
  have hown : s.vm.findClass RM = some m.cls := findClass_of_methodNamed B.named
  have hlocks := B.notSynchronized
  have hl := lv_entry ([.ref (am 0), .int (nI v), .int (nI 4)]) (n := 5) (Nat.le_of_ble_eq_true rfl)
  rw [lg_entry_eq]
  generalize (lg_sl ([.ref (am 0), .int (nI v), .int (nI 4)]) ++ List.replicate (5 - (lg_sl ([.ref (am 0), .int (nI v), .int (nI 4)])).length) Slot.unset).toArray = ls at hl ⊢
  have hl : lv_has ls 5 [(0, .ref (am 0)), (1, .int (nI v)), (2, .int (nI 4))] := hl
  have hL : ∀ q ∈ ([] : List Loc), mF am q.base := fun q hq => nomatch hq
  have hO : mO am s.heap s.heap := mO.rf
  refine lv_iconst hx hb d_M_putDigits_0 (v := (nI 1)) rfl ?_
  refine lv_istore_n hx hb d_M_putDigits_1 rfl hl (by decide) (lv' := [(3, .int (nI 1)), (0, .ref (am 0)), (1, .int (nI v)), (2, .int (nI 4))]) rfl (fun ls hl => ?_)
  refine lv_iconst hx hb d_M_putDigits_2 (v := (nI 1)) rfl ?_
  refine lv_istore hx hb d_M_putDigits_3 hl (by decide) (lv' := [(4, .int (nI 1)), (3, .int (nI 1)), (0, .ref (am 0)), (1, .int (nI v)), (2, .int (nI 4))]) rfl (fun ls hl => ?_)
  refine lv_iload hx hb d_M_putDigits_5 (lv_at hl 0 rfl) ?_
  refine lv_iload_n hx hb d_M_putDigits_7 rfl (lv_at hl 4 rfl) ?_
  refine lv_icmp_ge hx hb d_M_putDigits_8 (tgt := 22) (by decide) (fun hyes => absurd hyes (by decide)) (fun _ => ?_)
  refine lv_bipush hx hb d_M_putDigits_11 (v := (nI 10)) rfl ?_
  refine lv_iload_n hx hb d_M_putDigits_13 rfl (lv_at hl 1 rfl) ?_
  refine lv_imul hx hb d_M_putDigits_14 ?_
  refine tq_ti (show _ = (nI 10) from rfl) ?_
  refine lv_istore_n hx hb d_M_putDigits_15 rfl hl (by decide) (lv' := [(3, .int (nI 10)), (4, .int (nI 1)), (0, .ref (am 0)), (1, .int (nI v)), (2, .int (nI 4))]) rfl (fun ls hl => ?_)
  refine lv_iinc hx hb d_M_putDigits_16 hl (k := 1) rfl (v := (nI 2)) rfl (by decide) (lv' := [(4, .int (nI 2)), (3, .int (nI 10)), (0, .ref (am 0)), (1, .int (nI v)), (2, .int (nI 4))]) rfl (fun ls hl => ?_)
  refine lv_goto hx hb d_M_putDigits_19 (tgt := 5) (by decide) ?_
  refine lv_iload hx hb d_M_putDigits_5 (lv_at hl 0 rfl) ?_
  refine lv_iload_n hx hb d_M_putDigits_7 rfl (lv_at hl 4 rfl) ?_
  refine lv_icmp_ge hx hb d_M_putDigits_8 (tgt := 22) (by decide) (fun hyes => absurd hyes (by decide)) (fun _ => ?_)
  refine lv_bipush hx hb d_M_putDigits_11 (v := (nI 10)) rfl ?_
  refine lv_iload_n hx hb d_M_putDigits_13 rfl (lv_at hl 1 rfl) ?_
  refine lv_imul hx hb d_M_putDigits_14 ?_
  refine tq_ti (show _ = (nI 100) from rfl) ?_
  refine lv_istore_n hx hb d_M_putDigits_15 rfl hl (by decide) (lv' := [(3, .int (nI 100)), (4, .int (nI 2)), (0, .ref (am 0)), (1, .int (nI v)), (2, .int (nI 4))]) rfl (fun ls hl => ?_)
  refine lv_iinc hx hb d_M_putDigits_16 hl (k := 1) rfl (v := (nI 3)) rfl (by decide) (lv' := [(4, .int (nI 3)), (3, .int (nI 100)), (0, .ref (am 0)), (1, .int (nI v)), (2, .int (nI 4))]) rfl (fun ls hl => ?_)
  refine lv_goto hx hb d_M_putDigits_19 (tgt := 5) (by decide) ?_
  refine lv_iload hx hb d_M_putDigits_5 (lv_at hl 0 rfl) ?_
  refine lv_iload_n hx hb d_M_putDigits_7 rfl (lv_at hl 4 rfl) ?_
  refine lv_icmp_ge hx hb d_M_putDigits_8 (tgt := 22) (by decide) (fun hyes => absurd hyes (by decide)) (fun _ => ?_)
  refine lv_bipush hx hb d_M_putDigits_11 (v := (nI 10)) rfl ?_
  refine lv_iload_n hx hb d_M_putDigits_13 rfl (lv_at hl 1 rfl) ?_
  refine lv_imul hx hb d_M_putDigits_14 ?_
  refine tq_ti (show _ = (nI 1000) from rfl) ?_
  refine lv_istore_n hx hb d_M_putDigits_15 rfl hl (by decide) (lv' := [(3, .int (nI 1000)), (4, .int (nI 3)), (0, .ref (am 0)), (1, .int (nI v)), (2, .int (nI 4))]) rfl (fun ls hl => ?_)
  refine lv_iinc hx hb d_M_putDigits_16 hl (k := 1) rfl (v := (nI 4)) rfl (by decide) (lv' := [(4, .int (nI 4)), (3, .int (nI 1000)), (0, .ref (am 0)), (1, .int (nI v)), (2, .int (nI 4))]) rfl (fun ls hl => ?_)
  refine lv_goto hx hb d_M_putDigits_19 (tgt := 5) (by decide) ?_
  refine lv_iload hx hb d_M_putDigits_5 (lv_at hl 0 rfl) ?_
  refine lv_iload_n hx hb d_M_putDigits_7 rfl (lv_at hl 4 rfl) ?_
  refine lv_icmp_ge hx hb d_M_putDigits_8 (tgt := 22) (by decide) (fun _ => ?_) (fun hno => absurd (by decide) hno)
  refine lv_iload_n hx hb d_M_putDigits_22 rfl (lv_at hl 1 rfl) ?_
  refine lv_istore hx hb d_M_putDigits_23 hl (by decide) (lv' := [(4, .int (nI 1000)), (3, .int (nI 1000)), (0, .ref (am 0)), (1, .int (nI v)), (2, .int (nI 4))]) rfl (fun ls hl => ?_)
  refine lv_iload hx hb d_M_putDigits_25 (lv_at hl 0 rfl) ?_
  refine lv_if_le hx hb d_M_putDigits_27 (tgt := 54) (by decide) (fun hyes => absurd hyes (by decide)) (fun _ => ?_)
  refine lv_aload_n hx hb d_M_putDigits_30 rfl (lv_at hl 2 rfl) ?_
  refine lv_bipush hx hb d_M_putDigits_31 (v := (nI 48)) rfl ?_
  refine lv_iload_n hx hb d_M_putDigits_33 rfl (lv_at hl 3 rfl) ?_
  refine lv_iload hx hb d_M_putDigits_34 (lv_at hl 0 rfl) ?_
  refine lv_idiv hx hb d_M_putDigits_36 (by decide) ?_
  refine tq_ti (show _ = (nI (v / 1000)) from pk_div (by omega) (by decide) (by decide)) ?_
  refine lv_bipush hx hb d_M_putDigits_37 (v := (nI 10)) rfl ?_
  refine lv_irem hx hb d_M_putDigits_39 (by decide) ?_
  refine tq_ti (show _ = (nI (v / 1000 % 10)) from pk_rem (by omega) (by decide) (by decide)) ?_
  refine lv_iadd hx hb d_M_putDigits_40 ?_
  refine tq_ti (show _ = (nI (tt_dg v 1000)) from nI_add _ _) ?_
  refine tq_VW ⟨hx, hb, hml, hown, hts⟩ hT (c_M_put l D ci am g th fo hs mi hi tx (L := L) (n := n + 0) hn hTX (by omega) (tt_dg v 1000)) lk_M_129 wMD_mv ⟨hK, hg, hM, hD⟩ (wM_rc hK hM) rfl hl.1 rfl (Nat.le_of_ble_eq_true rfl) d_M_putDigits_41 ⟨rfl, rfl, Nat.le_of_ble_eq_true rfl, Nat.le_of_ble_eq_true rfl⟩ ⟨Nat.zero_le _, Nat.zero_le _⟩ hL (fun v9 H1 locs1 hF9 hL => ?_)
  obtain ⟨rfl, tx1, hM, hTX, hO9⟩ := hF9
  have hO := hO.tr hO9
  refine lv_iload hx hb d_M_putDigits_44 (lv_at hl 0 rfl) ?_
  refine lv_bipush hx hb d_M_putDigits_46 (v := (nI 10)) rfl ?_
  refine lv_idiv hx hb d_M_putDigits_48 (by decide) ?_
  refine tq_ti (show _ = (nI 100) from rfl) ?_
  refine lv_istore hx hb d_M_putDigits_49 hl (by decide) (lv' := [(4, .int (nI 100)), (3, .int (nI 1000)), (0, .ref (am 0)), (1, .int (nI v)), (2, .int (nI 4))]) rfl (fun ls hl => ?_)
  refine lv_goto hx hb d_M_putDigits_51 (tgt := 25) (by decide) ?_
  refine lv_iload hx hb d_M_putDigits_25 (lv_at hl 0 rfl) ?_
  refine lv_if_le hx hb d_M_putDigits_27 (tgt := 54) (by decide) (fun hyes => absurd hyes (by decide)) (fun _ => ?_)
  refine lv_aload_n hx hb d_M_putDigits_30 rfl (lv_at hl 2 rfl) ?_
  refine lv_bipush hx hb d_M_putDigits_31 (v := (nI 48)) rfl ?_
  refine lv_iload_n hx hb d_M_putDigits_33 rfl (lv_at hl 3 rfl) ?_
  refine lv_iload hx hb d_M_putDigits_34 (lv_at hl 0 rfl) ?_
  refine lv_idiv hx hb d_M_putDigits_36 (by decide) ?_
  refine tq_ti (show _ = (nI (v / 100)) from pk_div (by omega) (by decide) (by decide)) ?_
  refine lv_bipush hx hb d_M_putDigits_37 (v := (nI 10)) rfl ?_
  refine lv_irem hx hb d_M_putDigits_39 (by decide) ?_
  refine tq_ti (show _ = (nI (v / 100 % 10)) from pk_rem (by omega) (by decide) (by decide)) ?_
  refine lv_iadd hx hb d_M_putDigits_40 ?_
  refine tq_ti (show _ = (nI (tt_dg v 100)) from nI_add _ _) ?_
  refine tq_VW ⟨hx, hb, hml, hown, hts⟩ hT (c_M_put l D ci am g th fo hs mi hi tx1 (L := (L ++ [tt_dg v 1000])) (n := n + 1) (by rw [List.length_append, hn]; rfl) hTX (by omega) (tt_dg v 100)) lk_M_129 wMD_mv ⟨hK, hg, hM, hD⟩ (wM_rc hK hM) rfl hl.1 rfl (Nat.le_of_ble_eq_true rfl) d_M_putDigits_41 ⟨rfl, rfl, Nat.le_of_ble_eq_true rfl, Nat.le_of_ble_eq_true rfl⟩ ⟨Nat.zero_le _, Nat.zero_le _⟩ hL (fun v9 H1 locs1 hF9 hL => ?_)
  obtain ⟨rfl, tx1, hM, hTX, hO9⟩ := hF9
  have hO := hO.tr hO9
  have hTX : tt_TX (L ++ [tt_dg v 1000, tt_dg v 100]) tx1 := by have h9 := hTX; simp only [List.append_assoc, List.cons_append, List.nil_append] at h9; exact h9
  refine lv_iload hx hb d_M_putDigits_44 (lv_at hl 0 rfl) ?_
  refine lv_bipush hx hb d_M_putDigits_46 (v := (nI 10)) rfl ?_
  refine lv_idiv hx hb d_M_putDigits_48 (by decide) ?_
  refine tq_ti (show _ = (nI 10) from rfl) ?_
  refine lv_istore hx hb d_M_putDigits_49 hl (by decide) (lv' := [(4, .int (nI 10)), (3, .int (nI 1000)), (0, .ref (am 0)), (1, .int (nI v)), (2, .int (nI 4))]) rfl (fun ls hl => ?_)
  refine lv_goto hx hb d_M_putDigits_51 (tgt := 25) (by decide) ?_
  refine lv_iload hx hb d_M_putDigits_25 (lv_at hl 0 rfl) ?_
  refine lv_if_le hx hb d_M_putDigits_27 (tgt := 54) (by decide) (fun hyes => absurd hyes (by decide)) (fun _ => ?_)
  refine lv_aload_n hx hb d_M_putDigits_30 rfl (lv_at hl 2 rfl) ?_
  refine lv_bipush hx hb d_M_putDigits_31 (v := (nI 48)) rfl ?_
  refine lv_iload_n hx hb d_M_putDigits_33 rfl (lv_at hl 3 rfl) ?_
  refine lv_iload hx hb d_M_putDigits_34 (lv_at hl 0 rfl) ?_
  refine lv_idiv hx hb d_M_putDigits_36 (by decide) ?_
  refine tq_ti (show _ = (nI (v / 10)) from pk_div (by omega) (by decide) (by decide)) ?_
  refine lv_bipush hx hb d_M_putDigits_37 (v := (nI 10)) rfl ?_
  refine lv_irem hx hb d_M_putDigits_39 (by decide) ?_
  refine tq_ti (show _ = (nI (v / 10 % 10)) from pk_rem (by omega) (by decide) (by decide)) ?_
  refine lv_iadd hx hb d_M_putDigits_40 ?_
  refine tq_ti (show _ = (nI (tt_dg v 10)) from nI_add _ _) ?_
  refine tq_VW ⟨hx, hb, hml, hown, hts⟩ hT (c_M_put l D ci am g th fo hs mi hi tx1 (L := (L ++ [tt_dg v 1000, tt_dg v 100])) (n := n + 2) (by rw [List.length_append, hn]; rfl) hTX (by omega) (tt_dg v 10)) lk_M_129 wMD_mv ⟨hK, hg, hM, hD⟩ (wM_rc hK hM) rfl hl.1 rfl (Nat.le_of_ble_eq_true rfl) d_M_putDigits_41 ⟨rfl, rfl, Nat.le_of_ble_eq_true rfl, Nat.le_of_ble_eq_true rfl⟩ ⟨Nat.zero_le _, Nat.zero_le _⟩ hL (fun v9 H1 locs1 hF9 hL => ?_)
  obtain ⟨rfl, tx1, hM, hTX, hO9⟩ := hF9
  have hO := hO.tr hO9
  have hTX : tt_TX (L ++ [tt_dg v 1000, tt_dg v 100, tt_dg v 10]) tx1 := by have h9 := hTX; simp only [List.append_assoc, List.cons_append, List.nil_append] at h9; exact h9
  refine lv_iload hx hb d_M_putDigits_44 (lv_at hl 0 rfl) ?_
  refine lv_bipush hx hb d_M_putDigits_46 (v := (nI 10)) rfl ?_
  refine lv_idiv hx hb d_M_putDigits_48 (by decide) ?_
  refine tq_ti (show _ = (nI 1) from rfl) ?_
  refine lv_istore hx hb d_M_putDigits_49 hl (by decide) (lv' := [(4, .int (nI 1)), (3, .int (nI 1000)), (0, .ref (am 0)), (1, .int (nI v)), (2, .int (nI 4))]) rfl (fun ls hl => ?_)
  refine lv_goto hx hb d_M_putDigits_51 (tgt := 25) (by decide) ?_
  refine lv_iload hx hb d_M_putDigits_25 (lv_at hl 0 rfl) ?_
  refine lv_if_le hx hb d_M_putDigits_27 (tgt := 54) (by decide) (fun hyes => absurd hyes (by decide)) (fun _ => ?_)
  refine lv_aload_n hx hb d_M_putDigits_30 rfl (lv_at hl 2 rfl) ?_
  refine lv_bipush hx hb d_M_putDigits_31 (v := (nI 48)) rfl ?_
  refine lv_iload_n hx hb d_M_putDigits_33 rfl (lv_at hl 3 rfl) ?_
  refine lv_iload hx hb d_M_putDigits_34 (lv_at hl 0 rfl) ?_
  refine lv_idiv hx hb d_M_putDigits_36 (by decide) ?_
  refine tq_ti (show _ = (nI (v / 1)) from pk_div (by omega) (by decide) (by decide)) ?_
  refine lv_bipush hx hb d_M_putDigits_37 (v := (nI 10)) rfl ?_
  refine lv_irem hx hb d_M_putDigits_39 (by decide) ?_
  refine tq_ti (show _ = (nI (v / 1 % 10)) from pk_rem (by omega) (by decide) (by decide)) ?_
  refine lv_iadd hx hb d_M_putDigits_40 ?_
  refine tq_ti (show _ = (nI (tt_dg v 1)) from nI_add _ _) ?_
  refine tq_VW ⟨hx, hb, hml, hown, hts⟩ hT (c_M_put l D ci am g th fo hs mi hi tx1 (L := (L ++ [tt_dg v 1000, tt_dg v 100, tt_dg v 10])) (n := n + 3) (by rw [List.length_append, hn]; rfl) hTX (by omega) (tt_dg v 1)) lk_M_129 wMD_mv ⟨hK, hg, hM, hD⟩ (wM_rc hK hM) rfl hl.1 rfl (Nat.le_of_ble_eq_true rfl) d_M_putDigits_41 ⟨rfl, rfl, Nat.le_of_ble_eq_true rfl, Nat.le_of_ble_eq_true rfl⟩ ⟨Nat.zero_le _, Nat.zero_le _⟩ hL (fun v9 H1 locs1 hF9 hL => ?_)
  obtain ⟨rfl, tx1, hM, hTX, hO9⟩ := hF9
  have hO := hO.tr hO9
  have hTX : tt_TX (L ++ [tt_dg v 1000, tt_dg v 100, tt_dg v 10, tt_dg v 1]) tx1 := by have h9 := hTX; simp only [List.append_assoc, List.cons_append, List.nil_append] at h9; exact h9
  refine lv_iload hx hb d_M_putDigits_44 (lv_at hl 0 rfl) ?_
  refine lv_bipush hx hb d_M_putDigits_46 (v := (nI 10)) rfl ?_
  refine lv_idiv hx hb d_M_putDigits_48 (by decide) ?_
  refine tq_ti (show _ = (nI 0) from rfl) ?_
  refine lv_istore hx hb d_M_putDigits_49 hl (by decide) (lv' := [(4, .int (nI 0)), (3, .int (nI 1000)), (0, .ref (am 0)), (1, .int (nI v)), (2, .int (nI 4))]) rfl (fun ls hl => ?_)
  refine lv_goto hx hb d_M_putDigits_51 (tgt := 25) (by decide) ?_
  refine lv_iload hx hb d_M_putDigits_25 (lv_at hl 0 rfl) ?_
  refine lv_if_le hx hb d_M_putDigits_27 (tgt := 54) (by decide) (fun _ => ?_) (fun hno => absurd (by decide) hno)
  exact W.vret hx hb hr (fun t ht hW => ⟨_, rfl, rfl, _, by rw [ht]; exact hM, hTX, by rw [ht]; exact hO⟩) hL d_M_putDigits_54
/-- the line of the k-th extreme of day d -/
def tt_line (g : TS) (dd k : Nat) : List Nat := tt_ln (tt_yr g (1440 * dd + (tt_L (tt_dh g dd) 1440).getD k 0)) (dd - tt_db (tt_day g) (tt_yr g (1440 * dd + (tt_L (tt_dh g dd) 1440).getD k 0))) ((tt_L (tt_dh g dd) 1440).getD k 0) (decide (tt_dh g dd (((tt_L (tt_dh g dd) 1440).getD k 0) - 1) < tt_dh g dd ((tt_L (tt_dh g dd) 1440).getD k 0))) (tt_dh g dd ((tt_L (tt_dh g dd) 1440).getD k 0))
set_option maxHeartbeats 4000000 in
set_option maxRecDepth 100000 in
theorem c_M_write (l : Launch) (D : va_G) (ci : Nat → ClassId) (am : Nat → Nat) (g : TS) (th fo sz : Int32) (hs mi hi tx : Nat → Int32) {dd k : Nat} (hd : dd < tt_db (tt_day g) 10) (hk : k < (tt_L (tt_dh g dd) 1440).length) (hH : tt_MH (tt_dh g dd) hs) (hC : tt_MC (tt_dh g dd) (tt_L (tt_dh g dd) 1440) fo mi hi) : Met l y_M_write (wT y_M_write b_M_write 6 none) (rP 2 45) (tb (wMD D ci am g th fo sz hs mi hi tx) [.ref (am 0), .int (nI dd), .int (nI k)]) (tq_Q (fun o9 H H1 => o9 = none ∧ ∃ tx1, tm D ci am g th fo (nI (tt_line g dd k).length) hs mi hi tx1 H1 ∧ tt_TX (tt_line g dd k) tx1 ∧ mO am H H1)) 0 0 (mF am) := by
  refine Met.ofW (cc := b_M_write) (maxL := 6) (ret := none) (by decide) rfl ?_
  intro p e s m args below meth c s₁ B hml hv
  obtain ⟨rfl, hK, hg, hM, hD⟩ := hv
  have hx := B.exec
  have hb := B.bytes
  have hr := B.returns
  have hts := atoms_spec (ws := wT y_M_write b_M_write 6 none) B.pre
  have hT : ∀ w ∈ TT, w ∈ wT y_M_write b_M_write 6 none := wT_T
  have hown : s.vm.findClass RM = some m.cls := findClass_of_methodNamed B.named
  have hlocks := B.notSynchronized
  have hl := lv_entry ([.ref (am 0), .int (nI dd), .int (nI k)]) (n := 6) (Nat.le_of_ble_eq_true rfl)
  rw [lg_entry_eq]
  generalize (lg_sl ([.ref (am 0), .int (nI dd), .int (nI k)]) ++ List.replicate (6 - (lg_sl ([.ref (am 0), .int (nI dd), .int (nI k)])).length) Slot.unset).toArray = ls at hl ⊢
  have hl : lv_has ls 6 [(0, .ref (am 0)), (1, .int (nI dd)), (2, .int (nI k))] := hl
  have hL : ∀ q ∈ ([] : List Loc), mF am q.base := fun q hq => nomatch hq
  have hO : mO am s.heap s.heap := mO.rf
  have hdb := (tt_db_in hg.2.2.2 10 (Nat.le_refl _)).2
  have ed : (nI dd).toInt = dd := nI_toInt (by omega)
  have hlen := tt_L1440 (tt_dh g dd)
  have hLk := tt_L_get hk
  have hTk := tt_T_kind hLk.2
  have hzz : -2000000 ≤ (tt_dh g dd ((tt_L (tt_dh g dd) 1440).getD k 0)) ∧ (tt_dh g dd ((tt_L (tt_dh g dd) 1440).getD k 0)) ≤ 2000000 := tt_hgt_in hg _
  obtain ⟨mk, emk⟩ : ∃ z, z = ((tt_L (tt_dh g dd) 1440).getD k 0) := ⟨_, rfl⟩
  have hmk : mk < 1440 := by rw [emk]; exact hLk.1
  have eyd : tt_yr g (1440 * dd) = (tt_yr g (1440 * dd + (tt_L (tt_dh g dd) 1440).getD k 0)) := by rw [tt_yr_day g (1440 * dd + (tt_L (tt_dh g dd) 1440).getD k 0)]; congr 1; omega
  obtain ⟨yy, eyy⟩ : ∃ z, z = (tt_yr g (1440 * dd + (tt_L (tt_dh g dd) 1440).getD k 0)) := ⟨_, rfl⟩
  have hyy : yy < 10 := by rw [eyy]; exact tt_yr_lt g _
  have hyd : tt_db (tt_day g) yy ≤ dd := by
    have h9 := tt_yrA_fst (tt_day g) (1440 * dd) 9
    have h8 : tt_yrA (tt_day g) (1440 * dd) 9 = yy := by rw [eyy, ← eyd]; rfl
    rw [h8] at h9
    omega
  obtain ⟨dy, edy⟩ : ∃ z, z = dd - tt_db (tt_day g) yy := ⟨_, rfl⟩
  obtain ⟨zz, ezz⟩ : ∃ z, z = (tt_dh g dd ((tt_L (tt_dh g dd) 1440).getD k 0)) := ⟨_, rfl⟩
  have hln : tt_line g dd k = tt_ln yy dy mk (decide (tt_dh g dd (((tt_L (tt_dh g dd) 1440).getD k 0) - 1) < tt_dh g dd ((tt_L (tt_dh g dd) 1440).getD k 0))) zz := by rw [edy, eyy, emk, ezz]; rfl
  have hmi : mi k = nI mk := by rw [emk]; exact (hC.2 k hk).1
  have hhi := (hC.2 k hk).2
  have hhz : hs mk = iZ zz := by rw [ezz, hH mk hmk, emk]
  rw [← ezz] at hzz
  have hTX : tt_TX [] tx := fun i hi9 => absurd hi9 (Nat.not_lt_zero i)
  have ek : (nI k).toInt = k := nI_toInt (by omega)
  refine lv_aload_n hx hb d_M_write_0 rfl (lv_at hl 0 rfl) ?_
  refine lv_iload_n hx hb d_M_write_1 rfl (lv_at hl 1 rfl) ?_
  refine tq_V ⟨hx, hb, hml, hown, hts⟩ hT (c_M_yearOfDay l D ci am g th fo sz hs mi hi tx (d := dd) (by omega)) lk_M_76 wM_mv ⟨hK, hg, hM⟩ (wM_rc hK hM) rfl hl.1 rfl (Nat.le_of_ble_eq_true rfl) d_M_write_2 ⟨rfl, rfl, Nat.le_of_ble_eq_true rfl, Nat.le_of_ble_eq_true rfl⟩ ⟨Nat.zero_le _, Nat.zero_le _⟩ ?_
  refine tq_ti (show _ = (nI yy) from (by rw [eyd, ← eyy])) ?_
  refine lv_istore_n hx hb d_M_write_5 rfl hl (by decide) (lv' := [(3, .int (nI yy)), (0, .ref (am 0)), (1, .int (nI dd)), (2, .int (nI k))]) rfl (fun ls hl => ?_)
  refine lv_aload_n hx hb d_M_write_6 rfl (lv_at hl 1 rfl) ?_
  refine lv_iconst hx hb d_M_write_7 (v := (nI 0)) rfl ?_
  refine tq_put (F := mF am) hx hb hts (fun w h => hT w (uM_in w h)) tM tM_ok nM hown hK (tm_one hM 0 rfl) (ci := 1) rfl 12 (by decide) (hts _ (hT _ k_M_126)) (fun _ h => h) rfl (ty := .int) rfl rfl rfl (Nat.le_of_ble_eq_true rfl) ⟨0, by decide, rfl⟩ hL d_M_write_8 (fun H1 locs1 hP1 hz1 hq1 hL => ?_)
  have hM : tm D ci am g th fo (nI 0) hs mi hi tx H1 := tm_set hD hM 0 (by decide) rfl hP1 (fun j hj => by rcases j with _ | _ | _ | _ | _ | _ | _ | _ | _ | _ | _ | j <;> first | rfl | exact absurd rfl hj) hq1
  have hO := hO.tr (mO.put (k := 0) (by decide) hz1 hq1)
  refine lv_aload_n hx hb d_M_write_11 rfl (lv_at hl 1 rfl) ?_
  refine lv_iload_n hx hb d_M_write_12 rfl (lv_at hl 0 rfl) ?_
  refine lv_iconst hx hb d_M_write_13 (v := (nI 1)) rfl ?_
  refine tq_VW ⟨hx, hb, hml, hown, hts⟩ hT (c_M_putDigits1 l D ci am g th fo hs mi hi tx  (L := []) (n := 0) rfl hTX (Nat.le_of_ble_eq_true rfl) (v := yy) (by omega)) lk_M_132 wMD_mv ⟨hK, hg, hM, hD⟩ (wM_rc hK hM) rfl hl.1 rfl (Nat.le_of_ble_eq_true rfl) d_M_write_14 ⟨rfl, rfl, Nat.le_of_ble_eq_true rfl, Nat.le_of_ble_eq_true rfl⟩ ⟨Nat.zero_le _, Nat.zero_le _⟩ hL (fun v9 H1 locs1 hF9 hL => ?_)
  obtain ⟨rfl, tx1, hM, hTX, hO9⟩ := hF9
  have hO := hO.tr hO9
  have hTX : tt_TX [tt_dg yy 1] tx1 := hTX
  have hM : tm D ci am g th fo (nI 1) hs mi hi tx1 H1 := hM
  refine lv_aload_n hx hb d_M_write_17 rfl (lv_at hl 1 rfl) ?_
  refine lv_bipush hx hb d_M_write_18 (v := (nI 32)) rfl ?_
  refine tq_VW ⟨hx, hb, hml, hown, hts⟩ hT (c_M_put l D ci am g th fo hs mi hi tx1  (L := [tt_dg yy 1]) (n := 1) rfl hTX (Nat.le_of_ble_eq_true rfl) 32) lk_M_129 wMD_mv ⟨hK, hg, hM, hD⟩ (wM_rc hK hM) rfl hl.1 rfl (Nat.le_of_ble_eq_true rfl) d_M_write_20 ⟨rfl, rfl, Nat.le_of_ble_eq_true rfl, Nat.le_of_ble_eq_true rfl⟩ ⟨Nat.zero_le _, Nat.zero_le _⟩ hL (fun v9 H1 locs1 hF9 hL => ?_)
  obtain ⟨rfl, tx1, hM, hTX, hO9⟩ := hF9
  have hO := hO.tr hO9
  have hTX : tt_TX [tt_dg yy 1, 32] tx1 := hTX
  have hM : tm D ci am g th fo (nI 2) hs mi hi tx1 H1 := hM
  refine lv_aload_n hx hb d_M_write_23 rfl (lv_at hl 1 rfl) ?_
  refine lv_iload_n hx hb d_M_write_24 rfl (lv_at hl 2 rfl) ?_
  refine lv_aload_n hx hb d_M_write_25 rfl (lv_at hl 1 rfl) ?_
  refine lv_iload_n hx hb d_M_write_26 rfl (lv_at hl 0 rfl) ?_
  refine tq_V ⟨hx, hb, hml, hown, hts⟩ hT (c_M_daysBefore l D ci am g th fo (nI 2) hs mi hi tx1 (y := yy) (by omega)) lk_M_69 wM_mv ⟨hK, hg, hM⟩ (wM_rc hK hM) rfl hl.1 rfl (Nat.le_of_ble_eq_true rfl) d_M_write_27 ⟨rfl, rfl, Nat.le_of_ble_eq_true rfl, Nat.le_of_ble_eq_true rfl⟩ ⟨Nat.zero_le _, Nat.zero_le _⟩ ?_
  refine lv_isub hx hb d_M_write_30 ?_
  refine tq_ti (show _ = (nI dy) from (by rw [edy]; exact pk_sub (by omega))) ?_
  refine lv_iconst hx hb d_M_write_31 (v := (nI 3)) rfl ?_
  refine tq_VW ⟨hx, hb, hml, hown, hts⟩ hT (c_M_putDigits3 l D ci am g th fo hs mi hi tx1  (L := [tt_dg yy 1, 32]) (n := 2) rfl hTX (Nat.le_of_ble_eq_true rfl) (v := dy) (by omega)) lk_M_132 wMD_mv ⟨hK, hg, hM, hD⟩ (wM_rc hK hM) rfl hl.1 rfl (Nat.le_of_ble_eq_true rfl) d_M_write_32 ⟨rfl, rfl, Nat.le_of_ble_eq_true rfl, Nat.le_of_ble_eq_true rfl⟩ ⟨Nat.zero_le _, Nat.zero_le _⟩ hL (fun v9 H1 locs1 hF9 hL => ?_)
  obtain ⟨rfl, tx1, hM, hTX, hO9⟩ := hF9
  have hO := hO.tr hO9
  have hTX : tt_TX [tt_dg yy 1, 32, tt_dg dy 100, tt_dg dy 10, tt_dg dy 1] tx1 := hTX
  have hM : tm D ci am g th fo (nI 5) hs mi hi tx1 H1 := hM
  refine lv_aload_n hx hb d_M_write_35 rfl (lv_at hl 1 rfl) ?_
  refine lv_bipush hx hb d_M_write_36 (v := (nI 32)) rfl ?_
  refine tq_VW ⟨hx, hb, hml, hown, hts⟩ hT (c_M_put l D ci am g th fo hs mi hi tx1  (L := [tt_dg yy 1, 32, tt_dg dy 100, tt_dg dy 10, tt_dg dy 1]) (n := 5) rfl hTX (Nat.le_of_ble_eq_true rfl) 32) lk_M_129 wMD_mv ⟨hK, hg, hM, hD⟩ (wM_rc hK hM) rfl hl.1 rfl (Nat.le_of_ble_eq_true rfl) d_M_write_38 ⟨rfl, rfl, Nat.le_of_ble_eq_true rfl, Nat.le_of_ble_eq_true rfl⟩ ⟨Nat.zero_le _, Nat.zero_le _⟩ hL (fun v9 H1 locs1 hF9 hL => ?_)
  obtain ⟨rfl, tx1, hM, hTX, hO9⟩ := hF9
  have hO := hO.tr hO9
  have hTX : tt_TX [tt_dg yy 1, 32, tt_dg dy 100, tt_dg dy 10, tt_dg dy 1, 32] tx1 := hTX
  have hM : tm D ci am g th fo (nI 6) hs mi hi tx1 H1 := hM
  refine lv_aload_n hx hb d_M_write_41 rfl (lv_at hl 1 rfl) ?_
  refine lv_aload_n hx hb d_M_write_42 rfl (lv_at hl 1 rfl) ?_
  refine va_get hx hb hts (fun w h => hT w (uM_in w h)) hown hK hM 0 rfl rfl 10 (by decide) (hts _ (hT _ k_M_32)) (fun _ h => h) rfl d_M_write_43 ?_
  refine lv_iload_n hx hb d_M_write_46 rfl (lv_at hl 3 rfl) ?_
  refine tq_iald hx hb hK hM 8 0 rfl rfl (show k < 1440 by omega) (by decide) d_M_write_47 ?_
  refine tq_ti (show _ = (nI mk) from hmi) ?_
  refine lv_bipush hx hb d_M_write_48 (v := (nI 60)) rfl ?_
  refine lv_idiv hx hb d_M_write_50 (by decide) ?_
  refine tq_ti (show _ = (nI (mk / 60)) from pk_div (by omega) (by decide) (by decide)) ?_
  refine lv_iconst hx hb d_M_write_51 (v := (nI 2)) rfl ?_
  refine tq_VW ⟨hx, hb, hml, hown, hts⟩ hT (c_M_putDigits2 l D ci am g th fo hs mi hi tx1  (L := [tt_dg yy 1, 32, tt_dg dy 100, tt_dg dy 10, tt_dg dy 1, 32]) (n := 6) rfl hTX (Nat.le_of_ble_eq_true rfl) (v := (mk / 60)) (by omega)) lk_M_132 wMD_mv ⟨hK, hg, hM, hD⟩ (wM_rc hK hM) rfl hl.1 rfl (Nat.le_of_ble_eq_true rfl) d_M_write_52 ⟨rfl, rfl, Nat.le_of_ble_eq_true rfl, Nat.le_of_ble_eq_true rfl⟩ ⟨Nat.zero_le _, Nat.zero_le _⟩ hL (fun v9 H1 locs1 hF9 hL => ?_)
  obtain ⟨rfl, tx1, hM, hTX, hO9⟩ := hF9
  have hO := hO.tr hO9
  have hTX : tt_TX [tt_dg yy 1, 32, tt_dg dy 100, tt_dg dy 10, tt_dg dy 1, 32, tt_dg (mk / 60) 10, tt_dg (mk / 60) 1] tx1 := hTX
  have hM : tm D ci am g th fo (nI 8) hs mi hi tx1 H1 := hM
  refine lv_aload_n hx hb d_M_write_55 rfl (lv_at hl 1 rfl) ?_
  refine lv_bipush hx hb d_M_write_56 (v := (nI 58)) rfl ?_
  refine tq_VW ⟨hx, hb, hml, hown, hts⟩ hT (c_M_put l D ci am g th fo hs mi hi tx1  (L := [tt_dg yy 1, 32, tt_dg dy 100, tt_dg dy 10, tt_dg dy 1, 32, tt_dg (mk / 60) 10, tt_dg (mk / 60) 1]) (n := 8) rfl hTX (Nat.le_of_ble_eq_true rfl) 58) lk_M_129 wMD_mv ⟨hK, hg, hM, hD⟩ (wM_rc hK hM) rfl hl.1 rfl (Nat.le_of_ble_eq_true rfl) d_M_write_58 ⟨rfl, rfl, Nat.le_of_ble_eq_true rfl, Nat.le_of_ble_eq_true rfl⟩ ⟨Nat.zero_le _, Nat.zero_le _⟩ hL (fun v9 H1 locs1 hF9 hL => ?_)
  obtain ⟨rfl, tx1, hM, hTX, hO9⟩ := hF9
  have hO := hO.tr hO9
  have hTX : tt_TX [tt_dg yy 1, 32, tt_dg dy 100, tt_dg dy 10, tt_dg dy 1, 32, tt_dg (mk / 60) 10, tt_dg (mk / 60) 1, 58] tx1 := hTX
  have hM : tm D ci am g th fo (nI 9) hs mi hi tx1 H1 := hM
  refine lv_aload_n hx hb d_M_write_61 rfl (lv_at hl 1 rfl) ?_
  refine lv_aload_n hx hb d_M_write_62 rfl (lv_at hl 1 rfl) ?_
  refine va_get hx hb hts (fun w h => hT w (uM_in w h)) hown hK hM 0 rfl rfl 10 (by decide) (hts _ (hT _ k_M_32)) (fun _ h => h) rfl d_M_write_63 ?_
  refine lv_iload_n hx hb d_M_write_66 rfl (lv_at hl 3 rfl) ?_
  refine tq_iald hx hb hK hM 8 0 rfl rfl (show k < 1440 by omega) (by decide) d_M_write_67 ?_
  refine tq_ti (show _ = (nI mk) from hmi) ?_
  refine lv_bipush hx hb d_M_write_68 (v := (nI 60)) rfl ?_
  refine lv_irem hx hb d_M_write_70 (by decide) ?_
  refine tq_ti (show _ = (nI (mk % 60)) from pk_rem (by omega) (by decide) (by decide)) ?_
  refine lv_iconst hx hb d_M_write_71 (v := (nI 2)) rfl ?_
  refine tq_VW ⟨hx, hb, hml, hown, hts⟩ hT (c_M_putDigits2 l D ci am g th fo hs mi hi tx1  (L := [tt_dg yy 1, 32, tt_dg dy 100, tt_dg dy 10, tt_dg dy 1, 32, tt_dg (mk / 60) 10, tt_dg (mk / 60) 1, 58]) (n := 9) rfl hTX (Nat.le_of_ble_eq_true rfl) (v := (mk % 60)) (by omega)) lk_M_132 wMD_mv ⟨hK, hg, hM, hD⟩ (wM_rc hK hM) rfl hl.1 rfl (Nat.le_of_ble_eq_true rfl) d_M_write_72 ⟨rfl, rfl, Nat.le_of_ble_eq_true rfl, Nat.le_of_ble_eq_true rfl⟩ ⟨Nat.zero_le _, Nat.zero_le _⟩ hL (fun v9 H1 locs1 hF9 hL => ?_)
  obtain ⟨rfl, tx1, hM, hTX, hO9⟩ := hF9
  have hO := hO.tr hO9
  have hTX : tt_TX [tt_dg yy 1, 32, tt_dg dy 100, tt_dg dy 10, tt_dg dy 1, 32, tt_dg (mk / 60) 10, tt_dg (mk / 60) 1, 58, tt_dg (mk % 60) 10, tt_dg (mk % 60) 1] tx1 := hTX
  have hM : tm D ci am g th fo (nI 11) hs mi hi tx1 H1 := hM
  refine lv_aload_n hx hb d_M_write_75 rfl (lv_at hl 1 rfl) ?_
  refine lv_bipush hx hb d_M_write_76 (v := (nI 32)) rfl ?_
  refine tq_VW ⟨hx, hb, hml, hown, hts⟩ hT (c_M_put l D ci am g th fo hs mi hi tx1  (L := [tt_dg yy 1, 32, tt_dg dy 100, tt_dg dy 10, tt_dg dy 1, 32, tt_dg (mk / 60) 10, tt_dg (mk / 60) 1, 58, tt_dg (mk % 60) 10, tt_dg (mk % 60) 1]) (n := 11) rfl hTX (Nat.le_of_ble_eq_true rfl) 32) lk_M_129 wMD_mv ⟨hK, hg, hM, hD⟩ (wM_rc hK hM) rfl hl.1 rfl (Nat.le_of_ble_eq_true rfl) d_M_write_78 ⟨rfl, rfl, Nat.le_of_ble_eq_true rfl, Nat.le_of_ble_eq_true rfl⟩ ⟨Nat.zero_le _, Nat.zero_le _⟩ hL (fun v9 H1 locs1 hF9 hL => ?_)
  obtain ⟨rfl, tx1, hM, hTX, hO9⟩ := hF9
  have hO := hO.tr hO9
  have hTX : tt_TX [tt_dg yy 1, 32, tt_dg dy 100, tt_dg dy 10, tt_dg dy 1, 32, tt_dg (mk / 60) 10, tt_dg (mk / 60) 1, 58, tt_dg (mk % 60) 10, tt_dg (mk % 60) 1, 32] tx1 := hTX
  have hM : tm D ci am g th fo (nI 12) hs mi hi tx1 H1 := hM
  by_cases hh : tt_dh g dd (((tt_L (tt_dh g dd) 1440).getD k 0) - 1) < tt_dh g dd ((tt_L (tt_dh g dd) 1440).getD k 0)
  · have hhi : hi k = nI 1 := by rw [hhi, zb, if_pos hh]; rfl
    have e1 : tt_kd (decide (tt_dh g dd (((tt_L (tt_dh g dd) 1440).getD k 0) - 1) < tt_dh g dd ((tt_L (tt_dh g dd) 1440).getD k 0))) = [32, 72, 73, 71, 72, 32] := by rw [decide_eq_true hh]; rfl
    refine lv_aload_n hx hb d_M_write_81 rfl (lv_at hl 1 rfl) ?_
    refine lv_aload_n hx hb d_M_write_82 rfl (lv_at hl 1 rfl) ?_
    refine va_get hx hb hts (fun w h => hT w (uM_in w h)) hown hK hM 0 rfl rfl 11 (by decide) (hts _ (hT _ k_M_35)) (fun _ h => h) rfl d_M_write_83 ?_
    refine lv_iload_n hx hb d_M_write_86 rfl (lv_at hl 3 rfl) ?_
    refine tq_zald hx hb hK hM 9 4 rfl rfl (show k < 1440 by omega) (by decide) d_M_write_87 ?_
    refine tq_ti (show _ = (nI 1) from hhi) ?_
    refine lv_if_eq hx hb d_M_write_88 (tgt := 96) (by decide) (fun hyes => absurd hyes (by decide)) (fun _ => ?_)
    refine lv_bipush hx hb d_M_write_91 (v := (nI 72)) rfl ?_
    refine lv_goto hx hb d_M_write_93 (tgt := 98) (by decide) ?_
    refine tq_VW ⟨hx, hb, hml, hown, hts⟩ hT (c_M_put l D ci am g th fo hs mi hi tx1  (L := [tt_dg yy 1, 32, tt_dg dy 100, tt_dg dy 10, tt_dg dy 1, 32, tt_dg (mk / 60) 10, tt_dg (mk / 60) 1, 58, tt_dg (mk % 60) 10, tt_dg (mk % 60) 1, 32]) (n := 12) rfl hTX (Nat.le_of_ble_eq_true rfl) 72) lk_M_129 wMD_mv ⟨hK, hg, hM, hD⟩ (wM_rc hK hM) rfl hl.1 rfl (Nat.le_of_ble_eq_true rfl) d_M_write_98 ⟨rfl, rfl, Nat.le_of_ble_eq_true rfl, Nat.le_of_ble_eq_true rfl⟩ ⟨Nat.zero_le _, Nat.zero_le _⟩ hL (fun v9 H1 locs1 hF9 hL => ?_)
    obtain ⟨rfl, tx1, hM, hTX, hO9⟩ := hF9
    have hO := hO.tr hO9
    have hTX : tt_TX [tt_dg yy 1, 32, tt_dg dy 100, tt_dg dy 10, tt_dg dy 1, 32, tt_dg (mk / 60) 10, tt_dg (mk / 60) 1, 58, tt_dg (mk % 60) 10, tt_dg (mk % 60) 1, 32, 72] tx1 := hTX
    have hM : tm D ci am g th fo (nI 13) hs mi hi tx1 H1 := hM
    refine lv_aload_n hx hb d_M_write_101 rfl (lv_at hl 1 rfl) ?_
    refine lv_aload_n hx hb d_M_write_102 rfl (lv_at hl 1 rfl) ?_
    refine va_get hx hb hts (fun w h => hT w (uM_in w h)) hown hK hM 0 rfl rfl 11 (by decide) (hts _ (hT _ k_M_35)) (fun _ h => h) rfl d_M_write_103 ?_
    refine lv_iload_n hx hb d_M_write_106 rfl (lv_at hl 3 rfl) ?_
    refine tq_zald hx hb hK hM 9 4 rfl rfl (show k < 1440 by omega) (by decide) d_M_write_107 ?_
    refine tq_ti (show _ = (nI 1) from hhi) ?_
    refine lv_if_eq hx hb d_M_write_108 (tgt := 116) (by decide) (fun hyes => absurd hyes (by decide)) (fun _ => ?_)
    refine lv_bipush hx hb d_M_write_111 (v := (nI 73)) rfl ?_
    refine lv_goto hx hb d_M_write_113 (tgt := 118) (by decide) ?_
    refine tq_VW ⟨hx, hb, hml, hown, hts⟩ hT (c_M_put l D ci am g th fo hs mi hi tx1  (L := [tt_dg yy 1, 32, tt_dg dy 100, tt_dg dy 10, tt_dg dy 1, 32, tt_dg (mk / 60) 10, tt_dg (mk / 60) 1, 58, tt_dg (mk % 60) 10, tt_dg (mk % 60) 1, 32, 72]) (n := 13) rfl hTX (Nat.le_of_ble_eq_true rfl) 73) lk_M_129 wMD_mv ⟨hK, hg, hM, hD⟩ (wM_rc hK hM) rfl hl.1 rfl (Nat.le_of_ble_eq_true rfl) d_M_write_118 ⟨rfl, rfl, Nat.le_of_ble_eq_true rfl, Nat.le_of_ble_eq_true rfl⟩ ⟨Nat.zero_le _, Nat.zero_le _⟩ hL (fun v9 H1 locs1 hF9 hL => ?_)
    obtain ⟨rfl, tx1, hM, hTX, hO9⟩ := hF9
    have hO := hO.tr hO9
    have hTX : tt_TX [tt_dg yy 1, 32, tt_dg dy 100, tt_dg dy 10, tt_dg dy 1, 32, tt_dg (mk / 60) 10, tt_dg (mk / 60) 1, 58, tt_dg (mk % 60) 10, tt_dg (mk % 60) 1, 32, 72, 73] tx1 := hTX
    have hM : tm D ci am g th fo (nI 14) hs mi hi tx1 H1 := hM
    refine lv_aload_n hx hb d_M_write_121 rfl (lv_at hl 1 rfl) ?_
    refine lv_aload_n hx hb d_M_write_122 rfl (lv_at hl 1 rfl) ?_
    refine va_get hx hb hts (fun w h => hT w (uM_in w h)) hown hK hM 0 rfl rfl 11 (by decide) (hts _ (hT _ k_M_35)) (fun _ h => h) rfl d_M_write_123 ?_
    refine lv_iload_n hx hb d_M_write_126 rfl (lv_at hl 3 rfl) ?_
    refine tq_zald hx hb hK hM 9 4 rfl rfl (show k < 1440 by omega) (by decide) d_M_write_127 ?_
    refine tq_ti (show _ = (nI 1) from hhi) ?_
    refine lv_if_eq hx hb d_M_write_128 (tgt := 136) (by decide) (fun hyes => absurd hyes (by decide)) (fun _ => ?_)
    refine lv_bipush hx hb d_M_write_131 (v := (nI 71)) rfl ?_
    refine lv_goto hx hb d_M_write_133 (tgt := 138) (by decide) ?_
    refine tq_VW ⟨hx, hb, hml, hown, hts⟩ hT (c_M_put l D ci am g th fo hs mi hi tx1  (L := [tt_dg yy 1, 32, tt_dg dy 100, tt_dg dy 10, tt_dg dy 1, 32, tt_dg (mk / 60) 10, tt_dg (mk / 60) 1, 58, tt_dg (mk % 60) 10, tt_dg (mk % 60) 1, 32, 72, 73]) (n := 14) rfl hTX (Nat.le_of_ble_eq_true rfl) 71) lk_M_129 wMD_mv ⟨hK, hg, hM, hD⟩ (wM_rc hK hM) rfl hl.1 rfl (Nat.le_of_ble_eq_true rfl) d_M_write_138 ⟨rfl, rfl, Nat.le_of_ble_eq_true rfl, Nat.le_of_ble_eq_true rfl⟩ ⟨Nat.zero_le _, Nat.zero_le _⟩ hL (fun v9 H1 locs1 hF9 hL => ?_)
    obtain ⟨rfl, tx1, hM, hTX, hO9⟩ := hF9
    have hO := hO.tr hO9
    have hTX : tt_TX [tt_dg yy 1, 32, tt_dg dy 100, tt_dg dy 10, tt_dg dy 1, 32, tt_dg (mk / 60) 10, tt_dg (mk / 60) 1, 58, tt_dg (mk % 60) 10, tt_dg (mk % 60) 1, 32, 72, 73, 71] tx1 := hTX
    have hM : tm D ci am g th fo (nI 15) hs mi hi tx1 H1 := hM
    refine lv_aload_n hx hb d_M_write_141 rfl (lv_at hl 1 rfl) ?_
    refine va_get hx hb hts (fun w h => hT w (uM_in w h)) hown hK hM 0 rfl rfl 11 (by decide) (hts _ (hT _ k_M_35)) (fun _ h => h) rfl d_M_write_142 ?_
    refine lv_iload_n hx hb d_M_write_145 rfl (lv_at hl 3 rfl) ?_
    refine tq_zald hx hb hK hM 9 4 rfl rfl (show k < 1440 by omega) (by decide) d_M_write_146 ?_
    refine tq_ti (show _ = (nI 1) from hhi) ?_
    refine lv_if_eq hx hb d_M_write_147 (tgt := 156) (by decide) (fun hyes => absurd hyes (by decide)) (fun _ => ?_)
    refine lv_aload_n hx hb d_M_write_150 rfl (lv_at hl 1 rfl) ?_
    refine lv_bipush hx hb d_M_write_151 (v := (nI 72)) rfl ?_
    refine tq_VW ⟨hx, hb, hml, hown, hts⟩ hT (c_M_put l D ci am g th fo hs mi hi tx1  (L := [tt_dg yy 1, 32, tt_dg dy 100, tt_dg dy 10, tt_dg dy 1, 32, tt_dg (mk / 60) 10, tt_dg (mk / 60) 1, 58, tt_dg (mk % 60) 10, tt_dg (mk % 60) 1, 32, 72, 73, 71]) (n := 15) rfl hTX (Nat.le_of_ble_eq_true rfl) 72) lk_M_129 wMD_mv ⟨hK, hg, hM, hD⟩ (wM_rc hK hM) rfl hl.1 rfl (Nat.le_of_ble_eq_true rfl) d_M_write_153 ⟨rfl, rfl, Nat.le_of_ble_eq_true rfl, Nat.le_of_ble_eq_true rfl⟩ ⟨Nat.zero_le _, Nat.zero_le _⟩ hL (fun v9 H1 locs1 hF9 hL => ?_)
    obtain ⟨rfl, tx1, hM, hTX, hO9⟩ := hF9
    have hO := hO.tr hO9
    have hTX : tt_TX [tt_dg yy 1, 32, tt_dg dy 100, tt_dg dy 10, tt_dg dy 1, 32, tt_dg (mk / 60) 10, tt_dg (mk / 60) 1, 58, tt_dg (mk % 60) 10, tt_dg (mk % 60) 1, 32, 72, 73, 71, 72] tx1 := hTX
    have hM : tm D ci am g th fo (nI 16) hs mi hi tx1 H1 := hM
    refine lv_aload_n hx hb d_M_write_156 rfl (lv_at hl 1 rfl) ?_
    refine lv_bipush hx hb d_M_write_157 (v := (nI 32)) rfl ?_
    refine tq_VW ⟨hx, hb, hml, hown, hts⟩ hT (c_M_put l D ci am g th fo hs mi hi tx1  (L := [tt_dg yy 1, 32, tt_dg dy 100, tt_dg dy 10, tt_dg dy 1, 32, tt_dg (mk / 60) 10, tt_dg (mk / 60) 1, 58, tt_dg (mk % 60) 10, tt_dg (mk % 60) 1, 32, 72, 73, 71, 72]) (n := 16) rfl hTX (Nat.le_of_ble_eq_true rfl) 32) lk_M_129 wMD_mv ⟨hK, hg, hM, hD⟩ (wM_rc hK hM) rfl hl.1 rfl (Nat.le_of_ble_eq_true rfl) d_M_write_159 ⟨rfl, rfl, Nat.le_of_ble_eq_true rfl, Nat.le_of_ble_eq_true rfl⟩ ⟨Nat.zero_le _, Nat.zero_le _⟩ hL (fun v9 H1 locs1 hF9 hL => ?_)
    obtain ⟨rfl, tx1, hM, hTX, hO9⟩ := hF9
    have hO := hO.tr hO9
    have hTX : tt_TX [tt_dg yy 1, 32, tt_dg dy 100, tt_dg dy 10, tt_dg dy 1, 32, tt_dg (mk / 60) 10, tt_dg (mk / 60) 1, 58, tt_dg (mk % 60) 10, tt_dg (mk % 60) 1, 32, 72, 73, 71, 72, 32] tx1 := hTX
    have hM : tm D ci am g th fo (nI 17) hs mi hi tx1 H1 := hM
    refine lv_aload_n hx hb d_M_write_162 rfl (lv_at hl 1 rfl) ?_
    refine va_get hx hb hts (fun w h => hT w (uM_in w h)) hown hK hM 0 rfl rfl 8 (by decide) (hts _ (hT _ k_M_29)) (fun _ h => h) rfl d_M_write_163 ?_
    refine lv_aload_n hx hb d_M_write_166 rfl (lv_at hl 1 rfl) ?_
    refine va_get hx hb hts (fun w h => hT w (uM_in w h)) hown hK hM 0 rfl rfl 10 (by decide) (hts _ (hT _ k_M_32)) (fun _ h => h) rfl d_M_write_167 ?_
    refine lv_iload_n hx hb d_M_write_170 rfl (lv_at hl 3 rfl) ?_
    refine tq_iald hx hb hK hM 8 0 rfl rfl (show k < 1440 by omega) (by decide) d_M_write_171 ?_
    refine tq_ti (show _ = (nI mk) from hmi) ?_
    refine tq_iald hx hb hK hM 7 0 rfl rfl hmk (by decide) d_M_write_172 ?_
    refine tq_ti (show _ = (iZ zz) from hhz) ?_
    refine lv_istore hx hb d_M_write_173 hl (by decide) (lv' := [(4, .int (iZ zz)), (3, .int (nI yy)), (0, .ref (am 0)), (1, .int (nI dd)), (2, .int (nI k))]) rfl (fun ls hl => ?_)
    refine lv_iload hx hb d_M_write_175 (lv_at hl 0 rfl) ?_
    refine lv_if_ge hx hb d_M_write_177 (tgt := 186) (by decide) (fun h2 => ?_) (fun h2 => ?_)
    · have h2 : ¬ zz < 0 := by have h8 := iv_ge0.mp h2; rw [iZ_toInt (by omega) (by omega)] at h8; omega
      refine lv_iload hx hb d_M_write_186 (lv_at hl 0 rfl) ?_
      refine lv_if_ge hx hb d_M_write_188 (tgt := 197) (by decide) (fun _ => ?_) (fun hno => absurd (by rw [iv_ge0, iZ_toInt (by omega) (by omega)]; omega) hno)
      refine lv_iload hx hb d_M_write_197 (lv_at hl 0 rfl) ?_
      refine tq_ti (show _ = (nI zz.natAbs) from (by rw [nI_iZ]; congr 1; omega)) ?_
      refine lv_istore hx hb d_M_write_199 hl (by decide) (lv' := [(4, .int (nI zz.natAbs)), (3, .int (nI yy)), (0, .ref (am 0)), (1, .int (nI dd)), (2, .int (nI k))]) rfl (fun ls hl => ?_)
      refine lv_iload hx hb d_M_write_201 (lv_at hl 0 rfl) ?_
      refine lv_sipush hx hb d_M_write_203 (v := (nI 10000)) rfl ?_
      refine lv_idiv hx hb d_M_write_206 (by decide) ?_
      refine tq_ti (show _ = (nI (zz.natAbs / 10000)) from pk_div (by omega) (by decide) (by decide)) ?_
      refine lv_istore hx hb d_M_write_207 hl (by decide) (lv' := [(5, .int (nI (zz.natAbs / 10000))), (4, .int (nI zz.natAbs)), (3, .int (nI yy)), (0, .ref (am 0)), (1, .int (nI dd)), (2, .int (nI k))]) rfl (fun ls hl => ?_)
      refine lv_aload_n hx hb d_M_write_209 rfl (lv_at hl 3 rfl) ?_
      refine lv_iload hx hb d_M_write_210 (lv_at hl 0 rfl) ?_
      refine lv_iload hx hb d_M_write_212 (lv_at hl 0 rfl) ?_
      refine lv_bipush hx hb d_M_write_214 (v := (nI 10)) rfl ?_
      refine lv_icmp_ge hx hb d_M_write_216 (tgt := 223) (by decide) (fun h3 => ?_) (fun h3 => ?_)
      · have h3 : ¬ zz.natAbs / 10000 < 10 := fun h => absurd ((nI_ltI (by omega) (by decide)).mpr h) (by rw [Int32.not_lt]; exact h3)
        refine lv_iload hx hb d_M_write_223 (lv_at hl 0 rfl) ?_
        refine lv_bipush hx hb d_M_write_225 (v := (nI 100)) rfl ?_
        refine lv_icmp_ge hx hb d_M_write_227 (tgt := 234) (by decide) (fun h4 => ?_) (fun h4 => ?_)
        · have h4 : ¬ zz.natAbs / 10000 < 100 := fun h => absurd ((nI_ltI (by omega) (by decide)).mpr h) (by rw [Int32.not_lt]; exact h4)
          refine lv_iconst hx hb d_M_write_234 (v := (nI 3)) rfl ?_
          refine tq_VW ⟨hx, hb, hml, hown, hts⟩ hT (c_M_putDigits3 l D ci am g th fo hs mi hi tx1  (L := [tt_dg yy 1, 32, tt_dg dy 100, tt_dg dy 10, tt_dg dy 1, 32, tt_dg (mk / 60) 10, tt_dg (mk / 60) 1, 58, tt_dg (mk % 60) 10, tt_dg (mk % 60) 1, 32, 72, 73, 71, 72, 32]) (n := 17) rfl hTX (Nat.le_of_ble_eq_true rfl) (v := (zz.natAbs / 10000)) (by omega)) lk_M_132 wMD_mv ⟨hK, hg, hM, hD⟩ (wM_rc hK hM) rfl hl.1 rfl (Nat.le_of_ble_eq_true rfl) d_M_write_235 ⟨rfl, rfl, Nat.le_of_ble_eq_true rfl, Nat.le_of_ble_eq_true rfl⟩ ⟨Nat.zero_le _, Nat.zero_le _⟩ hL (fun v9 H1 locs1 hF9 hL => ?_)
          obtain ⟨rfl, tx1, hM, hTX, hO9⟩ := hF9
          have hO := hO.tr hO9
          have hTX : tt_TX [tt_dg yy 1, 32, tt_dg dy 100, tt_dg dy 10, tt_dg dy 1, 32, tt_dg (mk / 60) 10, tt_dg (mk / 60) 1, 58, tt_dg (mk % 60) 10, tt_dg (mk % 60) 1, 32, 72, 73, 71, 72, 32, tt_dg (zz.natAbs / 10000) 100, tt_dg (zz.natAbs / 10000) 10, tt_dg (zz.natAbs / 10000) 1] tx1 := hTX
          have hM : tm D ci am g th fo (nI 20) hs mi hi tx1 H1 := hM
          refine lv_aload_n hx hb d_M_write_238 rfl (lv_at hl 3 rfl) ?_
          refine lv_bipush hx hb d_M_write_239 (v := (nI 46)) rfl ?_
          refine tq_VW ⟨hx, hb, hml, hown, hts⟩ hT (c_M_put l D ci am g th fo hs mi hi tx1  (L := [tt_dg yy 1, 32, tt_dg dy 100, tt_dg dy 10, tt_dg dy 1, 32, tt_dg (mk / 60) 10, tt_dg (mk / 60) 1, 58, tt_dg (mk % 60) 10, tt_dg (mk % 60) 1, 32, 72, 73, 71, 72, 32, tt_dg (zz.natAbs / 10000) 100, tt_dg (zz.natAbs / 10000) 10, tt_dg (zz.natAbs / 10000) 1]) (n := 20) rfl hTX (Nat.le_of_ble_eq_true rfl) 46) lk_M_129 wMD_mv ⟨hK, hg, hM, hD⟩ (wM_rc hK hM) rfl hl.1 rfl (Nat.le_of_ble_eq_true rfl) d_M_write_241 ⟨rfl, rfl, Nat.le_of_ble_eq_true rfl, Nat.le_of_ble_eq_true rfl⟩ ⟨Nat.zero_le _, Nat.zero_le _⟩ hL (fun v9 H1 locs1 hF9 hL => ?_)
          obtain ⟨rfl, tx1, hM, hTX, hO9⟩ := hF9
          have hO := hO.tr hO9
          have hTX : tt_TX [tt_dg yy 1, 32, tt_dg dy 100, tt_dg dy 10, tt_dg dy 1, 32, tt_dg (mk / 60) 10, tt_dg (mk / 60) 1, 58, tt_dg (mk % 60) 10, tt_dg (mk % 60) 1, 32, 72, 73, 71, 72, 32, tt_dg (zz.natAbs / 10000) 100, tt_dg (zz.natAbs / 10000) 10, tt_dg (zz.natAbs / 10000) 1, 46] tx1 := hTX
          have hM : tm D ci am g th fo (nI 21) hs mi hi tx1 H1 := hM
          refine lv_aload_n hx hb d_M_write_244 rfl (lv_at hl 3 rfl) ?_
          refine lv_iload hx hb d_M_write_245 (lv_at hl 1 rfl) ?_
          refine lv_sipush hx hb d_M_write_247 (v := (nI 10000)) rfl ?_
          refine lv_irem hx hb d_M_write_250 (by decide) ?_
          refine tq_ti (show _ = (nI (zz.natAbs % 10000)) from pk_rem (by omega) (by decide) (by decide)) ?_
          refine lv_iconst hx hb d_M_write_251 (v := (nI 4)) rfl ?_
          refine tq_VW ⟨hx, hb, hml, hown, hts⟩ hT (c_M_putDigits4 l D ci am g th fo hs mi hi tx1  (L := [tt_dg yy 1, 32, tt_dg dy 100, tt_dg dy 10, tt_dg dy 1, 32, tt_dg (mk / 60) 10, tt_dg (mk / 60) 1, 58, tt_dg (mk % 60) 10, tt_dg (mk % 60) 1, 32, 72, 73, 71, 72, 32, tt_dg (zz.natAbs / 10000) 100, tt_dg (zz.natAbs / 10000) 10, tt_dg (zz.natAbs / 10000) 1, 46]) (n := 21) rfl hTX (Nat.le_of_ble_eq_true rfl) (v := (zz.natAbs % 10000)) (by omega)) lk_M_132 wMD_mv ⟨hK, hg, hM, hD⟩ (wM_rc hK hM) rfl hl.1 rfl (Nat.le_of_ble_eq_true rfl) d_M_write_252 ⟨rfl, rfl, Nat.le_of_ble_eq_true rfl, Nat.le_of_ble_eq_true rfl⟩ ⟨Nat.zero_le _, Nat.zero_le _⟩ hL (fun v9 H1 locs1 hF9 hL => ?_)
          obtain ⟨rfl, tx1, hM, hTX, hO9⟩ := hF9
          have hO := hO.tr hO9
          have hTX : tt_TX [tt_dg yy 1, 32, tt_dg dy 100, tt_dg dy 10, tt_dg dy 1, 32, tt_dg (mk / 60) 10, tt_dg (mk / 60) 1, 58, tt_dg (mk % 60) 10, tt_dg (mk % 60) 1, 32, 72, 73, 71, 72, 32, tt_dg (zz.natAbs / 10000) 100, tt_dg (zz.natAbs / 10000) 10, tt_dg (zz.natAbs / 10000) 1, 46, tt_dg (zz.natAbs % 10000) 1000, tt_dg (zz.natAbs % 10000) 100, tt_dg (zz.natAbs % 10000) 10, tt_dg (zz.natAbs % 10000) 1] tx1 := hTX
          have hM : tm D ci am g th fo (nI 25) hs mi hi tx1 H1 := hM
          have e2 : tt_ht zz = [tt_dg (zz.natAbs / 10000) 100, tt_dg (zz.natAbs / 10000) 10, tt_dg (zz.natAbs / 10000) 1, 46, tt_dg (zz.natAbs % 10000) 1000, tt_dg (zz.natAbs % 10000) 100, tt_dg (zz.natAbs % 10000) 10, tt_dg (zz.natAbs % 10000) 1] := by unfold tt_ht tt_wd; rw [if_neg h2, if_neg h3, if_neg h4]; rfl
          have e3 : tt_line g dd k = [tt_dg yy 1, 32, tt_dg dy 100, tt_dg dy 10, tt_dg dy 1, 32, tt_dg (mk / 60) 10, tt_dg (mk / 60) 1, 58, tt_dg (mk % 60) 10, tt_dg (mk % 60) 1, 32, 72, 73, 71, 72, 32, tt_dg (zz.natAbs / 10000) 100, tt_dg (zz.natAbs / 10000) 10, tt_dg (zz.natAbs / 10000) 1, 46, tt_dg (zz.natAbs % 10000) 1000, tt_dg (zz.natAbs % 10000) 100, tt_dg (zz.natAbs % 10000) 10, tt_dg (zz.natAbs % 10000) 1] := by rw [hln]; show tt_hd yy dy mk ++ tt_kd _ ++ tt_ht zz = _; rw [e1, e2]; rfl
          exact W.vret hx hb hr (fun t ht hW => ⟨_, rfl, rfl, tx1, by rw [ht, e3]; exact hM, by rw [e3]; exact hTX, by rw [ht]; exact hO⟩) hL d_M_write_255
        · have h4 : zz.natAbs / 10000 < 100 := (nI_ltI (by omega) (by decide)).mp (by rw [Int32.not_le] at h4; exact h4)
          refine lv_iconst hx hb d_M_write_230 (v := (nI 2)) rfl ?_
          refine lv_goto hx hb d_M_write_231 (tgt := 235) (by decide) ?_
          refine tq_VW ⟨hx, hb, hml, hown, hts⟩ hT (c_M_putDigits2 l D ci am g th fo hs mi hi tx1  (L := [tt_dg yy 1, 32, tt_dg dy 100, tt_dg dy 10, tt_dg dy 1, 32, tt_dg (mk / 60) 10, tt_dg (mk / 60) 1, 58, tt_dg (mk % 60) 10, tt_dg (mk % 60) 1, 32, 72, 73, 71, 72, 32]) (n := 17) rfl hTX (Nat.le_of_ble_eq_true rfl) (v := (zz.natAbs / 10000)) (by omega)) lk_M_132 wMD_mv ⟨hK, hg, hM, hD⟩ (wM_rc hK hM) rfl hl.1 rfl (Nat.le_of_ble_eq_true rfl) d_M_write_235 ⟨rfl, rfl, Nat.le_of_ble_eq_true rfl, Nat.le_of_ble_eq_true rfl⟩ ⟨Nat.zero_le _, Nat.zero_le _⟩ hL (fun v9 H1 locs1 hF9 hL => ?_)
          obtain ⟨rfl, tx1, hM, hTX, hO9⟩ := hF9
          have hO := hO.tr hO9
          have hTX : tt_TX [tt_dg yy 1, 32, tt_dg dy 100, tt_dg dy 10, tt_dg dy 1, 32, tt_dg (mk / 60) 10, tt_dg (mk / 60) 1, 58, tt_dg (mk % 60) 10, tt_dg (mk % 60) 1, 32, 72, 73, 71, 72, 32, tt_dg (zz.natAbs / 10000) 10, tt_dg (zz.natAbs / 10000) 1] tx1 := hTX
          have hM : tm D ci am g th fo (nI 19) hs mi hi tx1 H1 := hM
          refine lv_aload_n hx hb d_M_write_238 rfl (lv_at hl 3 rfl) ?_
          refine lv_bipush hx hb d_M_write_239 (v := (nI 46)) rfl ?_
          refine tq_VW ⟨hx, hb, hml, hown, hts⟩ hT (c_M_put l D ci am g th fo hs mi hi tx1  (L := [tt_dg yy 1, 32, tt_dg dy 100, tt_dg dy 10, tt_dg dy 1, 32, tt_dg (mk / 60) 10, tt_dg (mk / 60) 1, 58, tt_dg (mk % 60) 10, tt_dg (mk % 60) 1, 32, 72, 73, 71, 72, 32, tt_dg (zz.natAbs / 10000) 10, tt_dg (zz.natAbs / 10000) 1]) (n := 19) rfl hTX (Nat.le_of_ble_eq_true rfl) 46) lk_M_129 wMD_mv ⟨hK, hg, hM, hD⟩ (wM_rc hK hM) rfl hl.1 rfl (Nat.le_of_ble_eq_true rfl) d_M_write_241 ⟨rfl, rfl, Nat.le_of_ble_eq_true rfl, Nat.le_of_ble_eq_true rfl⟩ ⟨Nat.zero_le _, Nat.zero_le _⟩ hL (fun v9 H1 locs1 hF9 hL => ?_)
          obtain ⟨rfl, tx1, hM, hTX, hO9⟩ := hF9
          have hO := hO.tr hO9
          have hTX : tt_TX [tt_dg yy 1, 32, tt_dg dy 100, tt_dg dy 10, tt_dg dy 1, 32, tt_dg (mk / 60) 10, tt_dg (mk / 60) 1, 58, tt_dg (mk % 60) 10, tt_dg (mk % 60) 1, 32, 72, 73, 71, 72, 32, tt_dg (zz.natAbs / 10000) 10, tt_dg (zz.natAbs / 10000) 1, 46] tx1 := hTX
          have hM : tm D ci am g th fo (nI 20) hs mi hi tx1 H1 := hM
          refine lv_aload_n hx hb d_M_write_244 rfl (lv_at hl 3 rfl) ?_
          refine lv_iload hx hb d_M_write_245 (lv_at hl 1 rfl) ?_
          refine lv_sipush hx hb d_M_write_247 (v := (nI 10000)) rfl ?_
          refine lv_irem hx hb d_M_write_250 (by decide) ?_
          refine tq_ti (show _ = (nI (zz.natAbs % 10000)) from pk_rem (by omega) (by decide) (by decide)) ?_
          refine lv_iconst hx hb d_M_write_251 (v := (nI 4)) rfl ?_
          refine tq_VW ⟨hx, hb, hml, hown, hts⟩ hT (c_M_putDigits4 l D ci am g th fo hs mi hi tx1  (L := [tt_dg yy 1, 32, tt_dg dy 100, tt_dg dy 10, tt_dg dy 1, 32, tt_dg (mk / 60) 10, tt_dg (mk / 60) 1, 58, tt_dg (mk % 60) 10, tt_dg (mk % 60) 1, 32, 72, 73, 71, 72, 32, tt_dg (zz.natAbs / 10000) 10, tt_dg (zz.natAbs / 10000) 1, 46]) (n := 20) rfl hTX (Nat.le_of_ble_eq_true rfl) (v := (zz.natAbs % 10000)) (by omega)) lk_M_132 wMD_mv ⟨hK, hg, hM, hD⟩ (wM_rc hK hM) rfl hl.1 rfl (Nat.le_of_ble_eq_true rfl) d_M_write_252 ⟨rfl, rfl, Nat.le_of_ble_eq_true rfl, Nat.le_of_ble_eq_true rfl⟩ ⟨Nat.zero_le _, Nat.zero_le _⟩ hL (fun v9 H1 locs1 hF9 hL => ?_)
          obtain ⟨rfl, tx1, hM, hTX, hO9⟩ := hF9
          have hO := hO.tr hO9
          have hTX : tt_TX [tt_dg yy 1, 32, tt_dg dy 100, tt_dg dy 10, tt_dg dy 1, 32, tt_dg (mk / 60) 10, tt_dg (mk / 60) 1, 58, tt_dg (mk % 60) 10, tt_dg (mk % 60) 1, 32, 72, 73, 71, 72, 32, tt_dg (zz.natAbs / 10000) 10, tt_dg (zz.natAbs / 10000) 1, 46, tt_dg (zz.natAbs % 10000) 1000, tt_dg (zz.natAbs % 10000) 100, tt_dg (zz.natAbs % 10000) 10, tt_dg (zz.natAbs % 10000) 1] tx1 := hTX
          have hM : tm D ci am g th fo (nI 24) hs mi hi tx1 H1 := hM
          have e2 : tt_ht zz = [tt_dg (zz.natAbs / 10000) 10, tt_dg (zz.natAbs / 10000) 1, 46, tt_dg (zz.natAbs % 10000) 1000, tt_dg (zz.natAbs % 10000) 100, tt_dg (zz.natAbs % 10000) 10, tt_dg (zz.natAbs % 10000) 1] := by unfold tt_ht tt_wd; rw [if_neg h2, if_neg h3, if_pos h4]; rfl
          have e3 : tt_line g dd k = [tt_dg yy 1, 32, tt_dg dy 100, tt_dg dy 10, tt_dg dy 1, 32, tt_dg (mk / 60) 10, tt_dg (mk / 60) 1, 58, tt_dg (mk % 60) 10, tt_dg (mk % 60) 1, 32, 72, 73, 71, 72, 32, tt_dg (zz.natAbs / 10000) 10, tt_dg (zz.natAbs / 10000) 1, 46, tt_dg (zz.natAbs % 10000) 1000, tt_dg (zz.natAbs % 10000) 100, tt_dg (zz.natAbs % 10000) 10, tt_dg (zz.natAbs % 10000) 1] := by rw [hln]; show tt_hd yy dy mk ++ tt_kd _ ++ tt_ht zz = _; rw [e1, e2]; rfl
          exact W.vret hx hb hr (fun t ht hW => ⟨_, rfl, rfl, tx1, by rw [ht, e3]; exact hM, by rw [e3]; exact hTX, by rw [ht]; exact hO⟩) hL d_M_write_255
      · have h3 : zz.natAbs / 10000 < 10 := (nI_ltI (by omega) (by decide)).mp (by rw [Int32.not_le] at h3; exact h3)
        refine lv_iconst hx hb d_M_write_219 (v := (nI 1)) rfl ?_
        refine lv_goto hx hb d_M_write_220 (tgt := 235) (by decide) ?_
        refine tq_VW ⟨hx, hb, hml, hown, hts⟩ hT (c_M_putDigits1 l D ci am g th fo hs mi hi tx1  (L := [tt_dg yy 1, 32, tt_dg dy 100, tt_dg dy 10, tt_dg dy 1, 32, tt_dg (mk / 60) 10, tt_dg (mk / 60) 1, 58, tt_dg (mk % 60) 10, tt_dg (mk % 60) 1, 32, 72, 73, 71, 72, 32]) (n := 17) rfl hTX (Nat.le_of_ble_eq_true rfl) (v := (zz.natAbs / 10000)) (by omega)) lk_M_132 wMD_mv ⟨hK, hg, hM, hD⟩ (wM_rc hK hM) rfl hl.1 rfl (Nat.le_of_ble_eq_true rfl) d_M_write_235 ⟨rfl, rfl, Nat.le_of_ble_eq_true rfl, Nat.le_of_ble_eq_true rfl⟩ ⟨Nat.zero_le _, Nat.zero_le _⟩ hL (fun v9 H1 locs1 hF9 hL => ?_)
        obtain ⟨rfl, tx1, hM, hTX, hO9⟩ := hF9
        have hO := hO.tr hO9
        have hTX : tt_TX [tt_dg yy 1, 32, tt_dg dy 100, tt_dg dy 10, tt_dg dy 1, 32, tt_dg (mk / 60) 10, tt_dg (mk / 60) 1, 58, tt_dg (mk % 60) 10, tt_dg (mk % 60) 1, 32, 72, 73, 71, 72, 32, tt_dg (zz.natAbs / 10000) 1] tx1 := hTX
        have hM : tm D ci am g th fo (nI 18) hs mi hi tx1 H1 := hM
        refine lv_aload_n hx hb d_M_write_238 rfl (lv_at hl 3 rfl) ?_
        refine lv_bipush hx hb d_M_write_239 (v := (nI 46)) rfl ?_
        refine tq_VW ⟨hx, hb, hml, hown, hts⟩ hT (c_M_put l D ci am g th fo hs mi hi tx1  (L := [tt_dg yy 1, 32, tt_dg dy 100, tt_dg dy 10, tt_dg dy 1, 32, tt_dg (mk / 60) 10, tt_dg (mk / 60) 1, 58, tt_dg (mk % 60) 10, tt_dg (mk % 60) 1, 32, 72, 73, 71, 72, 32, tt_dg (zz.natAbs / 10000) 1]) (n := 18) rfl hTX (Nat.le_of_ble_eq_true rfl) 46) lk_M_129 wMD_mv ⟨hK, hg, hM, hD⟩ (wM_rc hK hM) rfl hl.1 rfl (Nat.le_of_ble_eq_true rfl) d_M_write_241 ⟨rfl, rfl, Nat.le_of_ble_eq_true rfl, Nat.le_of_ble_eq_true rfl⟩ ⟨Nat.zero_le _, Nat.zero_le _⟩ hL (fun v9 H1 locs1 hF9 hL => ?_)
        obtain ⟨rfl, tx1, hM, hTX, hO9⟩ := hF9
        have hO := hO.tr hO9
        have hTX : tt_TX [tt_dg yy 1, 32, tt_dg dy 100, tt_dg dy 10, tt_dg dy 1, 32, tt_dg (mk / 60) 10, tt_dg (mk / 60) 1, 58, tt_dg (mk % 60) 10, tt_dg (mk % 60) 1, 32, 72, 73, 71, 72, 32, tt_dg (zz.natAbs / 10000) 1, 46] tx1 := hTX
        have hM : tm D ci am g th fo (nI 19) hs mi hi tx1 H1 := hM
        refine lv_aload_n hx hb d_M_write_244 rfl (lv_at hl 3 rfl) ?_
        refine lv_iload hx hb d_M_write_245 (lv_at hl 1 rfl) ?_
        refine lv_sipush hx hb d_M_write_247 (v := (nI 10000)) rfl ?_
        refine lv_irem hx hb d_M_write_250 (by decide) ?_
        refine tq_ti (show _ = (nI (zz.natAbs % 10000)) from pk_rem (by omega) (by decide) (by decide)) ?_
        refine lv_iconst hx hb d_M_write_251 (v := (nI 4)) rfl ?_
        refine tq_VW ⟨hx, hb, hml, hown, hts⟩ hT (c_M_putDigits4 l D ci am g th fo hs mi hi tx1  (L := [tt_dg yy 1, 32, tt_dg dy 100, tt_dg dy 10, tt_dg dy 1, 32, tt_dg (mk / 60) 10, tt_dg (mk / 60) 1, 58, tt_dg (mk % 60) 10, tt_dg (mk % 60) 1, 32, 72, 73, 71, 72, 32, tt_dg (zz.natAbs / 10000) 1, 46]) (n := 19) rfl hTX (Nat.le_of_ble_eq_true rfl) (v := (zz.natAbs % 10000)) (by omega)) lk_M_132 wMD_mv ⟨hK, hg, hM, hD⟩ (wM_rc hK hM) rfl hl.1 rfl (Nat.le_of_ble_eq_true rfl) d_M_write_252 ⟨rfl, rfl, Nat.le_of_ble_eq_true rfl, Nat.le_of_ble_eq_true rfl⟩ ⟨Nat.zero_le _, Nat.zero_le _⟩ hL (fun v9 H1 locs1 hF9 hL => ?_)
        obtain ⟨rfl, tx1, hM, hTX, hO9⟩ := hF9
        have hO := hO.tr hO9
        have hTX : tt_TX [tt_dg yy 1, 32, tt_dg dy 100, tt_dg dy 10, tt_dg dy 1, 32, tt_dg (mk / 60) 10, tt_dg (mk / 60) 1, 58, tt_dg (mk % 60) 10, tt_dg (mk % 60) 1, 32, 72, 73, 71, 72, 32, tt_dg (zz.natAbs / 10000) 1, 46, tt_dg (zz.natAbs % 10000) 1000, tt_dg (zz.natAbs % 10000) 100, tt_dg (zz.natAbs % 10000) 10, tt_dg (zz.natAbs % 10000) 1] tx1 := hTX
        have hM : tm D ci am g th fo (nI 23) hs mi hi tx1 H1 := hM
        have e2 : tt_ht zz = [tt_dg (zz.natAbs / 10000) 1, 46, tt_dg (zz.natAbs % 10000) 1000, tt_dg (zz.natAbs % 10000) 100, tt_dg (zz.natAbs % 10000) 10, tt_dg (zz.natAbs % 10000) 1] := by unfold tt_ht tt_wd; rw [if_neg h2, if_pos h3]; rfl
        have e3 : tt_line g dd k = [tt_dg yy 1, 32, tt_dg dy 100, tt_dg dy 10, tt_dg dy 1, 32, tt_dg (mk / 60) 10, tt_dg (mk / 60) 1, 58, tt_dg (mk % 60) 10, tt_dg (mk % 60) 1, 32, 72, 73, 71, 72, 32, tt_dg (zz.natAbs / 10000) 1, 46, tt_dg (zz.natAbs % 10000) 1000, tt_dg (zz.natAbs % 10000) 100, tt_dg (zz.natAbs % 10000) 10, tt_dg (zz.natAbs % 10000) 1] := by rw [hln]; show tt_hd yy dy mk ++ tt_kd _ ++ tt_ht zz = _; rw [e1, e2]; rfl
        exact W.vret hx hb hr (fun t ht hW => ⟨_, rfl, rfl, tx1, by rw [ht, e3]; exact hM, by rw [e3]; exact hTX, by rw [ht]; exact hO⟩) hL d_M_write_255
    · have h2 : zz < 0 := by have h8 := mt iv_ge0.mpr h2; rw [iZ_toInt (by omega) (by omega)] at h8; omega
      refine lv_aload_n hx hb d_M_write_180 rfl (lv_at hl 2 rfl) ?_
      refine lv_bipush hx hb d_M_write_181 (v := (nI 45)) rfl ?_
      refine tq_VW ⟨hx, hb, hml, hown, hts⟩ hT (c_M_put l D ci am g th fo hs mi hi tx1  (L := [tt_dg yy 1, 32, tt_dg dy 100, tt_dg dy 10, tt_dg dy 1, 32, tt_dg (mk / 60) 10, tt_dg (mk / 60) 1, 58, tt_dg (mk % 60) 10, tt_dg (mk % 60) 1, 32, 72, 73, 71, 72, 32]) (n := 17) rfl hTX (Nat.le_of_ble_eq_true rfl) 45) lk_M_129 wMD_mv ⟨hK, hg, hM, hD⟩ (wM_rc hK hM) rfl hl.1 rfl (Nat.le_of_ble_eq_true rfl) d_M_write_183 ⟨rfl, rfl, Nat.le_of_ble_eq_true rfl, Nat.le_of_ble_eq_true rfl⟩ ⟨Nat.zero_le _, Nat.zero_le _⟩ hL (fun v9 H1 locs1 hF9 hL => ?_)
      obtain ⟨rfl, tx1, hM, hTX, hO9⟩ := hF9
      have hO := hO.tr hO9
      have hTX : tt_TX [tt_dg yy 1, 32, tt_dg dy 100, tt_dg dy 10, tt_dg dy 1, 32, tt_dg (mk / 60) 10, tt_dg (mk / 60) 1, 58, tt_dg (mk % 60) 10, tt_dg (mk % 60) 1, 32, 72, 73, 71, 72, 32, 45] tx1 := hTX
      have hM : tm D ci am g th fo (nI 18) hs mi hi tx1 H1 := hM
      refine lv_iload hx hb d_M_write_186 (lv_at hl 0 rfl) ?_
      refine lv_if_ge hx hb d_M_write_188 (tgt := 197) (by decide) (fun hyes => absurd hyes (by rw [iv_ge0, iZ_toInt (by omega) (by omega)]; omega)) (fun _ => ?_)
      refine lv_iload hx hb d_M_write_191 (lv_at hl 0 rfl) ?_
      refine lv_ineg hx hb d_M_write_193 ?_
      refine tq_ti (show _ = (nI zz.natAbs) from (by rw [iZ_neg, nI_iZ]; congr 1; omega)) ?_
      refine lv_goto hx hb d_M_write_194 (tgt := 199) (by decide) ?_
      refine lv_istore hx hb d_M_write_199 hl (by decide) (lv' := [(4, .int (nI zz.natAbs)), (3, .int (nI yy)), (0, .ref (am 0)), (1, .int (nI dd)), (2, .int (nI k))]) rfl (fun ls hl => ?_)
      refine lv_iload hx hb d_M_write_201 (lv_at hl 0 rfl) ?_
      refine lv_sipush hx hb d_M_write_203 (v := (nI 10000)) rfl ?_
      refine lv_idiv hx hb d_M_write_206 (by decide) ?_
      refine tq_ti (show _ = (nI (zz.natAbs / 10000)) from pk_div (by omega) (by decide) (by decide)) ?_
      refine lv_istore hx hb d_M_write_207 hl (by decide) (lv' := [(5, .int (nI (zz.natAbs / 10000))), (4, .int (nI zz.natAbs)), (3, .int (nI yy)), (0, .ref (am 0)), (1, .int (nI dd)), (2, .int (nI k))]) rfl (fun ls hl => ?_)
      refine lv_aload_n hx hb d_M_write_209 rfl (lv_at hl 3 rfl) ?_
      refine lv_iload hx hb d_M_write_210 (lv_at hl 0 rfl) ?_
      refine lv_iload hx hb d_M_write_212 (lv_at hl 0 rfl) ?_
      refine lv_bipush hx hb d_M_write_214 (v := (nI 10)) rfl ?_
      refine lv_icmp_ge hx hb d_M_write_216 (tgt := 223) (by decide) (fun h3 => ?_) (fun h3 => ?_)
      · have h3 : ¬ zz.natAbs / 10000 < 10 := fun h => absurd ((nI_ltI (by omega) (by decide)).mpr h) (by rw [Int32.not_lt]; exact h3)
        refine lv_iload hx hb d_M_write_223 (lv_at hl 0 rfl) ?_
        refine lv_bipush hx hb d_M_write_225 (v := (nI 100)) rfl ?_
        refine lv_icmp_ge hx hb d_M_write_227 (tgt := 234) (by decide) (fun h4 => ?_) (fun h4 => ?_)
        · have h4 : ¬ zz.natAbs / 10000 < 100 := fun h => absurd ((nI_ltI (by omega) (by decide)).mpr h) (by rw [Int32.not_lt]; exact h4)
          refine lv_iconst hx hb d_M_write_234 (v := (nI 3)) rfl ?_
          refine tq_VW ⟨hx, hb, hml, hown, hts⟩ hT (c_M_putDigits3 l D ci am g th fo hs mi hi tx1  (L := [tt_dg yy 1, 32, tt_dg dy 100, tt_dg dy 10, tt_dg dy 1, 32, tt_dg (mk / 60) 10, tt_dg (mk / 60) 1, 58, tt_dg (mk % 60) 10, tt_dg (mk % 60) 1, 32, 72, 73, 71, 72, 32, 45]) (n := 18) rfl hTX (Nat.le_of_ble_eq_true rfl) (v := (zz.natAbs / 10000)) (by omega)) lk_M_132 wMD_mv ⟨hK, hg, hM, hD⟩ (wM_rc hK hM) rfl hl.1 rfl (Nat.le_of_ble_eq_true rfl) d_M_write_235 ⟨rfl, rfl, Nat.le_of_ble_eq_true rfl, Nat.le_of_ble_eq_true rfl⟩ ⟨Nat.zero_le _, Nat.zero_le _⟩ hL (fun v9 H1 locs1 hF9 hL => ?_)
          obtain ⟨rfl, tx1, hM, hTX, hO9⟩ := hF9
          have hO := hO.tr hO9
          have hTX : tt_TX [tt_dg yy 1, 32, tt_dg dy 100, tt_dg dy 10, tt_dg dy 1, 32, tt_dg (mk / 60) 10, tt_dg (mk / 60) 1, 58, tt_dg (mk % 60) 10, tt_dg (mk % 60) 1, 32, 72, 73, 71, 72, 32, 45, tt_dg (zz.natAbs / 10000) 100, tt_dg (zz.natAbs / 10000) 10, tt_dg (zz.natAbs / 10000) 1] tx1 := hTX
          have hM : tm D ci am g th fo (nI 21) hs mi hi tx1 H1 := hM
          refine lv_aload_n hx hb d_M_write_238 rfl (lv_at hl 3 rfl) ?_
          refine lv_bipush hx hb d_M_write_239 (v := (nI 46)) rfl ?_
          refine tq_VW ⟨hx, hb, hml, hown, hts⟩ hT (c_M_put l D ci am g th fo hs mi hi tx1  (L := [tt_dg yy 1, 32, tt_dg dy 100, tt_dg dy 10, tt_dg dy 1, 32, tt_dg (mk / 60) 10, tt_dg (mk / 60) 1, 58, tt_dg (mk % 60) 10, tt_dg (mk % 60) 1, 32, 72, 73, 71, 72, 32, 45, tt_dg (zz.natAbs / 10000) 100, tt_dg (zz.natAbs / 10000) 10, tt_dg (zz.natAbs / 10000) 1]) (n := 21) rfl hTX (Nat.le_of_ble_eq_true rfl) 46) lk_M_129 wMD_mv ⟨hK, hg, hM, hD⟩ (wM_rc hK hM) rfl hl.1 rfl (Nat.le_of_ble_eq_true rfl) d_M_write_241 ⟨rfl, rfl, Nat.le_of_ble_eq_true rfl, Nat.le_of_ble_eq_true rfl⟩ ⟨Nat.zero_le _, Nat.zero_le _⟩ hL (fun v9 H1 locs1 hF9 hL => ?_)
          obtain ⟨rfl, tx1, hM, hTX, hO9⟩ := hF9
          have hO := hO.tr hO9
          have hTX : tt_TX [tt_dg yy 1, 32, tt_dg dy 100, tt_dg dy 10, tt_dg dy 1, 32, tt_dg (mk / 60) 10, tt_dg (mk / 60) 1, 58, tt_dg (mk % 60) 10, tt_dg (mk % 60) 1, 32, 72, 73, 71, 72, 32, 45, tt_dg (zz.natAbs / 10000) 100, tt_dg (zz.natAbs / 10000) 10, tt_dg (zz.natAbs / 10000) 1, 46] tx1 := hTX
          have hM : tm D ci am g th fo (nI 22) hs mi hi tx1 H1 := hM
          refine lv_aload_n hx hb d_M_write_244 rfl (lv_at hl 3 rfl) ?_
          refine lv_iload hx hb d_M_write_245 (lv_at hl 1 rfl) ?_
          refine lv_sipush hx hb d_M_write_247 (v := (nI 10000)) rfl ?_
          refine lv_irem hx hb d_M_write_250 (by decide) ?_
          refine tq_ti (show _ = (nI (zz.natAbs % 10000)) from pk_rem (by omega) (by decide) (by decide)) ?_
          refine lv_iconst hx hb d_M_write_251 (v := (nI 4)) rfl ?_
          refine tq_VW ⟨hx, hb, hml, hown, hts⟩ hT (c_M_putDigits4 l D ci am g th fo hs mi hi tx1  (L := [tt_dg yy 1, 32, tt_dg dy 100, tt_dg dy 10, tt_dg dy 1, 32, tt_dg (mk / 60) 10, tt_dg (mk / 60) 1, 58, tt_dg (mk % 60) 10, tt_dg (mk % 60) 1, 32, 72, 73, 71, 72, 32, 45, tt_dg (zz.natAbs / 10000) 100, tt_dg (zz.natAbs / 10000) 10, tt_dg (zz.natAbs / 10000) 1, 46]) (n := 22) rfl hTX (Nat.le_of_ble_eq_true rfl) (v := (zz.natAbs % 10000)) (by omega)) lk_M_132 wMD_mv ⟨hK, hg, hM, hD⟩ (wM_rc hK hM) rfl hl.1 rfl (Nat.le_of_ble_eq_true rfl) d_M_write_252 ⟨rfl, rfl, Nat.le_of_ble_eq_true rfl, Nat.le_of_ble_eq_true rfl⟩ ⟨Nat.zero_le _, Nat.zero_le _⟩ hL (fun v9 H1 locs1 hF9 hL => ?_)
          obtain ⟨rfl, tx1, hM, hTX, hO9⟩ := hF9
          have hO := hO.tr hO9
          have hTX : tt_TX [tt_dg yy 1, 32, tt_dg dy 100, tt_dg dy 10, tt_dg dy 1, 32, tt_dg (mk / 60) 10, tt_dg (mk / 60) 1, 58, tt_dg (mk % 60) 10, tt_dg (mk % 60) 1, 32, 72, 73, 71, 72, 32, 45, tt_dg (zz.natAbs / 10000) 100, tt_dg (zz.natAbs / 10000) 10, tt_dg (zz.natAbs / 10000) 1, 46, tt_dg (zz.natAbs % 10000) 1000, tt_dg (zz.natAbs % 10000) 100, tt_dg (zz.natAbs % 10000) 10, tt_dg (zz.natAbs % 10000) 1] tx1 := hTX
          have hM : tm D ci am g th fo (nI 26) hs mi hi tx1 H1 := hM
          have e2 : tt_ht zz = [45, tt_dg (zz.natAbs / 10000) 100, tt_dg (zz.natAbs / 10000) 10, tt_dg (zz.natAbs / 10000) 1, 46, tt_dg (zz.natAbs % 10000) 1000, tt_dg (zz.natAbs % 10000) 100, tt_dg (zz.natAbs % 10000) 10, tt_dg (zz.natAbs % 10000) 1] := by unfold tt_ht tt_wd; rw [if_pos h2, if_neg h3, if_neg h4]; rfl
          have e3 : tt_line g dd k = [tt_dg yy 1, 32, tt_dg dy 100, tt_dg dy 10, tt_dg dy 1, 32, tt_dg (mk / 60) 10, tt_dg (mk / 60) 1, 58, tt_dg (mk % 60) 10, tt_dg (mk % 60) 1, 32, 72, 73, 71, 72, 32, 45, tt_dg (zz.natAbs / 10000) 100, tt_dg (zz.natAbs / 10000) 10, tt_dg (zz.natAbs / 10000) 1, 46, tt_dg (zz.natAbs % 10000) 1000, tt_dg (zz.natAbs % 10000) 100, tt_dg (zz.natAbs % 10000) 10, tt_dg (zz.natAbs % 10000) 1] := by rw [hln]; show tt_hd yy dy mk ++ tt_kd _ ++ tt_ht zz = _; rw [e1, e2]; rfl
          exact W.vret hx hb hr (fun t ht hW => ⟨_, rfl, rfl, tx1, by rw [ht, e3]; exact hM, by rw [e3]; exact hTX, by rw [ht]; exact hO⟩) hL d_M_write_255
        · have h4 : zz.natAbs / 10000 < 100 := (nI_ltI (by omega) (by decide)).mp (by rw [Int32.not_le] at h4; exact h4)
          refine lv_iconst hx hb d_M_write_230 (v := (nI 2)) rfl ?_
          refine lv_goto hx hb d_M_write_231 (tgt := 235) (by decide) ?_
          refine tq_VW ⟨hx, hb, hml, hown, hts⟩ hT (c_M_putDigits2 l D ci am g th fo hs mi hi tx1  (L := [tt_dg yy 1, 32, tt_dg dy 100, tt_dg dy 10, tt_dg dy 1, 32, tt_dg (mk / 60) 10, tt_dg (mk / 60) 1, 58, tt_dg (mk % 60) 10, tt_dg (mk % 60) 1, 32, 72, 73, 71, 72, 32, 45]) (n := 18) rfl hTX (Nat.le_of_ble_eq_true rfl) (v := (zz.natAbs / 10000)) (by omega)) lk_M_132 wMD_mv ⟨hK, hg, hM, hD⟩ (wM_rc hK hM) rfl hl.1 rfl (Nat.le_of_ble_eq_true rfl) d_M_write_235 ⟨rfl, rfl, Nat.le_of_ble_eq_true rfl, Nat.le_of_ble_eq_true rfl⟩ ⟨Nat.zero_le _, Nat.zero_le _⟩ hL (fun v9 H1 locs1 hF9 hL => ?_)
          obtain ⟨rfl, tx1, hM, hTX, hO9⟩ := hF9
          have hO := hO.tr hO9
          have hTX : tt_TX [tt_dg yy 1, 32, tt_dg dy 100, tt_dg dy 10, tt_dg dy 1, 32, tt_dg (mk / 60) 10, tt_dg (mk / 60) 1, 58, tt_dg (mk % 60) 10, tt_dg (mk % 60) 1, 32, 72, 73, 71, 72, 32, 45, tt_dg (zz.natAbs / 10000) 10, tt_dg (zz.natAbs / 10000) 1] tx1 := hTX
          have hM : tm D ci am g th fo (nI 20) hs mi hi tx1 H1 := hM
          refine lv_aload_n hx hb d_M_write_238 rfl (lv_at hl 3 rfl) ?_
          refine lv_bipush hx hb d_M_write_239 (v := (nI 46)) rfl ?_
          refine tq_VW ⟨hx, hb, hml, hown, hts⟩ hT (c_M_put l D ci am g th fo hs mi hi tx1  (L := [tt_dg yy 1, 32, tt_dg dy 100, tt_dg dy 10, tt_dg dy 1, 32, tt_dg (mk / 60) 10, tt_dg (mk / 60) 1, 58, tt_dg (mk % 60) 10, tt_dg (mk % 60) 1, 32, 72, 73, 71, 72, 32, 45, tt_dg (zz.natAbs / 10000) 10, tt_dg (zz.natAbs / 10000) 1]) (n := 20) rfl hTX (Nat.le_of_ble_eq_true rfl) 46) lk_M_129 wMD_mv ⟨hK, hg, hM, hD⟩ (wM_rc hK hM) rfl hl.1 rfl (Nat.le_of_ble_eq_true rfl) d_M_write_241 ⟨rfl, rfl, Nat.le_of_ble_eq_true rfl, Nat.le_of_ble_eq_true rfl⟩ ⟨Nat.zero_le _, Nat.zero_le _⟩ hL (fun v9 H1 locs1 hF9 hL => ?_)
          obtain ⟨rfl, tx1, hM, hTX, hO9⟩ := hF9
          have hO := hO.tr hO9
          have hTX : tt_TX [tt_dg yy 1, 32, tt_dg dy 100, tt_dg dy 10, tt_dg dy 1, 32, tt_dg (mk / 60) 10, tt_dg (mk / 60) 1, 58, tt_dg (mk % 60) 10, tt_dg (mk % 60) 1, 32, 72, 73, 71, 72, 32, 45, tt_dg (zz.natAbs / 10000) 10, tt_dg (zz.natAbs / 10000) 1, 46] tx1 := hTX
          have hM : tm D ci am g th fo (nI 21) hs mi hi tx1 H1 := hM
          refine lv_aload_n hx hb d_M_write_244 rfl (lv_at hl 3 rfl) ?_
          refine lv_iload hx hb d_M_write_245 (lv_at hl 1 rfl) ?_
          refine lv_sipush hx hb d_M_write_247 (v := (nI 10000)) rfl ?_
          refine lv_irem hx hb d_M_write_250 (by decide) ?_
          refine tq_ti (show _ = (nI (zz.natAbs % 10000)) from pk_rem (by omega) (by decide) (by decide)) ?_
          refine lv_iconst hx hb d_M_write_251 (v := (nI 4)) rfl ?_
          refine tq_VW ⟨hx, hb, hml, hown, hts⟩ hT (c_M_putDigits4 l D ci am g th fo hs mi hi tx1  (L := [tt_dg yy 1, 32, tt_dg dy 100, tt_dg dy 10, tt_dg dy 1, 32, tt_dg (mk / 60) 10, tt_dg (mk / 60) 1, 58, tt_dg (mk % 60) 10, tt_dg (mk % 60) 1, 32, 72, 73, 71, 72, 32, 45, tt_dg (zz.natAbs / 10000) 10, tt_dg (zz.natAbs / 10000) 1, 46]) (n := 21) rfl hTX (Nat.le_of_ble_eq_true rfl) (v := (zz.natAbs % 10000)) (by omega)) lk_M_132 wMD_mv ⟨hK, hg, hM, hD⟩ (wM_rc hK hM) rfl hl.1 rfl (Nat.le_of_ble_eq_true rfl) d_M_write_252 ⟨rfl, rfl, Nat.le_of_ble_eq_true rfl, Nat.le_of_ble_eq_true rfl⟩ ⟨Nat.zero_le _, Nat.zero_le _⟩ hL (fun v9 H1 locs1 hF9 hL => ?_)
          obtain ⟨rfl, tx1, hM, hTX, hO9⟩ := hF9
          have hO := hO.tr hO9
          have hTX : tt_TX [tt_dg yy 1, 32, tt_dg dy 100, tt_dg dy 10, tt_dg dy 1, 32, tt_dg (mk / 60) 10, tt_dg (mk / 60) 1, 58, tt_dg (mk % 60) 10, tt_dg (mk % 60) 1, 32, 72, 73, 71, 72, 32, 45, tt_dg (zz.natAbs / 10000) 10, tt_dg (zz.natAbs / 10000) 1, 46, tt_dg (zz.natAbs % 10000) 1000, tt_dg (zz.natAbs % 10000) 100, tt_dg (zz.natAbs % 10000) 10, tt_dg (zz.natAbs % 10000) 1] tx1 := hTX
          have hM : tm D ci am g th fo (nI 25) hs mi hi tx1 H1 := hM
          have e2 : tt_ht zz = [45, tt_dg (zz.natAbs / 10000) 10, tt_dg (zz.natAbs / 10000) 1, 46, tt_dg (zz.natAbs % 10000) 1000, tt_dg (zz.natAbs % 10000) 100, tt_dg (zz.natAbs % 10000) 10, tt_dg (zz.natAbs % 10000) 1] := by unfold tt_ht tt_wd; rw [if_pos h2, if_neg h3, if_pos h4]; rfl
          have e3 : tt_line g dd k = [tt_dg yy 1, 32, tt_dg dy 100, tt_dg dy 10, tt_dg dy 1, 32, tt_dg (mk / 60) 10, tt_dg (mk / 60) 1, 58, tt_dg (mk % 60) 10, tt_dg (mk % 60) 1, 32, 72, 73, 71, 72, 32, 45, tt_dg (zz.natAbs / 10000) 10, tt_dg (zz.natAbs / 10000) 1, 46, tt_dg (zz.natAbs % 10000) 1000, tt_dg (zz.natAbs % 10000) 100, tt_dg (zz.natAbs % 10000) 10, tt_dg (zz.natAbs % 10000) 1] := by rw [hln]; show tt_hd yy dy mk ++ tt_kd _ ++ tt_ht zz = _; rw [e1, e2]; rfl
          exact W.vret hx hb hr (fun t ht hW => ⟨_, rfl, rfl, tx1, by rw [ht, e3]; exact hM, by rw [e3]; exact hTX, by rw [ht]; exact hO⟩) hL d_M_write_255
      · have h3 : zz.natAbs / 10000 < 10 := (nI_ltI (by omega) (by decide)).mp (by rw [Int32.not_le] at h3; exact h3)
        refine lv_iconst hx hb d_M_write_219 (v := (nI 1)) rfl ?_
        refine lv_goto hx hb d_M_write_220 (tgt := 235) (by decide) ?_
        refine tq_VW ⟨hx, hb, hml, hown, hts⟩ hT (c_M_putDigits1 l D ci am g th fo hs mi hi tx1  (L := [tt_dg yy 1, 32, tt_dg dy 100, tt_dg dy 10, tt_dg dy 1, 32, tt_dg (mk / 60) 10, tt_dg (mk / 60) 1, 58, tt_dg (mk % 60) 10, tt_dg (mk % 60) 1, 32, 72, 73, 71, 72, 32, 45]) (n := 18) rfl hTX (Nat.le_of_ble_eq_true rfl) (v := (zz.natAbs / 10000)) (by omega)) lk_M_132 wMD_mv ⟨hK, hg, hM, hD⟩ (wM_rc hK hM) rfl hl.1 rfl (Nat.le_of_ble_eq_true rfl) d_M_write_235 ⟨rfl, rfl, Nat.le_of_ble_eq_true rfl, Nat.le_of_ble_eq_true rfl⟩ ⟨Nat.zero_le _, Nat.zero_le _⟩ hL (fun v9 H1 locs1 hF9 hL => ?_)
        obtain ⟨rfl, tx1, hM, hTX, hO9⟩ := hF9
        have hO := hO.tr hO9
        have hTX : tt_TX [tt_dg yy 1, 32, tt_dg dy 100, tt_dg dy 10, tt_dg dy 1, 32, tt_dg (mk / 60) 10, tt_dg (mk / 60) 1, 58, tt_dg (mk % 60) 10, tt_dg (mk % 60) 1, 32, 72, 73, 71, 72, 32, 45, tt_dg (zz.natAbs / 10000) 1] tx1 := hTX
        have hM : tm D ci am g th fo (nI 19) hs mi hi tx1 H1 := hM
        refine lv_aload_n hx hb d_M_write_238 rfl (lv_at hl 3 rfl) ?_
        refine lv_bipush hx hb d_M_write_239 (v := (nI 46)) rfl ?_
        refine tq_VW ⟨hx, hb, hml, hown, hts⟩ hT (c_M_put l D ci am g th fo hs mi hi tx1  (L := [tt_dg yy 1, 32, tt_dg dy 100, tt_dg dy 10, tt_dg dy 1, 32, tt_dg (mk / 60) 10, tt_dg (mk / 60) 1, 58, tt_dg (mk % 60) 10, tt_dg (mk % 60) 1, 32, 72, 73, 71, 72, 32, 45, tt_dg (zz.natAbs / 10000) 1]) (n := 19) rfl hTX (Nat.le_of_ble_eq_true rfl) 46) lk_M_129 wMD_mv ⟨hK, hg, hM, hD⟩ (wM_rc hK hM) rfl hl.1 rfl (Nat.le_of_ble_eq_true rfl) d_M_write_241 ⟨rfl, rfl, Nat.le_of_ble_eq_true rfl, Nat.le_of_ble_eq_true rfl⟩ ⟨Nat.zero_le _, Nat.zero_le _⟩ hL (fun v9 H1 locs1 hF9 hL => ?_)
        obtain ⟨rfl, tx1, hM, hTX, hO9⟩ := hF9
        have hO := hO.tr hO9
        have hTX : tt_TX [tt_dg yy 1, 32, tt_dg dy 100, tt_dg dy 10, tt_dg dy 1, 32, tt_dg (mk / 60) 10, tt_dg (mk / 60) 1, 58, tt_dg (mk % 60) 10, tt_dg (mk % 60) 1, 32, 72, 73, 71, 72, 32, 45, tt_dg (zz.natAbs / 10000) 1, 46] tx1 := hTX
        have hM : tm D ci am g th fo (nI 20) hs mi hi tx1 H1 := hM
        refine lv_aload_n hx hb d_M_write_244 rfl (lv_at hl 3 rfl) ?_
        refine lv_iload hx hb d_M_write_245 (lv_at hl 1 rfl) ?_
        refine lv_sipush hx hb d_M_write_247 (v := (nI 10000)) rfl ?_
        refine lv_irem hx hb d_M_write_250 (by decide) ?_
        refine tq_ti (show _ = (nI (zz.natAbs % 10000)) from pk_rem (by omega) (by decide) (by decide)) ?_
        refine lv_iconst hx hb d_M_write_251 (v := (nI 4)) rfl ?_
        refine tq_VW ⟨hx, hb, hml, hown, hts⟩ hT (c_M_putDigits4 l D ci am g th fo hs mi hi tx1  (L := [tt_dg yy 1, 32, tt_dg dy 100, tt_dg dy 10, tt_dg dy 1, 32, tt_dg (mk / 60) 10, tt_dg (mk / 60) 1, 58, tt_dg (mk % 60) 10, tt_dg (mk % 60) 1, 32, 72, 73, 71, 72, 32, 45, tt_dg (zz.natAbs / 10000) 1, 46]) (n := 20) rfl hTX (Nat.le_of_ble_eq_true rfl) (v := (zz.natAbs % 10000)) (by omega)) lk_M_132 wMD_mv ⟨hK, hg, hM, hD⟩ (wM_rc hK hM) rfl hl.1 rfl (Nat.le_of_ble_eq_true rfl) d_M_write_252 ⟨rfl, rfl, Nat.le_of_ble_eq_true rfl, Nat.le_of_ble_eq_true rfl⟩ ⟨Nat.zero_le _, Nat.zero_le _⟩ hL (fun v9 H1 locs1 hF9 hL => ?_)
        obtain ⟨rfl, tx1, hM, hTX, hO9⟩ := hF9
        have hO := hO.tr hO9
        have hTX : tt_TX [tt_dg yy 1, 32, tt_dg dy 100, tt_dg dy 10, tt_dg dy 1, 32, tt_dg (mk / 60) 10, tt_dg (mk / 60) 1, 58, tt_dg (mk % 60) 10, tt_dg (mk % 60) 1, 32, 72, 73, 71, 72, 32, 45, tt_dg (zz.natAbs / 10000) 1, 46, tt_dg (zz.natAbs % 10000) 1000, tt_dg (zz.natAbs % 10000) 100, tt_dg (zz.natAbs % 10000) 10, tt_dg (zz.natAbs % 10000) 1] tx1 := hTX
        have hM : tm D ci am g th fo (nI 24) hs mi hi tx1 H1 := hM
        have e2 : tt_ht zz = [45, tt_dg (zz.natAbs / 10000) 1, 46, tt_dg (zz.natAbs % 10000) 1000, tt_dg (zz.natAbs % 10000) 100, tt_dg (zz.natAbs % 10000) 10, tt_dg (zz.natAbs % 10000) 1] := by unfold tt_ht tt_wd; rw [if_pos h2, if_pos h3]; rfl
        have e3 : tt_line g dd k = [tt_dg yy 1, 32, tt_dg dy 100, tt_dg dy 10, tt_dg dy 1, 32, tt_dg (mk / 60) 10, tt_dg (mk / 60) 1, 58, tt_dg (mk % 60) 10, tt_dg (mk % 60) 1, 32, 72, 73, 71, 72, 32, 45, tt_dg (zz.natAbs / 10000) 1, 46, tt_dg (zz.natAbs % 10000) 1000, tt_dg (zz.natAbs % 10000) 100, tt_dg (zz.natAbs % 10000) 10, tt_dg (zz.natAbs % 10000) 1] := by rw [hln]; show tt_hd yy dy mk ++ tt_kd _ ++ tt_ht zz = _; rw [e1, e2]; rfl
        exact W.vret hx hb hr (fun t ht hW => ⟨_, rfl, rfl, tx1, by rw [ht, e3]; exact hM, by rw [e3]; exact hTX, by rw [ht]; exact hO⟩) hL d_M_write_255
  · have hhi : hi k = nI 0 := by rw [hhi, zb, if_neg hh]; rfl
    have e1 : tt_kd (decide (tt_dh g dd (((tt_L (tt_dh g dd) 1440).getD k 0) - 1) < tt_dh g dd ((tt_L (tt_dh g dd) 1440).getD k 0))) = [32, 76, 79, 87, 32] := by rw [decide_eq_false hh]; rfl
    refine lv_aload_n hx hb d_M_write_81 rfl (lv_at hl 1 rfl) ?_
    refine lv_aload_n hx hb d_M_write_82 rfl (lv_at hl 1 rfl) ?_
    refine va_get hx hb hts (fun w h => hT w (uM_in w h)) hown hK hM 0 rfl rfl 11 (by decide) (hts _ (hT _ k_M_35)) (fun _ h => h) rfl d_M_write_83 ?_
    refine lv_iload_n hx hb d_M_write_86 rfl (lv_at hl 3 rfl) ?_
    refine tq_zald hx hb hK hM 9 4 rfl rfl (show k < 1440 by omega) (by decide) d_M_write_87 ?_
    refine tq_ti (show _ = (nI 0) from hhi) ?_
    refine lv_if_eq hx hb d_M_write_88 (tgt := 96) (by decide) (fun _ => ?_) (fun hno => absurd (by decide) hno)
    refine lv_bipush hx hb d_M_write_96 (v := (nI 76)) rfl ?_
    refine tq_VW ⟨hx, hb, hml, hown, hts⟩ hT (c_M_put l D ci am g th fo hs mi hi tx1  (L := [tt_dg yy 1, 32, tt_dg dy 100, tt_dg dy 10, tt_dg dy 1, 32, tt_dg (mk / 60) 10, tt_dg (mk / 60) 1, 58, tt_dg (mk % 60) 10, tt_dg (mk % 60) 1, 32]) (n := 12) rfl hTX (Nat.le_of_ble_eq_true rfl) 76) lk_M_129 wMD_mv ⟨hK, hg, hM, hD⟩ (wM_rc hK hM) rfl hl.1 rfl (Nat.le_of_ble_eq_true rfl) d_M_write_98 ⟨rfl, rfl, Nat.le_of_ble_eq_true rfl, Nat.le_of_ble_eq_true rfl⟩ ⟨Nat.zero_le _, Nat.zero_le _⟩ hL (fun v9 H1 locs1 hF9 hL => ?_)
    obtain ⟨rfl, tx1, hM, hTX, hO9⟩ := hF9
    have hO := hO.tr hO9
    have hTX : tt_TX [tt_dg yy 1, 32, tt_dg dy 100, tt_dg dy 10, tt_dg dy 1, 32, tt_dg (mk / 60) 10, tt_dg (mk / 60) 1, 58, tt_dg (mk % 60) 10, tt_dg (mk % 60) 1, 32, 76] tx1 := hTX
    have hM : tm D ci am g th fo (nI 13) hs mi hi tx1 H1 := hM
    refine lv_aload_n hx hb d_M_write_101 rfl (lv_at hl 1 rfl) ?_
    refine lv_aload_n hx hb d_M_write_102 rfl (lv_at hl 1 rfl) ?_
    refine va_get hx hb hts (fun w h => hT w (uM_in w h)) hown hK hM 0 rfl rfl 11 (by decide) (hts _ (hT _ k_M_35)) (fun _ h => h) rfl d_M_write_103 ?_
    refine lv_iload_n hx hb d_M_write_106 rfl (lv_at hl 3 rfl) ?_
    refine tq_zald hx hb hK hM 9 4 rfl rfl (show k < 1440 by omega) (by decide) d_M_write_107 ?_
    refine tq_ti (show _ = (nI 0) from hhi) ?_
    refine lv_if_eq hx hb d_M_write_108 (tgt := 116) (by decide) (fun _ => ?_) (fun hno => absurd (by decide) hno)
    refine lv_bipush hx hb d_M_write_116 (v := (nI 79)) rfl ?_
    refine tq_VW ⟨hx, hb, hml, hown, hts⟩ hT (c_M_put l D ci am g th fo hs mi hi tx1  (L := [tt_dg yy 1, 32, tt_dg dy 100, tt_dg dy 10, tt_dg dy 1, 32, tt_dg (mk / 60) 10, tt_dg (mk / 60) 1, 58, tt_dg (mk % 60) 10, tt_dg (mk % 60) 1, 32, 76]) (n := 13) rfl hTX (Nat.le_of_ble_eq_true rfl) 79) lk_M_129 wMD_mv ⟨hK, hg, hM, hD⟩ (wM_rc hK hM) rfl hl.1 rfl (Nat.le_of_ble_eq_true rfl) d_M_write_118 ⟨rfl, rfl, Nat.le_of_ble_eq_true rfl, Nat.le_of_ble_eq_true rfl⟩ ⟨Nat.zero_le _, Nat.zero_le _⟩ hL (fun v9 H1 locs1 hF9 hL => ?_)
    obtain ⟨rfl, tx1, hM, hTX, hO9⟩ := hF9
    have hO := hO.tr hO9
    have hTX : tt_TX [tt_dg yy 1, 32, tt_dg dy 100, tt_dg dy 10, tt_dg dy 1, 32, tt_dg (mk / 60) 10, tt_dg (mk / 60) 1, 58, tt_dg (mk % 60) 10, tt_dg (mk % 60) 1, 32, 76, 79] tx1 := hTX
    have hM : tm D ci am g th fo (nI 14) hs mi hi tx1 H1 := hM
    refine lv_aload_n hx hb d_M_write_121 rfl (lv_at hl 1 rfl) ?_
    refine lv_aload_n hx hb d_M_write_122 rfl (lv_at hl 1 rfl) ?_
    refine va_get hx hb hts (fun w h => hT w (uM_in w h)) hown hK hM 0 rfl rfl 11 (by decide) (hts _ (hT _ k_M_35)) (fun _ h => h) rfl d_M_write_123 ?_
    refine lv_iload_n hx hb d_M_write_126 rfl (lv_at hl 3 rfl) ?_
    refine tq_zald hx hb hK hM 9 4 rfl rfl (show k < 1440 by omega) (by decide) d_M_write_127 ?_
    refine tq_ti (show _ = (nI 0) from hhi) ?_
    refine lv_if_eq hx hb d_M_write_128 (tgt := 136) (by decide) (fun _ => ?_) (fun hno => absurd (by decide) hno)
    refine lv_bipush hx hb d_M_write_136 (v := (nI 87)) rfl ?_
    refine tq_VW ⟨hx, hb, hml, hown, hts⟩ hT (c_M_put l D ci am g th fo hs mi hi tx1  (L := [tt_dg yy 1, 32, tt_dg dy 100, tt_dg dy 10, tt_dg dy 1, 32, tt_dg (mk / 60) 10, tt_dg (mk / 60) 1, 58, tt_dg (mk % 60) 10, tt_dg (mk % 60) 1, 32, 76, 79]) (n := 14) rfl hTX (Nat.le_of_ble_eq_true rfl) 87) lk_M_129 wMD_mv ⟨hK, hg, hM, hD⟩ (wM_rc hK hM) rfl hl.1 rfl (Nat.le_of_ble_eq_true rfl) d_M_write_138 ⟨rfl, rfl, Nat.le_of_ble_eq_true rfl, Nat.le_of_ble_eq_true rfl⟩ ⟨Nat.zero_le _, Nat.zero_le _⟩ hL (fun v9 H1 locs1 hF9 hL => ?_)
    obtain ⟨rfl, tx1, hM, hTX, hO9⟩ := hF9
    have hO := hO.tr hO9
    have hTX : tt_TX [tt_dg yy 1, 32, tt_dg dy 100, tt_dg dy 10, tt_dg dy 1, 32, tt_dg (mk / 60) 10, tt_dg (mk / 60) 1, 58, tt_dg (mk % 60) 10, tt_dg (mk % 60) 1, 32, 76, 79, 87] tx1 := hTX
    have hM : tm D ci am g th fo (nI 15) hs mi hi tx1 H1 := hM
    refine lv_aload_n hx hb d_M_write_141 rfl (lv_at hl 1 rfl) ?_
    refine va_get hx hb hts (fun w h => hT w (uM_in w h)) hown hK hM 0 rfl rfl 11 (by decide) (hts _ (hT _ k_M_35)) (fun _ h => h) rfl d_M_write_142 ?_
    refine lv_iload_n hx hb d_M_write_145 rfl (lv_at hl 3 rfl) ?_
    refine tq_zald hx hb hK hM 9 4 rfl rfl (show k < 1440 by omega) (by decide) d_M_write_146 ?_
    refine tq_ti (show _ = (nI 0) from hhi) ?_
    refine lv_if_eq hx hb d_M_write_147 (tgt := 156) (by decide) (fun _ => ?_) (fun hno => absurd (by decide) hno)
    refine lv_aload_n hx hb d_M_write_156 rfl (lv_at hl 1 rfl) ?_
    refine lv_bipush hx hb d_M_write_157 (v := (nI 32)) rfl ?_
    refine tq_VW ⟨hx, hb, hml, hown, hts⟩ hT (c_M_put l D ci am g th fo hs mi hi tx1  (L := [tt_dg yy 1, 32, tt_dg dy 100, tt_dg dy 10, tt_dg dy 1, 32, tt_dg (mk / 60) 10, tt_dg (mk / 60) 1, 58, tt_dg (mk % 60) 10, tt_dg (mk % 60) 1, 32, 76, 79, 87]) (n := 15) rfl hTX (Nat.le_of_ble_eq_true rfl) 32) lk_M_129 wMD_mv ⟨hK, hg, hM, hD⟩ (wM_rc hK hM) rfl hl.1 rfl (Nat.le_of_ble_eq_true rfl) d_M_write_159 ⟨rfl, rfl, Nat.le_of_ble_eq_true rfl, Nat.le_of_ble_eq_true rfl⟩ ⟨Nat.zero_le _, Nat.zero_le _⟩ hL (fun v9 H1 locs1 hF9 hL => ?_)
    obtain ⟨rfl, tx1, hM, hTX, hO9⟩ := hF9
    have hO := hO.tr hO9
    have hTX : tt_TX [tt_dg yy 1, 32, tt_dg dy 100, tt_dg dy 10, tt_dg dy 1, 32, tt_dg (mk / 60) 10, tt_dg (mk / 60) 1, 58, tt_dg (mk % 60) 10, tt_dg (mk % 60) 1, 32, 76, 79, 87, 32] tx1 := hTX
    have hM : tm D ci am g th fo (nI 16) hs mi hi tx1 H1 := hM
    refine lv_aload_n hx hb d_M_write_162 rfl (lv_at hl 1 rfl) ?_
    refine va_get hx hb hts (fun w h => hT w (uM_in w h)) hown hK hM 0 rfl rfl 8 (by decide) (hts _ (hT _ k_M_29)) (fun _ h => h) rfl d_M_write_163 ?_
    refine lv_aload_n hx hb d_M_write_166 rfl (lv_at hl 1 rfl) ?_
    refine va_get hx hb hts (fun w h => hT w (uM_in w h)) hown hK hM 0 rfl rfl 10 (by decide) (hts _ (hT _ k_M_32)) (fun _ h => h) rfl d_M_write_167 ?_
    refine lv_iload_n hx hb d_M_write_170 rfl (lv_at hl 3 rfl) ?_
    refine tq_iald hx hb hK hM 8 0 rfl rfl (show k < 1440 by omega) (by decide) d_M_write_171 ?_
    refine tq_ti (show _ = (nI mk) from hmi) ?_
    refine tq_iald hx hb hK hM 7 0 rfl rfl hmk (by decide) d_M_write_172 ?_
    refine tq_ti (show _ = (iZ zz) from hhz) ?_
    refine lv_istore hx hb d_M_write_173 hl (by decide) (lv' := [(4, .int (iZ zz)), (3, .int (nI yy)), (0, .ref (am 0)), (1, .int (nI dd)), (2, .int (nI k))]) rfl (fun ls hl => ?_)
    refine lv_iload hx hb d_M_write_175 (lv_at hl 0 rfl) ?_
    refine lv_if_ge hx hb d_M_write_177 (tgt := 186) (by decide) (fun h2 => ?_) (fun h2 => ?_)
    · have h2 : ¬ zz < 0 := by have h8 := iv_ge0.mp h2; rw [iZ_toInt (by omega) (by omega)] at h8; omega
      refine lv_iload hx hb d_M_write_186 (lv_at hl 0 rfl) ?_
      refine lv_if_ge hx hb d_M_write_188 (tgt := 197) (by decide) (fun _ => ?_) (fun hno => absurd (by rw [iv_ge0, iZ_toInt (by omega) (by omega)]; omega) hno)
      refine lv_iload hx hb d_M_write_197 (lv_at hl 0 rfl) ?_
      refine tq_ti (show _ = (nI zz.natAbs) from (by rw [nI_iZ]; congr 1; omega)) ?_
      refine lv_istore hx hb d_M_write_199 hl (by decide) (lv' := [(4, .int (nI zz.natAbs)), (3, .int (nI yy)), (0, .ref (am 0)), (1, .int (nI dd)), (2, .int (nI k))]) rfl (fun ls hl => ?_)
      refine lv_iload hx hb d_M_write_201 (lv_at hl 0 rfl) ?_
      refine lv_sipush hx hb d_M_write_203 (v := (nI 10000)) rfl ?_
      refine lv_idiv hx hb d_M_write_206 (by decide) ?_
      refine tq_ti (show _ = (nI (zz.natAbs / 10000)) from pk_div (by omega) (by decide) (by decide)) ?_
      refine lv_istore hx hb d_M_write_207 hl (by decide) (lv' := [(5, .int (nI (zz.natAbs / 10000))), (4, .int (nI zz.natAbs)), (3, .int (nI yy)), (0, .ref (am 0)), (1, .int (nI dd)), (2, .int (nI k))]) rfl (fun ls hl => ?_)
      refine lv_aload_n hx hb d_M_write_209 rfl (lv_at hl 3 rfl) ?_
      refine lv_iload hx hb d_M_write_210 (lv_at hl 0 rfl) ?_
      refine lv_iload hx hb d_M_write_212 (lv_at hl 0 rfl) ?_
      refine lv_bipush hx hb d_M_write_214 (v := (nI 10)) rfl ?_
      refine lv_icmp_ge hx hb d_M_write_216 (tgt := 223) (by decide) (fun h3 => ?_) (fun h3 => ?_)
      · have h3 : ¬ zz.natAbs / 10000 < 10 := fun h => absurd ((nI_ltI (by omega) (by decide)).mpr h) (by rw [Int32.not_lt]; exact h3)
        refine lv_iload hx hb d_M_write_223 (lv_at hl 0 rfl) ?_
        refine lv_bipush hx hb d_M_write_225 (v := (nI 100)) rfl ?_
        refine lv_icmp_ge hx hb d_M_write_227 (tgt := 234) (by decide) (fun h4 => ?_) (fun h4 => ?_)
        · have h4 : ¬ zz.natAbs / 10000 < 100 := fun h => absurd ((nI_ltI (by omega) (by decide)).mpr h) (by rw [Int32.not_lt]; exact h4)
          refine lv_iconst hx hb d_M_write_234 (v := (nI 3)) rfl ?_
          refine tq_VW ⟨hx, hb, hml, hown, hts⟩ hT (c_M_putDigits3 l D ci am g th fo hs mi hi tx1  (L := [tt_dg yy 1, 32, tt_dg dy 100, tt_dg dy 10, tt_dg dy 1, 32, tt_dg (mk / 60) 10, tt_dg (mk / 60) 1, 58, tt_dg (mk % 60) 10, tt_dg (mk % 60) 1, 32, 76, 79, 87, 32]) (n := 16) rfl hTX (Nat.le_of_ble_eq_true rfl) (v := (zz.natAbs / 10000)) (by omega)) lk_M_132 wMD_mv ⟨hK, hg, hM, hD⟩ (wM_rc hK hM) rfl hl.1 rfl (Nat.le_of_ble_eq_true rfl) d_M_write_235 ⟨rfl, rfl, Nat.le_of_ble_eq_true rfl, Nat.le_of_ble_eq_true rfl⟩ ⟨Nat.zero_le _, Nat.zero_le _⟩ hL (fun v9 H1 locs1 hF9 hL => ?_)
          obtain ⟨rfl, tx1, hM, hTX, hO9⟩ := hF9
          have hO := hO.tr hO9
          have hTX : tt_TX [tt_dg yy 1, 32, tt_dg dy 100, tt_dg dy 10, tt_dg dy 1, 32, tt_dg (mk / 60) 10, tt_dg (mk / 60) 1, 58, tt_dg (mk % 60) 10, tt_dg (mk % 60) 1, 32, 76, 79, 87, 32, tt_dg (zz.natAbs / 10000) 100, tt_dg (zz.natAbs / 10000) 10, tt_dg (zz.natAbs / 10000) 1] tx1 := hTX
          have hM : tm D ci am g th fo (nI 19) hs mi hi tx1 H1 := hM
          refine lv_aload_n hx hb d_M_write_238 rfl (lv_at hl 3 rfl) ?_
          refine lv_bipush hx hb d_M_write_239 (v := (nI 46)) rfl ?_
          refine tq_VW ⟨hx, hb, hml, hown, hts⟩ hT (c_M_put l D ci am g th fo hs mi hi tx1  (L := [tt_dg yy 1, 32, tt_dg dy 100, tt_dg dy 10, tt_dg dy 1, 32, tt_dg (mk / 60) 10, tt_dg (mk / 60) 1, 58, tt_dg (mk % 60) 10, tt_dg (mk % 60) 1, 32, 76, 79, 87, 32, tt_dg (zz.natAbs / 10000) 100, tt_dg (zz.natAbs / 10000) 10, tt_dg (zz.natAbs / 10000) 1]) (n := 19) rfl hTX (Nat.le_of_ble_eq_true rfl) 46) lk_M_129 wMD_mv ⟨hK, hg, hM, hD⟩ (wM_rc hK hM) rfl hl.1 rfl (Nat.le_of_ble_eq_true rfl) d_M_write_241 ⟨rfl, rfl, Nat.le_of_ble_eq_true rfl, Nat.le_of_ble_eq_true rfl⟩ ⟨Nat.zero_le _, Nat.zero_le _⟩ hL (fun v9 H1 locs1 hF9 hL => ?_)
          obtain ⟨rfl, tx1, hM, hTX, hO9⟩ := hF9
          have hO := hO.tr hO9
          have hTX : tt_TX [tt_dg yy 1, 32, tt_dg dy 100, tt_dg dy 10, tt_dg dy 1, 32, tt_dg (mk / 60) 10, tt_dg (mk / 60) 1, 58, tt_dg (mk % 60) 10, tt_dg (mk % 60) 1, 32, 76, 79, 87, 32, tt_dg (zz.natAbs / 10000) 100, tt_dg (zz.natAbs / 10000) 10, tt_dg (zz.natAbs / 10000) 1, 46] tx1 := hTX
          have hM : tm D ci am g th fo (nI 20) hs mi hi tx1 H1 := hM
          refine lv_aload_n hx hb d_M_write_244 rfl (lv_at hl 3 rfl) ?_
          refine lv_iload hx hb d_M_write_245 (lv_at hl 1 rfl) ?_
          refine lv_sipush hx hb d_M_write_247 (v := (nI 10000)) rfl ?_
          refine lv_irem hx hb d_M_write_250 (by decide) ?_
          refine tq_ti (show _ = (nI (zz.natAbs % 10000)) from pk_rem (by omega) (by decide) (by decide)) ?_
          refine lv_iconst hx hb d_M_write_251 (v := (nI 4)) rfl ?_
          refine tq_VW ⟨hx, hb, hml, hown, hts⟩ hT (c_M_putDigits4 l D ci am g th fo hs mi hi tx1  (L := [tt_dg yy 1, 32, tt_dg dy 100, tt_dg dy 10, tt_dg dy 1, 32, tt_dg (mk / 60) 10, tt_dg (mk / 60) 1, 58, tt_dg (mk % 60) 10, tt_dg (mk % 60) 1, 32, 76, 79, 87, 32, tt_dg (zz.natAbs / 10000) 100, tt_dg (zz.natAbs / 10000) 10, tt_dg (zz.natAbs / 10000) 1, 46]) (n := 20) rfl hTX (Nat.le_of_ble_eq_true rfl) (v := (zz.natAbs % 10000)) (by omega)) lk_M_132 wMD_mv ⟨hK, hg, hM, hD⟩ (wM_rc hK hM) rfl hl.1 rfl (Nat.le_of_ble_eq_true rfl) d_M_write_252 ⟨rfl, rfl, Nat.le_of_ble_eq_true rfl, Nat.le_of_ble_eq_true rfl⟩ ⟨Nat.zero_le _, Nat.zero_le _⟩ hL (fun v9 H1 locs1 hF9 hL => ?_)
          obtain ⟨rfl, tx1, hM, hTX, hO9⟩ := hF9
          have hO := hO.tr hO9
          have hTX : tt_TX [tt_dg yy 1, 32, tt_dg dy 100, tt_dg dy 10, tt_dg dy 1, 32, tt_dg (mk / 60) 10, tt_dg (mk / 60) 1, 58, tt_dg (mk % 60) 10, tt_dg (mk % 60) 1, 32, 76, 79, 87, 32, tt_dg (zz.natAbs / 10000) 100, tt_dg (zz.natAbs / 10000) 10, tt_dg (zz.natAbs / 10000) 1, 46, tt_dg (zz.natAbs % 10000) 1000, tt_dg (zz.natAbs % 10000) 100, tt_dg (zz.natAbs % 10000) 10, tt_dg (zz.natAbs % 10000) 1] tx1 := hTX
          have hM : tm D ci am g th fo (nI 24) hs mi hi tx1 H1 := hM
          have e2 : tt_ht zz = [tt_dg (zz.natAbs / 10000) 100, tt_dg (zz.natAbs / 10000) 10, tt_dg (zz.natAbs / 10000) 1, 46, tt_dg (zz.natAbs % 10000) 1000, tt_dg (zz.natAbs % 10000) 100, tt_dg (zz.natAbs % 10000) 10, tt_dg (zz.natAbs % 10000) 1] := by unfold tt_ht tt_wd; rw [if_neg h2, if_neg h3, if_neg h4]; rfl
          have e3 : tt_line g dd k = [tt_dg yy 1, 32, tt_dg dy 100, tt_dg dy 10, tt_dg dy 1, 32, tt_dg (mk / 60) 10, tt_dg (mk / 60) 1, 58, tt_dg (mk % 60) 10, tt_dg (mk % 60) 1, 32, 76, 79, 87, 32, tt_dg (zz.natAbs / 10000) 100, tt_dg (zz.natAbs / 10000) 10, tt_dg (zz.natAbs / 10000) 1, 46, tt_dg (zz.natAbs % 10000) 1000, tt_dg (zz.natAbs % 10000) 100, tt_dg (zz.natAbs % 10000) 10, tt_dg (zz.natAbs % 10000) 1] := by rw [hln]; show tt_hd yy dy mk ++ tt_kd _ ++ tt_ht zz = _; rw [e1, e2]; rfl
          exact W.vret hx hb hr (fun t ht hW => ⟨_, rfl, rfl, tx1, by rw [ht, e3]; exact hM, by rw [e3]; exact hTX, by rw [ht]; exact hO⟩) hL d_M_write_255
        · have h4 : zz.natAbs / 10000 < 100 := (nI_ltI (by omega) (by decide)).mp (by rw [Int32.not_le] at h4; exact h4)
          refine lv_iconst hx hb d_M_write_230 (v := (nI 2)) rfl ?_
          refine lv_goto hx hb d_M_write_231 (tgt := 235) (by decide) ?_
          refine tq_VW ⟨hx, hb, hml, hown, hts⟩ hT (c_M_putDigits2 l D ci am g th fo hs mi hi tx1  (L := [tt_dg yy 1, 32, tt_dg dy 100, tt_dg dy 10, tt_dg dy 1, 32, tt_dg (mk / 60) 10, tt_dg (mk / 60) 1, 58, tt_dg (mk % 60) 10, tt_dg (mk % 60) 1, 32, 76, 79, 87, 32]) (n := 16) rfl hTX (Nat.le_of_ble_eq_true rfl) (v := (zz.natAbs / 10000)) (by omega)) lk_M_132 wMD_mv ⟨hK, hg, hM, hD⟩ (wM_rc hK hM) rfl hl.1 rfl (Nat.le_of_ble_eq_true rfl) d_M_write_235 ⟨rfl, rfl, Nat.le_of_ble_eq_true rfl, Nat.le_of_ble_eq_true rfl⟩ ⟨Nat.zero_le _, Nat.zero_le _⟩ hL (fun v9 H1 locs1 hF9 hL => ?_)
          obtain ⟨rfl, tx1, hM, hTX, hO9⟩ := hF9
          have hO := hO.tr hO9
          have hTX : tt_TX [tt_dg yy 1, 32, tt_dg dy 100, tt_dg dy 10, tt_dg dy 1, 32, tt_dg (mk / 60) 10, tt_dg (mk / 60) 1, 58, tt_dg (mk % 60) 10, tt_dg (mk % 60) 1, 32, 76, 79, 87, 32, tt_dg (zz.natAbs / 10000) 10, tt_dg (zz.natAbs / 10000) 1] tx1 := hTX
          have hM : tm D ci am g th fo (nI 18) hs mi hi tx1 H1 := hM
          refine lv_aload_n hx hb d_M_write_238 rfl (lv_at hl 3 rfl) ?_
          refine lv_bipush hx hb d_M_write_239 (v := (nI 46)) rfl ?_
          refine tq_VW ⟨hx, hb, hml, hown, hts⟩ hT (c_M_put l D ci am g th fo hs mi hi tx1  (L := [tt_dg yy 1, 32, tt_dg dy 100, tt_dg dy 10, tt_dg dy 1, 32, tt_dg (mk / 60) 10, tt_dg (mk / 60) 1, 58, tt_dg (mk % 60) 10, tt_dg (mk % 60) 1, 32, 76, 79, 87, 32, tt_dg (zz.natAbs / 10000) 10, tt_dg (zz.natAbs / 10000) 1]) (n := 18) rfl hTX (Nat.le_of_ble_eq_true rfl) 46) lk_M_129 wMD_mv ⟨hK, hg, hM, hD⟩ (wM_rc hK hM) rfl hl.1 rfl (Nat.le_of_ble_eq_true rfl) d_M_write_241 ⟨rfl, rfl, Nat.le_of_ble_eq_true rfl, Nat.le_of_ble_eq_true rfl⟩ ⟨Nat.zero_le _, Nat.zero_le _⟩ hL (fun v9 H1 locs1 hF9 hL => ?_)
          obtain ⟨rfl, tx1, hM, hTX, hO9⟩ := hF9
          have hO := hO.tr hO9
          have hTX : tt_TX [tt_dg yy 1, 32, tt_dg dy 100, tt_dg dy 10, tt_dg dy 1, 32, tt_dg (mk / 60) 10, tt_dg (mk / 60) 1, 58, tt_dg (mk % 60) 10, tt_dg (mk % 60) 1, 32, 76, 79, 87, 32, tt_dg (zz.natAbs / 10000) 10, tt_dg (zz.natAbs / 10000) 1, 46] tx1 := hTX
          have hM : tm D ci am g th fo (nI 19) hs mi hi tx1 H1 := hM
          refine lv_aload_n hx hb d_M_write_244 rfl (lv_at hl 3 rfl) ?_
          refine lv_iload hx hb d_M_write_245 (lv_at hl 1 rfl) ?_
          refine lv_sipush hx hb d_M_write_247 (v := (nI 10000)) rfl ?_
          refine lv_irem hx hb d_M_write_250 (by decide) ?_
          refine tq_ti (show _ = (nI (zz.natAbs % 10000)) from pk_rem (by omega) (by decide) (by decide)) ?_
          refine lv_iconst hx hb d_M_write_251 (v := (nI 4)) rfl ?_
          refine tq_VW ⟨hx, hb, hml, hown, hts⟩ hT (c_M_putDigits4 l D ci am g th fo hs mi hi tx1  (L := [tt_dg yy 1, 32, tt_dg dy 100, tt_dg dy 10, tt_dg dy 1, 32, tt_dg (mk / 60) 10, tt_dg (mk / 60) 1, 58, tt_dg (mk % 60) 10, tt_dg (mk % 60) 1, 32, 76, 79, 87, 32, tt_dg (zz.natAbs / 10000) 10, tt_dg (zz.natAbs / 10000) 1, 46]) (n := 19) rfl hTX (Nat.le_of_ble_eq_true rfl) (v := (zz.natAbs % 10000)) (by omega)) lk_M_132 wMD_mv ⟨hK, hg, hM, hD⟩ (wM_rc hK hM) rfl hl.1 rfl (Nat.le_of_ble_eq_true rfl) d_M_write_252 ⟨rfl, rfl, Nat.le_of_ble_eq_true rfl, Nat.le_of_ble_eq_true rfl⟩ ⟨Nat.zero_le _, Nat.zero_le _⟩ hL (fun v9 H1 locs1 hF9 hL => ?_)
          obtain ⟨rfl, tx1, hM, hTX, hO9⟩ := hF9
          have hO := hO.tr hO9
          have hTX : tt_TX [tt_dg yy 1, 32, tt_dg dy 100, tt_dg dy 10, tt_dg dy 1, 32, tt_dg (mk / 60) 10, tt_dg (mk / 60) 1, 58, tt_dg (mk % 60) 10, tt_dg (mk % 60) 1, 32, 76, 79, 87, 32, tt_dg (zz.natAbs / 10000) 10, tt_dg (zz.natAbs / 10000) 1, 46, tt_dg (zz.natAbs % 10000) 1000, tt_dg (zz.natAbs % 10000) 100, tt_dg (zz.natAbs % 10000) 10, tt_dg (zz.natAbs % 10000) 1] tx1 := hTX
          have hM : tm D ci am g th fo (nI 23) hs mi hi tx1 H1 := hM
          have e2 : tt_ht zz = [tt_dg (zz.natAbs / 10000) 10, tt_dg (zz.natAbs / 10000) 1, 46, tt_dg (zz.natAbs % 10000) 1000, tt_dg (zz.natAbs % 10000) 100, tt_dg (zz.natAbs % 10000) 10, tt_dg (zz.natAbs % 10000) 1] := by unfold tt_ht tt_wd; rw [if_neg h2, if_neg h3, if_pos h4]; rfl
          have e3 : tt_line g dd k = [tt_dg yy 1, 32, tt_dg dy 100, tt_dg dy 10, tt_dg dy 1, 32, tt_dg (mk / 60) 10, tt_dg (mk / 60) 1, 58, tt_dg (mk % 60) 10, tt_dg (mk % 60) 1, 32, 76, 79, 87, 32, tt_dg (zz.natAbs / 10000) 10, tt_dg (zz.natAbs / 10000) 1, 46, tt_dg (zz.natAbs % 10000) 1000, tt_dg (zz.natAbs % 10000) 100, tt_dg (zz.natAbs % 10000) 10, tt_dg (zz.natAbs % 10000) 1] := by rw [hln]; show tt_hd yy dy mk ++ tt_kd _ ++ tt_ht zz = _; rw [e1, e2]; rfl
          exact W.vret hx hb hr (fun t ht hW => ⟨_, rfl, rfl, tx1, by rw [ht, e3]; exact hM, by rw [e3]; exact hTX, by rw [ht]; exact hO⟩) hL d_M_write_255
      · have h3 : zz.natAbs / 10000 < 10 := (nI_ltI (by omega) (by decide)).mp (by rw [Int32.not_le] at h3; exact h3)
        refine lv_iconst hx hb d_M_write_219 (v := (nI 1)) rfl ?_
        refine lv_goto hx hb d_M_write_220 (tgt := 235) (by decide) ?_
        refine tq_VW ⟨hx, hb, hml, hown, hts⟩ hT (c_M_putDigits1 l D ci am g th fo hs mi hi tx1  (L := [tt_dg yy 1, 32, tt_dg dy 100, tt_dg dy 10, tt_dg dy 1, 32, tt_dg (mk / 60) 10, tt_dg (mk / 60) 1, 58, tt_dg (mk % 60) 10, tt_dg (mk % 60) 1, 32, 76, 79, 87, 32]) (n := 16) rfl hTX (Nat.le_of_ble_eq_true rfl) (v := (zz.natAbs / 10000)) (by omega)) lk_M_132 wMD_mv ⟨hK, hg, hM, hD⟩ (wM_rc hK hM) rfl hl.1 rfl (Nat.le_of_ble_eq_true rfl) d_M_write_235 ⟨rfl, rfl, Nat.le_of_ble_eq_true rfl, Nat.le_of_ble_eq_true rfl⟩ ⟨Nat.zero_le _, Nat.zero_le _⟩ hL (fun v9 H1 locs1 hF9 hL => ?_)
        obtain ⟨rfl, tx1, hM, hTX, hO9⟩ := hF9
        have hO := hO.tr hO9
        have hTX : tt_TX [tt_dg yy 1, 32, tt_dg dy 100, tt_dg dy 10, tt_dg dy 1, 32, tt_dg (mk / 60) 10, tt_dg (mk / 60) 1, 58, tt_dg (mk % 60) 10, tt_dg (mk % 60) 1, 32, 76, 79, 87, 32, tt_dg (zz.natAbs / 10000) 1] tx1 := hTX
        have hM : tm D ci am g th fo (nI 17) hs mi hi tx1 H1 := hM
        refine lv_aload_n hx hb d_M_write_238 rfl (lv_at hl 3 rfl) ?_
        refine lv_bipush hx hb d_M_write_239 (v := (nI 46)) rfl ?_
        refine tq_VW ⟨hx, hb, hml, hown, hts⟩ hT (c_M_put l D ci am g th fo hs mi hi tx1  (L := [tt_dg yy 1, 32, tt_dg dy 100, tt_dg dy 10, tt_dg dy 1, 32, tt_dg (mk / 60) 10, tt_dg (mk / 60) 1, 58, tt_dg (mk % 60) 10, tt_dg (mk % 60) 1, 32, 76, 79, 87, 32, tt_dg (zz.natAbs / 10000) 1]) (n := 17) rfl hTX (Nat.le_of_ble_eq_true rfl) 46) lk_M_129 wMD_mv ⟨hK, hg, hM, hD⟩ (wM_rc hK hM) rfl hl.1 rfl (Nat.le_of_ble_eq_true rfl) d_M_write_241 ⟨rfl, rfl, Nat.le_of_ble_eq_true rfl, Nat.le_of_ble_eq_true rfl⟩ ⟨Nat.zero_le _, Nat.zero_le _⟩ hL (fun v9 H1 locs1 hF9 hL => ?_)
        obtain ⟨rfl, tx1, hM, hTX, hO9⟩ := hF9
        have hO := hO.tr hO9
        have hTX : tt_TX [tt_dg yy 1, 32, tt_dg dy 100, tt_dg dy 10, tt_dg dy 1, 32, tt_dg (mk / 60) 10, tt_dg (mk / 60) 1, 58, tt_dg (mk % 60) 10, tt_dg (mk % 60) 1, 32, 76, 79, 87, 32, tt_dg (zz.natAbs / 10000) 1, 46] tx1 := hTX
        have hM : tm D ci am g th fo (nI 18) hs mi hi tx1 H1 := hM
        refine lv_aload_n hx hb d_M_write_244 rfl (lv_at hl 3 rfl) ?_
        refine lv_iload hx hb d_M_write_245 (lv_at hl 1 rfl) ?_
        refine lv_sipush hx hb d_M_write_247 (v := (nI 10000)) rfl ?_
        refine lv_irem hx hb d_M_write_250 (by decide) ?_
        refine tq_ti (show _ = (nI (zz.natAbs % 10000)) from pk_rem (by omega) (by decide) (by decide)) ?_
        refine lv_iconst hx hb d_M_write_251 (v := (nI 4)) rfl ?_
        refine tq_VW ⟨hx, hb, hml, hown, hts⟩ hT (c_M_putDigits4 l D ci am g th fo hs mi hi tx1  (L := [tt_dg yy 1, 32, tt_dg dy 100, tt_dg dy 10, tt_dg dy 1, 32, tt_dg (mk / 60) 10, tt_dg (mk / 60) 1, 58, tt_dg (mk % 60) 10, tt_dg (mk % 60) 1, 32, 76, 79, 87, 32, tt_dg (zz.natAbs / 10000) 1, 46]) (n := 18) rfl hTX (Nat.le_of_ble_eq_true rfl) (v := (zz.natAbs % 10000)) (by omega)) lk_M_132 wMD_mv ⟨hK, hg, hM, hD⟩ (wM_rc hK hM) rfl hl.1 rfl (Nat.le_of_ble_eq_true rfl) d_M_write_252 ⟨rfl, rfl, Nat.le_of_ble_eq_true rfl, Nat.le_of_ble_eq_true rfl⟩ ⟨Nat.zero_le _, Nat.zero_le _⟩ hL (fun v9 H1 locs1 hF9 hL => ?_)
        obtain ⟨rfl, tx1, hM, hTX, hO9⟩ := hF9
        have hO := hO.tr hO9
        have hTX : tt_TX [tt_dg yy 1, 32, tt_dg dy 100, tt_dg dy 10, tt_dg dy 1, 32, tt_dg (mk / 60) 10, tt_dg (mk / 60) 1, 58, tt_dg (mk % 60) 10, tt_dg (mk % 60) 1, 32, 76, 79, 87, 32, tt_dg (zz.natAbs / 10000) 1, 46, tt_dg (zz.natAbs % 10000) 1000, tt_dg (zz.natAbs % 10000) 100, tt_dg (zz.natAbs % 10000) 10, tt_dg (zz.natAbs % 10000) 1] tx1 := hTX
        have hM : tm D ci am g th fo (nI 22) hs mi hi tx1 H1 := hM
        have e2 : tt_ht zz = [tt_dg (zz.natAbs / 10000) 1, 46, tt_dg (zz.natAbs % 10000) 1000, tt_dg (zz.natAbs % 10000) 100, tt_dg (zz.natAbs % 10000) 10, tt_dg (zz.natAbs % 10000) 1] := by unfold tt_ht tt_wd; rw [if_neg h2, if_pos h3]; rfl
        have e3 : tt_line g dd k = [tt_dg yy 1, 32, tt_dg dy 100, tt_dg dy 10, tt_dg dy 1, 32, tt_dg (mk / 60) 10, tt_dg (mk / 60) 1, 58, tt_dg (mk % 60) 10, tt_dg (mk % 60) 1, 32, 76, 79, 87, 32, tt_dg (zz.natAbs / 10000) 1, 46, tt_dg (zz.natAbs % 10000) 1000, tt_dg (zz.natAbs % 10000) 100, tt_dg (zz.natAbs % 10000) 10, tt_dg (zz.natAbs % 10000) 1] := by rw [hln]; show tt_hd yy dy mk ++ tt_kd _ ++ tt_ht zz = _; rw [e1, e2]; rfl
        exact W.vret hx hb hr (fun t ht hW => ⟨_, rfl, rfl, tx1, by rw [ht, e3]; exact hM, by rw [e3]; exact hTX, by rw [ht]; exact hO⟩) hL d_M_write_255
    · have h2 : zz < 0 := by have h8 := mt iv_ge0.mpr h2; rw [iZ_toInt (by omega) (by omega)] at h8; omega
      refine lv_aload_n hx hb d_M_write_180 rfl (lv_at hl 2 rfl) ?_
      refine lv_bipush hx hb d_M_write_181 (v := (nI 45)) rfl ?_
      refine tq_VW ⟨hx, hb, hml, hown, hts⟩ hT (c_M_put l D ci am g th fo hs mi hi tx1  (L := [tt_dg yy 1, 32, tt_dg dy 100, tt_dg dy 10, tt_dg dy 1, 32, tt_dg (mk / 60) 10, tt_dg (mk / 60) 1, 58, tt_dg (mk % 60) 10, tt_dg (mk % 60) 1, 32, 76, 79, 87, 32]) (n := 16) rfl hTX (Nat.le_of_ble_eq_true rfl) 45) lk_M_129 wMD_mv ⟨hK, hg, hM, hD⟩ (wM_rc hK hM) rfl hl.1 rfl (Nat.le_of_ble_eq_true rfl) d_M_write_183 ⟨rfl, rfl, Nat.le_of_ble_eq_true rfl, Nat.le_of_ble_eq_true rfl⟩ ⟨Nat.zero_le _, Nat.zero_le _⟩ hL (fun v9 H1 locs1 hF9 hL => ?_)
      obtain ⟨rfl, tx1, hM, hTX, hO9⟩ := hF9
      have hO := hO.tr hO9
      have hTX : tt_TX [tt_dg yy 1, 32, tt_dg dy 100, tt_dg dy 10, tt_dg dy 1, 32, tt_dg (mk / 60) 10, tt_dg (mk / 60) 1, 58, tt_dg (mk % 60) 10, tt_dg (mk % 60) 1, 32, 76, 79, 87, 32, 45] tx1 := hTX
      have hM : tm D ci am g th fo (nI 17) hs mi hi tx1 H1 := hM
      refine lv_iload hx hb d_M_write_186 (lv_at hl 0 rfl) ?_
      refine lv_if_ge hx hb d_M_write_188 (tgt := 197) (by decide) (fun hyes => absurd hyes (by rw [iv_ge0, iZ_toInt (by omega) (by omega)]; omega)) (fun _ => ?_)
      refine lv_iload hx hb d_M_write_191 (lv_at hl 0 rfl) ?_
      refine lv_ineg hx hb d_M_write_193 ?_
      refine tq_ti (show _ = (nI zz.natAbs) from (by rw [iZ_neg, nI_iZ]; congr 1; omega)) ?_
      refine lv_goto hx hb d_M_write_194 (tgt := 199) (by decide) ?_
      refine lv_istore hx hb d_M_write_199 hl (by decide) (lv' := [(4, .int (nI zz.natAbs)), (3, .int (nI yy)), (0, .ref (am 0)), (1, .int (nI dd)), (2, .int (nI k))]) rfl (fun ls hl => ?_)
      refine lv_iload hx hb d_M_write_201 (lv_at hl 0 rfl) ?_
      refine lv_sipush hx hb d_M_write_203 (v := (nI 10000)) rfl ?_
      refine lv_idiv hx hb d_M_write_206 (by decide) ?_
      refine tq_ti (show _ = (nI (zz.natAbs / 10000)) from pk_div (by omega) (by decide) (by decide)) ?_
      refine lv_istore hx hb d_M_write_207 hl (by decide) (lv' := [(5, .int (nI (zz.natAbs / 10000))), (4, .int (nI zz.natAbs)), (3, .int (nI yy)), (0, .ref (am 0)), (1, .int (nI dd)), (2, .int (nI k))]) rfl (fun ls hl => ?_)
      refine lv_aload_n hx hb d_M_write_209 rfl (lv_at hl 3 rfl) ?_
      refine lv_iload hx hb d_M_write_210 (lv_at hl 0 rfl) ?_
      refine lv_iload hx hb d_M_write_212 (lv_at hl 0 rfl) ?_
      refine lv_bipush hx hb d_M_write_214 (v := (nI 10)) rfl ?_
      refine lv_icmp_ge hx hb d_M_write_216 (tgt := 223) (by decide) (fun h3 => ?_) (fun h3 => ?_)
      · have h3 : ¬ zz.natAbs / 10000 < 10 := fun h => absurd ((nI_ltI (by omega) (by decide)).mpr h) (by rw [Int32.not_lt]; exact h3)
        refine lv_iload hx hb d_M_write_223 (lv_at hl 0 rfl) ?_
        refine lv_bipush hx hb d_M_write_225 (v := (nI 100)) rfl ?_
        refine lv_icmp_ge hx hb d_M_write_227 (tgt := 234) (by decide) (fun h4 => ?_) (fun h4 => ?_)
        · have h4 : ¬ zz.natAbs / 10000 < 100 := fun h => absurd ((nI_ltI (by omega) (by decide)).mpr h) (by rw [Int32.not_lt]; exact h4)
          refine lv_iconst hx hb d_M_write_234 (v := (nI 3)) rfl ?_
          refine tq_VW ⟨hx, hb, hml, hown, hts⟩ hT (c_M_putDigits3 l D ci am g th fo hs mi hi tx1  (L := [tt_dg yy 1, 32, tt_dg dy 100, tt_dg dy 10, tt_dg dy 1, 32, tt_dg (mk / 60) 10, tt_dg (mk / 60) 1, 58, tt_dg (mk % 60) 10, tt_dg (mk % 60) 1, 32, 76, 79, 87, 32, 45]) (n := 17) rfl hTX (Nat.le_of_ble_eq_true rfl) (v := (zz.natAbs / 10000)) (by omega)) lk_M_132 wMD_mv ⟨hK, hg, hM, hD⟩ (wM_rc hK hM) rfl hl.1 rfl (Nat.le_of_ble_eq_true rfl) d_M_write_235 ⟨rfl, rfl, Nat.le_of_ble_eq_true rfl, Nat.le_of_ble_eq_true rfl⟩ ⟨Nat.zero_le _, Nat.zero_le _⟩ hL (fun v9 H1 locs1 hF9 hL => ?_)
          obtain ⟨rfl, tx1, hM, hTX, hO9⟩ := hF9
          have hO := hO.tr hO9
          have hTX : tt_TX [tt_dg yy 1, 32, tt_dg dy 100, tt_dg dy 10, tt_dg dy 1, 32, tt_dg (mk / 60) 10, tt_dg (mk / 60) 1, 58, tt_dg (mk % 60) 10, tt_dg (mk % 60) 1, 32, 76, 79, 87, 32, 45, tt_dg (zz.natAbs / 10000) 100, tt_dg (zz.natAbs / 10000) 10, tt_dg (zz.natAbs / 10000) 1] tx1 := hTX
          have hM : tm D ci am g th fo (nI 20) hs mi hi tx1 H1 := hM
          refine lv_aload_n hx hb d_M_write_238 rfl (lv_at hl 3 rfl) ?_
          refine lv_bipush hx hb d_M_write_239 (v := (nI 46)) rfl ?_
          refine tq_VW ⟨hx, hb, hml, hown, hts⟩ hT (c_M_put l D ci am g th fo hs mi hi tx1  (L := [tt_dg yy 1, 32, tt_dg dy 100, tt_dg dy 10, tt_dg dy 1, 32, tt_dg (mk / 60) 10, tt_dg (mk / 60) 1, 58, tt_dg (mk % 60) 10, tt_dg (mk % 60) 1, 32, 76, 79, 87, 32, 45, tt_dg (zz.natAbs / 10000) 100, tt_dg (zz.natAbs / 10000) 10, tt_dg (zz.natAbs / 10000) 1]) (n := 20) rfl hTX (Nat.le_of_ble_eq_true rfl) 46) lk_M_129 wMD_mv ⟨hK, hg, hM, hD⟩ (wM_rc hK hM) rfl hl.1 rfl (Nat.le_of_ble_eq_true rfl) d_M_write_241 ⟨rfl, rfl, Nat.le_of_ble_eq_true rfl, Nat.le_of_ble_eq_true rfl⟩ ⟨Nat.zero_le _, Nat.zero_le _⟩ hL (fun v9 H1 locs1 hF9 hL => ?_)
          obtain ⟨rfl, tx1, hM, hTX, hO9⟩ := hF9
          have hO := hO.tr hO9
          have hTX : tt_TX [tt_dg yy 1, 32, tt_dg dy 100, tt_dg dy 10, tt_dg dy 1, 32, tt_dg (mk / 60) 10, tt_dg (mk / 60) 1, 58, tt_dg (mk % 60) 10, tt_dg (mk % 60) 1, 32, 76, 79, 87, 32, 45, tt_dg (zz.natAbs / 10000) 100, tt_dg (zz.natAbs / 10000) 10, tt_dg (zz.natAbs / 10000) 1, 46] tx1 := hTX
          have hM : tm D ci am g th fo (nI 21) hs mi hi tx1 H1 := hM
          refine lv_aload_n hx hb d_M_write_244 rfl (lv_at hl 3 rfl) ?_
          refine lv_iload hx hb d_M_write_245 (lv_at hl 1 rfl) ?_
          refine lv_sipush hx hb d_M_write_247 (v := (nI 10000)) rfl ?_
          refine lv_irem hx hb d_M_write_250 (by decide) ?_
          refine tq_ti (show _ = (nI (zz.natAbs % 10000)) from pk_rem (by omega) (by decide) (by decide)) ?_
          refine lv_iconst hx hb d_M_write_251 (v := (nI 4)) rfl ?_
          refine tq_VW ⟨hx, hb, hml, hown, hts⟩ hT (c_M_putDigits4 l D ci am g th fo hs mi hi tx1  (L := [tt_dg yy 1, 32, tt_dg dy 100, tt_dg dy 10, tt_dg dy 1, 32, tt_dg (mk / 60) 10, tt_dg (mk / 60) 1, 58, tt_dg (mk % 60) 10, tt_dg (mk % 60) 1, 32, 76, 79, 87, 32, 45, tt_dg (zz.natAbs / 10000) 100, tt_dg (zz.natAbs / 10000) 10, tt_dg (zz.natAbs / 10000) 1, 46]) (n := 21) rfl hTX (Nat.le_of_ble_eq_true rfl) (v := (zz.natAbs % 10000)) (by omega)) lk_M_132 wMD_mv ⟨hK, hg, hM, hD⟩ (wM_rc hK hM) rfl hl.1 rfl (Nat.le_of_ble_eq_true rfl) d_M_write_252 ⟨rfl, rfl, Nat.le_of_ble_eq_true rfl, Nat.le_of_ble_eq_true rfl⟩ ⟨Nat.zero_le _, Nat.zero_le _⟩ hL (fun v9 H1 locs1 hF9 hL => ?_)
          obtain ⟨rfl, tx1, hM, hTX, hO9⟩ := hF9
          have hO := hO.tr hO9
          have hTX : tt_TX [tt_dg yy 1, 32, tt_dg dy 100, tt_dg dy 10, tt_dg dy 1, 32, tt_dg (mk / 60) 10, tt_dg (mk / 60) 1, 58, tt_dg (mk % 60) 10, tt_dg (mk % 60) 1, 32, 76, 79, 87, 32, 45, tt_dg (zz.natAbs / 10000) 100, tt_dg (zz.natAbs / 10000) 10, tt_dg (zz.natAbs / 10000) 1, 46, tt_dg (zz.natAbs % 10000) 1000, tt_dg (zz.natAbs % 10000) 100, tt_dg (zz.natAbs % 10000) 10, tt_dg (zz.natAbs % 10000) 1] tx1 := hTX
          have hM : tm D ci am g th fo (nI 25) hs mi hi tx1 H1 := hM
          have e2 : tt_ht zz = [45, tt_dg (zz.natAbs / 10000) 100, tt_dg (zz.natAbs / 10000) 10, tt_dg (zz.natAbs / 10000) 1, 46, tt_dg (zz.natAbs % 10000) 1000, tt_dg (zz.natAbs % 10000) 100, tt_dg (zz.natAbs % 10000) 10, tt_dg (zz.natAbs % 10000) 1] := by unfold tt_ht tt_wd; rw [if_pos h2, if_neg h3, if_neg h4]; rfl
          have e3 : tt_line g dd k = [tt_dg yy 1, 32, tt_dg dy 100, tt_dg dy 10, tt_dg dy 1, 32, tt_dg (mk / 60) 10, tt_dg (mk / 60) 1, 58, tt_dg (mk % 60) 10, tt_dg (mk % 60) 1, 32, 76, 79, 87, 32, 45, tt_dg (zz.natAbs / 10000) 100, tt_dg (zz.natAbs / 10000) 10, tt_dg (zz.natAbs / 10000) 1, 46, tt_dg (zz.natAbs % 10000) 1000, tt_dg (zz.natAbs % 10000) 100, tt_dg (zz.natAbs % 10000) 10, tt_dg (zz.natAbs % 10000) 1] := by rw [hln]; show tt_hd yy dy mk ++ tt_kd _ ++ tt_ht zz = _; rw [e1, e2]; rfl
          exact W.vret hx hb hr (fun t ht hW => ⟨_, rfl, rfl, tx1, by rw [ht, e3]; exact hM, by rw [e3]; exact hTX, by rw [ht]; exact hO⟩) hL d_M_write_255
        · have h4 : zz.natAbs / 10000 < 100 := (nI_ltI (by omega) (by decide)).mp (by rw [Int32.not_le] at h4; exact h4)
          refine lv_iconst hx hb d_M_write_230 (v := (nI 2)) rfl ?_
          refine lv_goto hx hb d_M_write_231 (tgt := 235) (by decide) ?_
          refine tq_VW ⟨hx, hb, hml, hown, hts⟩ hT (c_M_putDigits2 l D ci am g th fo hs mi hi tx1  (L := [tt_dg yy 1, 32, tt_dg dy 100, tt_dg dy 10, tt_dg dy 1, 32, tt_dg (mk / 60) 10, tt_dg (mk / 60) 1, 58, tt_dg (mk % 60) 10, tt_dg (mk % 60) 1, 32, 76, 79, 87, 32, 45]) (n := 17) rfl hTX (Nat.le_of_ble_eq_true rfl) (v := (zz.natAbs / 10000)) (by omega)) lk_M_132 wMD_mv ⟨hK, hg, hM, hD⟩ (wM_rc hK hM) rfl hl.1 rfl (Nat.le_of_ble_eq_true rfl) d_M_write_235 ⟨rfl, rfl, Nat.le_of_ble_eq_true rfl, Nat.le_of_ble_eq_true rfl⟩ ⟨Nat.zero_le _, Nat.zero_le _⟩ hL (fun v9 H1 locs1 hF9 hL => ?_)
          obtain ⟨rfl, tx1, hM, hTX, hO9⟩ := hF9
          have hO := hO.tr hO9
          have hTX : tt_TX [tt_dg yy 1, 32, tt_dg dy 100, tt_dg dy 10, tt_dg dy 1, 32, tt_dg (mk / 60) 10, tt_dg (mk / 60) 1, 58, tt_dg (mk % 60) 10, tt_dg (mk % 60) 1, 32, 76, 79, 87, 32, 45, tt_dg (zz.natAbs / 10000) 10, tt_dg (zz.natAbs / 10000) 1] tx1 := hTX
          have hM : tm D ci am g th fo (nI 19) hs mi hi tx1 H1 := hM
          refine lv_aload_n hx hb d_M_write_238 rfl (lv_at hl 3 rfl) ?_
          refine lv_bipush hx hb d_M_write_239 (v := (nI 46)) rfl ?_
          refine tq_VW ⟨hx, hb, hml, hown, hts⟩ hT (c_M_put l D ci am g th fo hs mi hi tx1  (L := [tt_dg yy 1, 32, tt_dg dy 100, tt_dg dy 10, tt_dg dy 1, 32, tt_dg (mk / 60) 10, tt_dg (mk / 60) 1, 58, tt_dg (mk % 60) 10, tt_dg (mk % 60) 1, 32, 76, 79, 87, 32, 45, tt_dg (zz.natAbs / 10000) 10, tt_dg (zz.natAbs / 10000) 1]) (n := 19) rfl hTX (Nat.le_of_ble_eq_true rfl) 46) lk_M_129 wMD_mv ⟨hK, hg, hM, hD⟩ (wM_rc hK hM) rfl hl.1 rfl (Nat.le_of_ble_eq_true rfl) d_M_write_241 ⟨rfl, rfl, Nat.le_of_ble_eq_true rfl, Nat.le_of_ble_eq_true rfl⟩ ⟨Nat.zero_le _, Nat.zero_le _⟩ hL (fun v9 H1 locs1 hF9 hL => ?_)
          obtain ⟨rfl, tx1, hM, hTX, hO9⟩ := hF9
          have hO := hO.tr hO9
          have hTX : tt_TX [tt_dg yy 1, 32, tt_dg dy 100, tt_dg dy 10, tt_dg dy 1, 32, tt_dg (mk / 60) 10, tt_dg (mk / 60) 1, 58, tt_dg (mk % 60) 10, tt_dg (mk % 60) 1, 32, 76, 79, 87, 32, 45, tt_dg (zz.natAbs / 10000) 10, tt_dg (zz.natAbs / 10000) 1, 46] tx1 := hTX
          have hM : tm D ci am g th fo (nI 20) hs mi hi tx1 H1 := hM
          refine lv_aload_n hx hb d_M_write_244 rfl (lv_at hl 3 rfl) ?_
          refine lv_iload hx hb d_M_write_245 (lv_at hl 1 rfl) ?_
          refine lv_sipush hx hb d_M_write_247 (v := (nI 10000)) rfl ?_
          refine lv_irem hx hb d_M_write_250 (by decide) ?_
          refine tq_ti (show _ = (nI (zz.natAbs % 10000)) from pk_rem (by omega) (by decide) (by decide)) ?_
          refine lv_iconst hx hb d_M_write_251 (v := (nI 4)) rfl ?_
          refine tq_VW ⟨hx, hb, hml, hown, hts⟩ hT (c_M_putDigits4 l D ci am g th fo hs mi hi tx1  (L := [tt_dg yy 1, 32, tt_dg dy 100, tt_dg dy 10, tt_dg dy 1, 32, tt_dg (mk / 60) 10, tt_dg (mk / 60) 1, 58, tt_dg (mk % 60) 10, tt_dg (mk % 60) 1, 32, 76, 79, 87, 32, 45, tt_dg (zz.natAbs / 10000) 10, tt_dg (zz.natAbs / 10000) 1, 46]) (n := 20) rfl hTX (Nat.le_of_ble_eq_true rfl) (v := (zz.natAbs % 10000)) (by omega)) lk_M_132 wMD_mv ⟨hK, hg, hM, hD⟩ (wM_rc hK hM) rfl hl.1 rfl (Nat.le_of_ble_eq_true rfl) d_M_write_252 ⟨rfl, rfl, Nat.le_of_ble_eq_true rfl, Nat.le_of_ble_eq_true rfl⟩ ⟨Nat.zero_le _, Nat.zero_le _⟩ hL (fun v9 H1 locs1 hF9 hL => ?_)
          obtain ⟨rfl, tx1, hM, hTX, hO9⟩ := hF9
          have hO := hO.tr hO9
          have hTX : tt_TX [tt_dg yy 1, 32, tt_dg dy 100, tt_dg dy 10, tt_dg dy 1, 32, tt_dg (mk / 60) 10, tt_dg (mk / 60) 1, 58, tt_dg (mk % 60) 10, tt_dg (mk % 60) 1, 32, 76, 79, 87, 32, 45, tt_dg (zz.natAbs / 10000) 10, tt_dg (zz.natAbs / 10000) 1, 46, tt_dg (zz.natAbs % 10000) 1000, tt_dg (zz.natAbs % 10000) 100, tt_dg (zz.natAbs % 10000) 10, tt_dg (zz.natAbs % 10000) 1] tx1 := hTX
          have hM : tm D ci am g th fo (nI 24) hs mi hi tx1 H1 := hM
          have e2 : tt_ht zz = [45, tt_dg (zz.natAbs / 10000) 10, tt_dg (zz.natAbs / 10000) 1, 46, tt_dg (zz.natAbs % 10000) 1000, tt_dg (zz.natAbs % 10000) 100, tt_dg (zz.natAbs % 10000) 10, tt_dg (zz.natAbs % 10000) 1] := by unfold tt_ht tt_wd; rw [if_pos h2, if_neg h3, if_pos h4]; rfl
          have e3 : tt_line g dd k = [tt_dg yy 1, 32, tt_dg dy 100, tt_dg dy 10, tt_dg dy 1, 32, tt_dg (mk / 60) 10, tt_dg (mk / 60) 1, 58, tt_dg (mk % 60) 10, tt_dg (mk % 60) 1, 32, 76, 79, 87, 32, 45, tt_dg (zz.natAbs / 10000) 10, tt_dg (zz.natAbs / 10000) 1, 46, tt_dg (zz.natAbs % 10000) 1000, tt_dg (zz.natAbs % 10000) 100, tt_dg (zz.natAbs % 10000) 10, tt_dg (zz.natAbs % 10000) 1] := by rw [hln]; show tt_hd yy dy mk ++ tt_kd _ ++ tt_ht zz = _; rw [e1, e2]; rfl
          exact W.vret hx hb hr (fun t ht hW => ⟨_, rfl, rfl, tx1, by rw [ht, e3]; exact hM, by rw [e3]; exact hTX, by rw [ht]; exact hO⟩) hL d_M_write_255
      · have h3 : zz.natAbs / 10000 < 10 := (nI_ltI (by omega) (by decide)).mp (by rw [Int32.not_le] at h3; exact h3)
        refine lv_iconst hx hb d_M_write_219 (v := (nI 1)) rfl ?_
        refine lv_goto hx hb d_M_write_220 (tgt := 235) (by decide) ?_
        refine tq_VW ⟨hx, hb, hml, hown, hts⟩ hT (c_M_putDigits1 l D ci am g th fo hs mi hi tx1  (L := [tt_dg yy 1, 32, tt_dg dy 100, tt_dg dy 10, tt_dg dy 1, 32, tt_dg (mk / 60) 10, tt_dg (mk / 60) 1, 58, tt_dg (mk % 60) 10, tt_dg (mk % 60) 1, 32, 76, 79, 87, 32, 45]) (n := 17) rfl hTX (Nat.le_of_ble_eq_true rfl) (v := (zz.natAbs / 10000)) (by omega)) lk_M_132 wMD_mv ⟨hK, hg, hM, hD⟩ (wM_rc hK hM) rfl hl.1 rfl (Nat.le_of_ble_eq_true rfl) d_M_write_235 ⟨rfl, rfl, Nat.le_of_ble_eq_true rfl, Nat.le_of_ble_eq_true rfl⟩ ⟨Nat.zero_le _, Nat.zero_le _⟩ hL (fun v9 H1 locs1 hF9 hL => ?_)
        obtain ⟨rfl, tx1, hM, hTX, hO9⟩ := hF9
        have hO := hO.tr hO9
        have hTX : tt_TX [tt_dg yy 1, 32, tt_dg dy 100, tt_dg dy 10, tt_dg dy 1, 32, tt_dg (mk / 60) 10, tt_dg (mk / 60) 1, 58, tt_dg (mk % 60) 10, tt_dg (mk % 60) 1, 32, 76, 79, 87, 32, 45, tt_dg (zz.natAbs / 10000) 1] tx1 := hTX
        have hM : tm D ci am g th fo (nI 18) hs mi hi tx1 H1 := hM
        refine lv_aload_n hx hb d_M_write_238 rfl (lv_at hl 3 rfl) ?_
        refine lv_bipush hx hb d_M_write_239 (v := (nI 46)) rfl ?_
        refine tq_VW ⟨hx, hb, hml, hown, hts⟩ hT (c_M_put l D ci am g th fo hs mi hi tx1  (L := [tt_dg yy 1, 32, tt_dg dy 100, tt_dg dy 10, tt_dg dy 1, 32, tt_dg (mk / 60) 10, tt_dg (mk / 60) 1, 58, tt_dg (mk % 60) 10, tt_dg (mk % 60) 1, 32, 76, 79, 87, 32, 45, tt_dg (zz.natAbs / 10000) 1]) (n := 18) rfl hTX (Nat.le_of_ble_eq_true rfl) 46) lk_M_129 wMD_mv ⟨hK, hg, hM, hD⟩ (wM_rc hK hM) rfl hl.1 rfl (Nat.le_of_ble_eq_true rfl) d_M_write_241 ⟨rfl, rfl, Nat.le_of_ble_eq_true rfl, Nat.le_of_ble_eq_true rfl⟩ ⟨Nat.zero_le _, Nat.zero_le _⟩ hL (fun v9 H1 locs1 hF9 hL => ?_)
        obtain ⟨rfl, tx1, hM, hTX, hO9⟩ := hF9
        have hO := hO.tr hO9
        have hTX : tt_TX [tt_dg yy 1, 32, tt_dg dy 100, tt_dg dy 10, tt_dg dy 1, 32, tt_dg (mk / 60) 10, tt_dg (mk / 60) 1, 58, tt_dg (mk % 60) 10, tt_dg (mk % 60) 1, 32, 76, 79, 87, 32, 45, tt_dg (zz.natAbs / 10000) 1, 46] tx1 := hTX
        have hM : tm D ci am g th fo (nI 19) hs mi hi tx1 H1 := hM
        refine lv_aload_n hx hb d_M_write_244 rfl (lv_at hl 3 rfl) ?_
        refine lv_iload hx hb d_M_write_245 (lv_at hl 1 rfl) ?_
        refine lv_sipush hx hb d_M_write_247 (v := (nI 10000)) rfl ?_
        refine lv_irem hx hb d_M_write_250 (by decide) ?_
        refine tq_ti (show _ = (nI (zz.natAbs % 10000)) from pk_rem (by omega) (by decide) (by decide)) ?_
        refine lv_iconst hx hb d_M_write_251 (v := (nI 4)) rfl ?_
        refine tq_VW ⟨hx, hb, hml, hown, hts⟩ hT (c_M_putDigits4 l D ci am g th fo hs mi hi tx1  (L := [tt_dg yy 1, 32, tt_dg dy 100, tt_dg dy 10, tt_dg dy 1, 32, tt_dg (mk / 60) 10, tt_dg (mk / 60) 1, 58, tt_dg (mk % 60) 10, tt_dg (mk % 60) 1, 32, 76, 79, 87, 32, 45, tt_dg (zz.natAbs / 10000) 1, 46]) (n := 19) rfl hTX (Nat.le_of_ble_eq_true rfl) (v := (zz.natAbs % 10000)) (by omega)) lk_M_132 wMD_mv ⟨hK, hg, hM, hD⟩ (wM_rc hK hM) rfl hl.1 rfl (Nat.le_of_ble_eq_true rfl) d_M_write_252 ⟨rfl, rfl, Nat.le_of_ble_eq_true rfl, Nat.le_of_ble_eq_true rfl⟩ ⟨Nat.zero_le _, Nat.zero_le _⟩ hL (fun v9 H1 locs1 hF9 hL => ?_)
        obtain ⟨rfl, tx1, hM, hTX, hO9⟩ := hF9
        have hO := hO.tr hO9
        have hTX : tt_TX [tt_dg yy 1, 32, tt_dg dy 100, tt_dg dy 10, tt_dg dy 1, 32, tt_dg (mk / 60) 10, tt_dg (mk / 60) 1, 58, tt_dg (mk % 60) 10, tt_dg (mk % 60) 1, 32, 76, 79, 87, 32, 45, tt_dg (zz.natAbs / 10000) 1, 46, tt_dg (zz.natAbs % 10000) 1000, tt_dg (zz.natAbs % 10000) 100, tt_dg (zz.natAbs % 10000) 10, tt_dg (zz.natAbs % 10000) 1] tx1 := hTX
        have hM : tm D ci am g th fo (nI 23) hs mi hi tx1 H1 := hM
        have e2 : tt_ht zz = [45, tt_dg (zz.natAbs / 10000) 1, 46, tt_dg (zz.natAbs % 10000) 1000, tt_dg (zz.natAbs % 10000) 100, tt_dg (zz.natAbs % 10000) 10, tt_dg (zz.natAbs % 10000) 1] := by unfold tt_ht tt_wd; rw [if_pos h2, if_pos h3]; rfl
        have e3 : tt_line g dd k = [tt_dg yy 1, 32, tt_dg dy 100, tt_dg dy 10, tt_dg dy 1, 32, tt_dg (mk / 60) 10, tt_dg (mk / 60) 1, 58, tt_dg (mk % 60) 10, tt_dg (mk % 60) 1, 32, 76, 79, 87, 32, 45, tt_dg (zz.natAbs / 10000) 1, 46, tt_dg (zz.natAbs % 10000) 1000, tt_dg (zz.natAbs % 10000) 100, tt_dg (zz.natAbs % 10000) 10, tt_dg (zz.natAbs % 10000) 1] := by rw [hln]; show tt_hd yy dy mk ++ tt_kd _ ++ tt_ht zz = _; rw [e1, e2]; rfl
        exact W.vret hx hb hr (fun t ht hW => ⟨_, rfl, rfl, tx1, by rw [ht, e3]; exact hM, by rw [e3]; exact hTX, by rw [ht]; exact hO⟩) hL d_M_write_255
