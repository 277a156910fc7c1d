/-! the JDK's StringBuilder: append(String) of the class's two constants. Written by wip/whole/gen.py -/
def wK (sz : Nat) (adK adV : Nat → Nat) (U : State) (H : Heap) : Prop := kc sz U H ∧ kS sz adK adV U H
theorem wK_mv {sz : Nat} {adK adV : Nat → Nat} : tmov (wK sz adK adV) := fun _ _ _ hW h => ⟨kc_mv _ _ _ hW h.1, kS_mv _ _ _ hW h.2⟩
def wBK (D : va_G) (cB : ClassId) (sz b v n cap : Nat) (f : Nat → Int32) (adK adV : Nat → Nat) (U : State) (H : Heap) : Prop := wBA D cB sz b v n cap f U H ∧ kS sz adK adV U H
theorem wBK_mv {D : va_G} {cB : ClassId} {sz b v n cap : Nat} {f : Nat → Int32} {adK adV : Nat → Nat} : tmov (wBK D cB sz b v n cap f adK adV) := fun _ _ _ hW h => ⟨wBA_mv _ _ _ hW h.1, kS_mv _ _ _ hW h.2⟩
def wSK (D : va_G) (cB : ClassId) (sz b : Nat) (L : List Nat) (adK adV : Nat → Nat) (U : State) (H : Heap) : Prop := wS D cB sz b L U H ∧ kS sz adK adV U H
theorem wSK_mv {D : va_G} {cB : ClassId} {sz b : Nat} {L : List Nat} {adK adV : Nat → Nat} : tmov (wSK D cB sz b L adK adV) := fun _ _ _ hW h => ⟨wS_mv _ _ _ hW h.1, kS_mv _ _ _ hW h.2⟩
/-- the letters of the i-th constant -/
def sb_cs (i : Nat) : List Nat := tt_kd (decide (i = 0))
def sb_cn (i : Nat) : Nat := [6, 5].getD i 0
def sb_cf (i : Nat) : Nat → Int32 := fun j => (kB.getD i []).getD j 0
theorem sb_cs_len : ∀ i, i < 2 → (sb_cs i).length = sb_cn i ∧ sb_cn i ≤ 6 := by decide +kernel
theorem sb_cs_at : ∀ i, i < 2 → ∀ j, j < sb_cn i → sb_cf i j = nI ((sb_cs i).getD j 0) := by decide +kernel
theorem sb_cf_A (i : Nat) (hi : i < 2) : sb_A (sb_cf i) := fun j => by
  by_cases h : j < 6
  · have h9 : ∀ i, i < 2 → ∀ j, j < 6 → ∃ c, c < 128 ∧ sb_cf i j = nI c := by decide +kernel
    exact h9 i hi j h
  · refine ⟨0, by decide, ?_⟩
    have h8 : ∀ i, i < 2 → (kB.getD i []).length ≤ 6 := by decide +kernel
    have h7 := h8 i hi
    show (kB.getD i []).getD j 0 = nI 0
    rw [List.getD_eq_getElem?_getD, List.getElem?_eq_none (by omega)]
    rfl
theorem sb_TXc {L M : List Nat} {f g : Nat → Int32} (h : tt_TX L g) (hM : ∀ j, j < M.length → f j = nI (M.getD j 0)) : tt_TX (L ++ M) (va_cpy f g 0 L.length M.length) := by
  intro j hj
  rw [List.length_append] at hj
  unfold va_cpy
  by_cases e : j < L.length
  · rw [if_neg (by omega), h j e]
    simp [List.getElem?_append, e]
  · rw [if_pos (by omega), Nat.zero_add, hM _ (by omega)]
    simp [List.getElem?_append, e]
set_option maxHeartbeats 4000000 in
set_option maxRecDepth 100000 in
theorem c_T_coder (l : Launch) (sz : Nat) (adK adV : Nat → Nat) {i : Nat} (hi : i < 2) : Met l y_T_coder (wT y_T_coder b_T_coder 1 (some .byte)) (rP 0 0) (tb (wK sz adK adV) [.ref (adK i)]) (tq_P (some (.int 0))) 0 0 tq_n := by
  refine va_MetF (cc := b_T_coder) (maxL := 1) (ret := (some .byte)) (by decide +kernel) rfl ?_
  intro p e s m args below meth c s₁ B hml hv
  obtain ⟨rfl, hC, hE⟩ := hv
  have hx := B.exec
  have hb := B.bytes
  have hr := B.returns
  have hts := atoms_spec (ws := wT y_T_coder b_T_coder 1 (some .byte)) B.pre
  have hT : ∀ w ∈ TT, w ∈ wT y_T_coder b_T_coder 1 (some .byte) := wT_T
  have hown : s.vm.findClass RT = some m.cls := findClass_of_methodNamed B.named
  have hlocks := B.notSynchronized
  have hl := lv_entry ([.ref (adK i)]) (n := 1) (Nat.le_of_ble_eq_true rfl)
  rw [lg_entry_eq]
  generalize (lg_sl ([.ref (adK i)]) ++ List.replicate (1 - (lg_sl ([.ref (adK i)])).length) Slot.unset).toArray = ls at hl ⊢
  have hl : lv_has ls 1 [(0, .ref (adK i))] := hl
  have hS : va_S (aSz sz) s.heap s.heap [] := va_S.rf
  refine va_gets hx hb hC.1 hS hown (hts _ (hT _ k_T_38)) (fun _ h => h) d_T_coder_0 ?_
  refine lv_if_eq hx hb d_T_coder_3 (tgt := 13) (by decide) (fun hyes => absurd hyes (by decide)) (fun _ => ?_)
  refine lv_aload_n hx hb d_T_coder_6 rfl (lv_at hl 0 rfl) ?_
  refine vk_getf hx hb (hE.1 i hi).2.1 hS hown (hts _ (hT _ k_T_15)) (fun _ h => h) d_T_coder_7 ?_
  refine lv_goto hx hb d_T_coder_10 (tgt := 14) (by decide) ?_
  exact W.zret hx hb hr rfl (fun t ht hW => ⟨_, rfl, ⟨rfl, ht⟩⟩) (fun q hq => nomatch hq) d_T_coder_14
set_option maxHeartbeats 4000000 in
set_option maxRecDepth 100000 in
theorem c_T_len (l : Launch) (sz : Nat) (adK adV : Nat → Nat) {i : Nat} (hi : i < 2) : Met l y_T_len (wT y_T_len b_T_len 1 (some .int)) (rP 1 20) (tb (wK sz adK adV) [.ref (adK i)]) (tq_P (some (.int (nI (sb_cn i))))) 0 0 tq_n := by
  refine va_MetF (cc := b_T_len) (maxL := 1) (ret := (some .int)) (by decide +kernel) rfl ?_
  intro p e s m args below meth c s₁ B hml hv
  obtain ⟨rfl, hC, hE⟩ := hv
  have hx := B.exec
  have hb := B.bytes
  have hr := B.returns
  have hts := atoms_spec (ws := wT y_T_len b_T_len 1 (some .int)) B.pre
  have hT : ∀ w ∈ TT, w ∈ wT y_T_len b_T_len 1 (some .int) := wT_T
  have hown : s.vm.findClass RT = some m.cls := findClass_of_methodNamed B.named
  have hlocks := B.notSynchronized
  have hl := lv_entry ([.ref (adK i)]) (n := 1) (Nat.le_of_ble_eq_true rfl)
  rw [lg_entry_eq]
  generalize (lg_sl ([.ref (adK i)]) ++ List.replicate (1 - (lg_sl ([.ref (adK i)])).length) Slot.unset).toArray = ls at hl ⊢
  have hl : lv_has ls 1 [(0, .ref (adK i))] := hl
  have hS : va_S (aSz sz) s.heap s.heap [] := va_S.rf
  refine lv_aload_n hx hb d_T_len_0 rfl (lv_at hl 0 rfl) ?_
  refine vk_getf hx hb (hE.1 i hi).2.2.1 hS hown (hts _ (hT _ k_T_9)) (fun _ h => h) d_T_len_1 ?_
  refine va_tlen hx hb (hE.1 i hi).2.2.2 hS (v := nI (sb_cn i)) rfl d_T_len_4 ?_
  refine lv_aload_n hx hb d_T_len_5 rfl (lv_at hl 0 rfl) ?_
  refine tq_V ⟨hx, hb, hml, hown, hts⟩ hT (c_T_coder l sz adK adV hi) lk_T_335 wK_mv ⟨hC, hE⟩ (vk_recv hE hi hS) rfl hl.1 rfl (Nat.le_of_ble_eq_true rfl) d_T_len_6 ⟨rfl, rfl, Nat.le_of_ble_eq_true rfl, Nat.le_of_ble_eq_true rfl⟩ ⟨Nat.zero_le _, Nat.zero_le _⟩ ?_
  refine lv_ishr hx hb d_T_len_9 ?_
  refine tq_ti (show _ = (nI (sb_cn i)) from sb_shr0 _) ?_
  exact W.iret hx hb hr (fun t ht hW => ⟨_, rfl, ⟨rfl, ht⟩⟩) (fun q hq => nomatch hq) d_T_len_10
set_option maxHeartbeats 4000000 in
set_option maxRecDepth 100000 in
theorem c_A_infl (l : Launch) (D : va_G) (cB : ClassId) (sz b v n cap : Nat) (f : Nat → Int32) (adK adV : Nat → Nat) {i : Nat} (hi : i < 2) : Met l y_A_infl (wT y_A_infl b_A_infl 2 none) (rP 1 20) (tb (wBK D cB sz b v n cap f adK adV) [.ref b, .ref (adK i)]) (tq_P none) 0 0 tq_n := by
  refine va_MetF (cc := b_A_infl) (maxL := 2) (ret := none) (by decide +kernel) rfl ?_
  intro p e s m args below meth c s₁ B hml hv
  obtain ⟨rfl, ⟨hK, hC, hP, hD⟩, hE⟩ := hv
  have hx := B.exec
  have hb := B.bytes
  have hr := B.returns
  have hts := atoms_spec (ws := wT y_A_infl b_A_infl 2 none) B.pre
  have hT : ∀ w ∈ TT, w ∈ wT y_A_infl b_A_infl 2 none := wT_T
  have hown : s.vm.findClass RA = some m.cls := findClass_of_methodNamed B.named
  have hlocks := B.notSynchronized
  have hl := lv_entry ([.ref b, .ref (adK i)]) (n := 2) (Nat.le_of_ble_eq_true rfl)
  rw [lg_entry_eq]
  generalize (lg_sl ([.ref b, .ref (adK i)]) ++ List.replicate (2 - (lg_sl ([.ref b, .ref (adK i)])).length) Slot.unset).toArray = ls at hl ⊢
  have hl : lv_has ls 2 [(0, .ref b), (1, .ref (adK i))] := hl
  have hS : va_S (aSz sz) s.heap s.heap [] := va_S.rf
  refine va_gets hx hb hC.1 hS hown (hts _ (hT _ k_A_18)) (fun _ h => h) d_A_infl_0 ?_
  refine lv_if_eq hx hb d_A_infl_3 (tgt := 21) (by decide) (fun hyes => absurd hyes (by decide)) (fun _ => ?_)
  refine lv_aload_n hx hb d_A_infl_6 rfl (lv_at hl 0 rfl) ?_
  refine va_get hx hb hts (fun w h => hT w (uS_in w h)) hown hK hP 0 rfl rfl 1 (by decide) (hts _ (hT _ k_A_22)) (fun _ h => h) rfl d_A_infl_7 ?_
  refine lv_aload_n hx hb d_A_infl_10 rfl (lv_at hl 1 rfl) ?_
  refine tq_V ⟨hx, hb, hml, hown, hts⟩ hT (c_T_coder l sz adK adV hi) lk_A_40 wK_mv ⟨hC, hE⟩ (vk_recv hE hi hS) rfl hl.1 rfl (Nat.le_of_ble_eq_true rfl) d_A_infl_11 ⟨rfl, rfl, Nat.le_of_ble_eq_true rfl, Nat.le_of_ble_eq_true rfl⟩ ⟨Nat.zero_le _, Nat.zero_le _⟩ ?_
  refine lv_icmp_eq hx hb d_A_infl_14 (tgt := 21) (by decide) (fun _ => ?_) (fun hno => absurd rfl hno)
  exact W.vret hx hb hr (fun t ht hW => ⟨_, rfl, ⟨rfl, ht⟩⟩) (fun q hq => nomatch hq) d_A_infl_21
set_option maxHeartbeats 4000000 in
set_option maxRecDepth 100000 in
theorem c_T_getB (l : Launch) (D : va_G) (cB : ClassId) (sz b v n cap : Nat) (f : Nat → Int32) (adK adV : Nat → Nat) {i : Nat} (hi : i < 2) {off : Nat} (h34 : off + sb_cn i ≤ cap) (hcap : cap ≤ 34) : Met l y_T_getB (wT y_T_getB b_T_getB 4 none) (rP 1 60) (tb (wBK D cB sz b v n cap f adK adV) [.ref (adK i), .ref v, .int (nI off), .int 0]) (tq_Q (fun o9 H H1 => o9 = none ∧ va_P D scl (sb_w cB b v n cap (va_cpy (sb_cf i) f 0 off (sb_cn i))) H1 ∧ sO sz H H1)) 0 0 (aSz sz) := by
  refine va_MetF (cc := b_T_getB) (maxL := 4) (ret := none) (by decide +kernel) rfl ?_
  intro p e s m args below meth c s₁ B hml hv
  obtain ⟨rfl, ⟨hK, hC, hP, hD⟩, hE⟩ := hv
  have hx := B.exec
  have hb := B.bytes
  have hr := B.returns
  have hts := atoms_spec (ws := wT y_T_getB b_T_getB 4 none) B.pre
  have hT : ∀ w ∈ TT, w ∈ wT y_T_getB b_T_getB 4 none := wT_T
  have hown : s.vm.findClass RT = some m.cls := findClass_of_methodNamed B.named
  have hlocks := B.notSynchronized
  have hl := lv_entry ([.ref (adK i), .ref v, .int (nI off), .int 0]) (n := 4) (Nat.le_of_ble_eq_true rfl)
  rw [lg_entry_eq]
  generalize (lg_sl ([.ref (adK i), .ref v, .int (nI off), .int 0]) ++ List.replicate (4 - (lg_sl ([.ref (adK i), .ref v, .int (nI off), .int 0])).length) Slot.unset).toArray = ls at hl ⊢
  have hl : lv_has ls 4 [(0, .ref (adK i)), (1, .ref v), (2, .int (nI off)), (3, .int 0)] := hl
  have hS : va_S (aSz sz) s.heap s.heap [] := va_S.rf
  refine lv_aload_n hx hb d_T_getB_0 rfl (lv_at hl 0 rfl) ?_
  refine tq_V ⟨hx, hb, hml, hown, hts⟩ hT (c_T_coder l sz adK adV hi) lk_T_335 wK_mv ⟨hC, hE⟩ (vk_recv hE hi hS) rfl hl.1 rfl (Nat.le_of_ble_eq_true rfl) d_T_getB_1 ⟨rfl, rfl, Nat.le_of_ble_eq_true rfl, Nat.le_of_ble_eq_true rfl⟩ ⟨Nat.zero_le _, Nat.zero_le _⟩ ?_
  refine lv_iload_n hx hb d_T_getB_4 rfl (lv_at hl 3 rfl) ?_
  refine lv_icmp_ne hx hb d_T_getB_5 (tgt := 28) (by decide) (fun hyes => absurd rfl hyes) (fun _ => ?_)
  refine lv_aload_n hx hb d_T_getB_8 rfl (lv_at hl 0 rfl) ?_
  refine vk_getf hx hb (hE.1 i hi).2.2.1 hS hown (hts _ (hT _ k_T_9)) (fun _ h => h) d_T_getB_9 ?_
  refine lv_iconst hx hb d_T_getB_12 (v := (nI 0)) rfl ?_
  refine lv_aload_n hx hb d_T_getB_13 rfl (lv_at hl 1 rfl) ?_
  refine lv_iload_n hx hb d_T_getB_14 rfl (lv_at hl 2 rfl) ?_
  refine lv_iload_n hx hb d_T_getB_15 rfl (lv_at hl 3 rfl) ?_
  refine lv_ishl hx hb d_T_getB_16 ?_
  refine tq_ti (show _ = (nI off) from sb_shl0 _) ?_
  refine lv_aload_n hx hb d_T_getB_17 rfl (lv_at hl 0 rfl) ?_
  refine vk_getf hx hb (hE.1 i hi).2.2.1 hS hown (hts _ (hT _ k_T_9)) (fun _ h => h) d_T_getB_18 ?_
  refine va_tlen hx hb (hE.1 i hi).2.2.2 hS (v := nI (sb_cn i)) rfl d_T_getB_21 ?_
  have ew : (nI (sb_cn i)).toNatClampNeg = sb_cn i := nI_clamp (by omega)
  have eo : (nI off).toNatClampNeg = off := nI_clamp (by omega)
  refine vk_copyt hx hb (hml.trans hl.1.symm) hown (hts _ (hT _ k_ac_T)) (hts _ (hT _ k_ac_n)) (hts _ (hT _ k_ac_s)) (hts _ (hT _ k_ini_System)) hK hP hD hS (f := sb_cf i) (hE.1 i hi).2.2.2 1 0 rfl rfl (by decide) (nI_pos (by omega)) (nI_pos (by omega)) (by rw [ew]; show 0 + sb_cn i ≤ sb_cn i; omega) (by rw [ew, eo]; exact h34) (fun j _ => sb_fit (sb_cf_A i hi) _) (Nat.le_of_ble_eq_true rfl) (Nat.le_of_ble_eq_true rfl) d_T_getB_22 (fun H1 locs1 hP hD hS => ?_)
  rw [ew, eo] at hP
  refine lv_goto hx hb d_T_getB_25 (tgt := 43) (by decide) ?_
  exact W.vret hx hb hr (fun t ht hW => ⟨_, rfl, rfl, by rw [ht]; exact hP, by rw [ht]; exact sO.of hC.2.2.2.2.2.2 hS⟩) hS.2.2 d_T_getB_43
set_option maxHeartbeats 4000000 in
set_option maxRecDepth 100000 in
theorem c_A_putS (l : Launch) (D : va_G) (cB : ClassId) (sz b v n cap : Nat) (f : Nat → Int32) (adK adV : Nat → Nat) {i : Nat} (hi : i < 2) {off : Nat} (h34 : off + sb_cn i ≤ cap) (hcap : cap ≤ 34) : Met l y_A_putS (wT y_A_putS b_A_putS 3 none) (rP 2 85) (tb (wBK D cB sz b v n cap f adK adV) [.ref b, .int (nI off), .ref (adK i)]) (tq_Q (fun o9 H H1 => o9 = none ∧ va_P D scl (sb_w cB b v n cap (va_cpy (sb_cf i) f 0 off (sb_cn i))) H1 ∧ sO sz H H1)) 0 0 (aSz sz) := by
  refine va_MetF (cc := b_A_putS) (maxL := 3) (ret := none) (by decide +kernel) rfl ?_
  intro p e s m args below meth c s₁ B hml hv
  obtain ⟨rfl, ⟨hK, hC, hP, hD⟩, hE⟩ := hv
  have hx := B.exec
  have hb := B.bytes
  have hr := B.returns
  have hts := atoms_spec (ws := wT y_A_putS b_A_putS 3 none) B.pre
  have hT : ∀ w ∈ TT, w ∈ wT y_A_putS b_A_putS 3 none := wT_T
  have hown : s.vm.findClass RA = some m.cls := findClass_of_methodNamed B.named
  have hlocks := B.notSynchronized
  have hl := lv_entry ([.ref b, .int (nI off), .ref (adK i)]) (n := 3) (Nat.le_of_ble_eq_true rfl)
  rw [lg_entry_eq]
  generalize (lg_sl ([.ref b, .int (nI off), .ref (adK i)]) ++ List.replicate (3 - (lg_sl ([.ref b, .int (nI off), .ref (adK i)])).length) Slot.unset).toArray = ls at hl ⊢
  have hl : lv_has ls 3 [(0, .ref b), (1, .int (nI off)), (2, .ref (adK i))] := hl
  have hS : va_S (aSz sz) s.heap s.heap [] := va_S.rf
  refine lv_aload_n hx hb d_A_putS_0 rfl (lv_at hl 0 rfl) ?_
  refine lv_aload_n hx hb d_A_putS_1 rfl (lv_at hl 2 rfl) ?_
  refine tg_Pp ⟨hx, hb, hml, hown, hts⟩ hT (c_A_infl l D cB sz b v n cap f adK adV hi) lk_A_397 (hC.2.2.2.2.2.1 _ (List.mem_of_getElem? (i := 3) rfl)) wBK_mv ⟨⟨hK, hC, hP, hD⟩, hE⟩ (sb_rc hK hP rfl) rfl hl.1 rfl (Nat.le_of_ble_eq_true rfl) d_A_putS_2 ⟨rfl, rfl, Nat.le_of_ble_eq_true rfl, Nat.le_of_ble_eq_true rfl⟩ ⟨Nat.zero_le _, Nat.zero_le _⟩ ?_
  refine lv_aload_n hx hb d_A_putS_5 rfl (lv_at hl 2 rfl) ?_
  refine lv_aload_n hx hb d_A_putS_6 rfl (lv_at hl 0 rfl) ?_
  refine va_get hx hb hts (fun w h => hT w (uS_in w h)) hown hK hP 0 rfl rfl 0 (by decide) (hts _ (hT _ k_A_15)) (fun _ h => h) rfl d_A_putS_7 ?_
  refine lv_iload_n hx hb d_A_putS_10 rfl (lv_at hl 1 rfl) ?_
  refine lv_aload_n hx hb d_A_putS_11 rfl (lv_at hl 0 rfl) ?_
  refine va_get hx hb hts (fun w h => hT w (uS_in w h)) hown hK hP 0 rfl rfl 1 (by decide) (hts _ (hT _ k_A_22)) (fun _ h => h) rfl d_A_putS_12 ?_
  refine tg_V ⟨hx, hb, hml, hown, hts⟩ hT (c_T_getB l D cB sz b v n cap f adK adV hi (off := off) h34 hcap) lk_A_399 wBK_mv ⟨⟨hK, hC, hP, hD⟩, hE⟩ (vk_recv hE hi hS) rfl hl.1 rfl (Nat.le_of_ble_eq_true rfl) d_A_putS_15 ⟨rfl, rfl, Nat.le_of_ble_eq_true rfl, Nat.le_of_ble_eq_true rfl⟩ ⟨Nat.le_of_ble_eq_true rfl, Nat.le_of_ble_eq_true rfl⟩ hS.2.2 (fun v9 H1 locs1 hF9 hL9 => ?_)
  obtain ⟨rfl, hP, hO⟩ := hF9
  exact W.vret hx hb hr (fun t ht hW => ⟨_, rfl, rfl, by rw [ht]; exact hP, by rw [ht]; exact hO⟩) hL9 d_A_putS_18
set_option maxHeartbeats 4000000 in
set_option maxRecDepth 100000 in
theorem c_A_appS (l : Launch) (D : va_G) (cB : ClassId) (sz b : Nat) {L : List Nat} (adK adV : Nat → Nat) {i : Nat} (hi : i < 2) (h34 : L.length + 6 ≤ 34) : Met l y_A_appS (wT y_A_appS b_A_appS 3 (some (.object "java/lang/AbstractStringBuilder"))) ({ frames := 4, cells := 1, slots := 34, locals := 112 }) (tb (wSK D cB sz b L adK adV) [.ref b, .ref (adK i)]) (sbQ D cB sz b (L ++ sb_cs i) (some (.ref b))) 1 34 (aSz sz) := by
  refine va_MetF (cc := b_A_appS) (maxL := 3) (ret := (some (.object "java/lang/AbstractStringBuilder"))) (by decide +kernel) rfl ?_
  intro p e s m args below meth c s₁ B hml hv
  obtain ⟨rfl, ⟨hK, hC, v, cap, f, hP, hD, hcap, hlen, hTX, hA9⟩, hE⟩ := hv
  have hx := B.exec
  have hb := B.bytes
  have hr := B.returns
  have hts := atoms_spec (ws := wT y_A_appS b_A_appS 3 (some (.object "java/lang/AbstractStringBuilder"))) B.pre
  have hT : ∀ w ∈ TT, w ∈ wT y_A_appS b_A_appS 3 (some (.object "java/lang/AbstractStringBuilder")) := wT_T
  have hown : s.vm.findClass RA = some m.cls := findClass_of_methodNamed B.named
  have hlocks := B.notSynchronized
  have hl := lv_entry ([.ref b, .ref (adK i)]) (n := 3) (Nat.le_of_ble_eq_true rfl)
  rw [lg_entry_eq]
  generalize (lg_sl ([.ref b, .ref (adK i)]) ++ List.replicate (3 - (lg_sl ([.ref b, .ref (adK i)])).length) Slot.unset).toArray = ls at hl ⊢
  have hl : lv_has ls 3 [(0, .ref b), (1, .ref (adK i))] := hl
  have hS : va_S (aSz sz) s.heap s.heap [] := va_S.rf
  obtain ⟨hcl, hcn⟩ := sb_cs_len i hi
  refine lv_aload_n hx hb d_A_appS_0 rfl (lv_at hl 1 rfl) ?_
  refine lv_ifnonnull hx hb d_A_appS_1 (tgt := 9) (by decide) ?_
  refine lv_aload_n hx hb d_A_appS_9 rfl (lv_at hl 1 rfl) ?_
  refine tq_V ⟨hx, hb, hml, hown, hts⟩ hT (c_T_len l sz adK adV hi) lk_A_32 wK_mv ⟨hC, hE⟩ (vk_recv hE hi hS) rfl hl.1 rfl (Nat.le_of_ble_eq_true rfl) d_A_appS_10 ⟨rfl, rfl, Nat.le_of_ble_eq_true rfl, Nat.le_of_ble_eq_true rfl⟩ ⟨Nat.zero_le _, Nat.zero_le _⟩ ?_
  refine lv_istore_n hx hb d_A_appS_13 rfl hl (by decide) (lv' := [(2, .int (nI (sb_cn i))), (0, .ref b), (1, .ref (adK i))]) rfl (fun ls hl => ?_)
  refine lv_aload_n hx hb d_A_appS_14 rfl (lv_at hl 1 rfl) ?_
  refine lv_aload_n hx hb d_A_appS_15 rfl (lv_at hl 1 rfl) ?_
  refine va_get hx hb hts (fun w h => hT w (uS_in w h)) hown hK hP 0 rfl rfl 3 (by decide) (hts _ (hT _ k_A_79)) (fun _ h => h) rfl d_A_appS_16 ?_
  refine lv_iload_n hx hb d_A_appS_19 rfl (lv_at hl 0 rfl) ?_
  refine lv_iadd hx hb d_A_appS_20 ?_
  refine tq_ti (show _ = (nI (L.length + sb_cn i)) from nI_add _ _) ?_
  refine tg_P ⟨hx, hb, hml, hown, hts⟩ hT (c_A_ens l D cB sz b v L.length cap f (q := L.length + sb_cn i) hcap (by omega) hA9) lk_A_100 (hC.2.2.2.2.2.1 _ (List.mem_of_getElem? (i := 0) rfl)) wBA_mv ⟨hK, hC, hP, hD⟩ (sb_rc hK hP rfl) rfl hl.1 rfl (Nat.le_of_ble_eq_true rfl) d_A_appS_21 ⟨rfl, rfl, Nat.le_of_ble_eq_true rfl, Nat.le_of_ble_eq_true rfl⟩ ⟨Nat.le_of_ble_eq_true rfl, Nat.le_of_ble_eq_true rfl⟩ hS.2.2 (fun v9 H1 locs1 hF9 hL9 => ?_)
  obtain ⟨rfl, v1, cap1, f1, hP, hD, hcap1, hq1, hcc, hk9, hA1, hO9⟩ := hF9
  have hS : va_S (aSz sz) s.heap H1 locs1 := va_S.st hC.2.2.2.2.2.2 hS hO9 hL9
  have hC1 := kc_kept hC hO9.1 hO9.2
  have hE1 := kS_kept hE hO9.2
  refine lv_aload_n hx hb d_A_appS_24 rfl (lv_at hl 1 rfl) ?_
  refine lv_aload_n hx hb d_A_appS_25 rfl (lv_at hl 1 rfl) ?_
  refine va_get hx hb hts (fun w h => hT w (uS_in w h)) hown hK hP 0 rfl rfl 3 (by decide) (hts _ (hT _ k_A_79)) (fun _ h => h) rfl d_A_appS_26 ?_
  refine lv_aload_n hx hb d_A_appS_29 rfl (lv_at hl 2 rfl) ?_
  refine tg_P ⟨hx, hb, hml, hown, hts⟩ hT (c_A_putS l D cB sz b v1 L.length cap1 f1 adK adV hi (off := L.length) hq1 (by omega)) lk_A_208 (hC.2.2.2.2.2.1 _ (List.mem_of_getElem? (i := 2) rfl)) wBK_mv ⟨⟨hK, hC1, hP, hD⟩, hE1⟩ (sb_rc hK hP rfl) rfl hl.1 rfl (Nat.le_of_ble_eq_true rfl) d_A_appS_30 ⟨rfl, rfl, Nat.le_of_ble_eq_true rfl, Nat.le_of_ble_eq_true rfl⟩ ⟨Nat.le_of_ble_eq_true rfl, Nat.le_of_ble_eq_true rfl⟩ hS.2.2 (fun v9 H1 locs1 hF9 hL9 => ?_)
  obtain ⟨rfl, hP, hO8⟩ := hF9
  have hS : va_S (aSz sz) s.heap H1 locs1 := va_S.st hC.2.2.2.2.2.2 hS hO8 hL9
  have hD : va_D (aSz sz) (sb_w cB b v1 L.length cap1 (va_cpy (sb_cf i) f1 0 L.length (sb_cn i))) := sb_D (hD.2 0 _ rfl) (hD.2 1 _ rfl) (fun z => absurd (hD.1 0 1 _ _ rfl rfl z) (by decide))
  refine lv_aload_n hx hb d_A_appS_33 rfl (lv_at hl 1 rfl) ?_
  refine lv_dup hx hb d_A_appS_34 rfl ?_
  refine va_get hx hb hts (fun w h => hT w (uS_in w h)) hown hK hP 0 rfl rfl 3 (by decide) (hts _ (hT _ k_A_79)) (fun _ h => h) rfl d_A_appS_35 ?_
  refine lv_iload_n hx hb d_A_appS_38 rfl (lv_at hl 0 rfl) ?_
  refine lv_iadd hx hb d_A_appS_39 ?_
  refine tq_ti (show _ = (nI (L.length + sb_cn i)) from nI_add _ _) ?_
  refine va_put hx hb hts (fun w h => hT w (uS_in w h)) tSB tSB_ok nSB hown hK hP hD hS 0 rfl rfl 3 (by decide) (hts _ (hT _ k_A_79)) (fun _ h => h) rfl (ty := .int) rfl rfl rfl (Nat.le_of_ble_eq_true rfl) d_A_appS_40 (fun H1 locs1 hP hD hS => ?_)
  have hP : va_P D scl (sb_w cB b v1 (L.length + sb_cn i) cap1 (va_cpy (sb_cf i) f1 0 L.length (sb_cn i))) H1 := hP
  have hD : va_D (aSz sz) (sb_w cB b v1 (L.length + sb_cn i) cap1 (va_cpy (sb_cf i) f1 0 L.length (sb_cn i))) := hD
  refine lv_aload_n hx hb d_A_appS_43 rfl (lv_at hl 1 rfl) ?_
  have eL : (L ++ sb_cs i).length = L.length + sb_cn i := by rw [List.length_append, hcl]
  rw [← eL] at hP hD
  have hTX1 : tt_TX (L ++ sb_cs i) (va_cpy (sb_cf i) f1 0 L.length (sb_cn i)) := by rw [← hcl]; exact sb_TXc (fun j hj => (hk9 j (by omega)).trans (hTX j hj)) (fun j hj => sb_cs_at i hi j (by omega))
  have hB : sbS D cB sz b (L ++ sb_cs i) H1 := ⟨v1, cap1, _, hP, hD, hcap1, by omega, hTX1, sb_Ac (sb_cf_A i hi) hA1⟩
  have hO := sO.of hC.2.2.2.2.2.2 hS
  exact W.aret hx hb hr (Or.inl ⟨_, rfl⟩) (Or.inr ⟨_, rfl⟩) (fun t ht hW => ⟨_, rfl, rfl, by rw [ht]; exact hB, by rw [ht]; exact hO⟩) hS.2.2 d_A_appS_44
set_option maxHeartbeats 4000000 in
set_option maxRecDepth 100000 in
theorem c_S_appS (l : Launch) (D : va_G) (cB : ClassId) (sz b : Nat) {L : List Nat} (adK adV : Nat → Nat) {i : Nat} (hi : i < 2) (h34 : L.length + 6 ≤ 34) : Met l y_S_appS (wT y_S_appS b_S_appS 2 (some (.object "java/lang/StringBuilder"))) ({ frames := 5, cells := 1, slots := 34, locals := 134 }) (tb (wSK D cB sz b L adK adV) [.ref b, .ref (adK i)]) (sbQ D cB sz b (L ++ sb_cs i) (some (.ref b))) 1 34 (aSz sz) := by
  refine va_MetF (cc := b_S_appS) (maxL := 2) (ret := (some (.object "java/lang/StringBuilder"))) (by decide +kernel) rfl ?_
  intro p e s m args below meth c s₁ B hml hv
  obtain ⟨rfl, ⟨hK, hC, hB⟩, hE⟩ := hv
  have hx := B.exec
  have hb := B.bytes
  have hr := B.returns
  have hts := atoms_spec (ws := wT y_S_appS b_S_appS 2 (some (.object "java/lang/StringBuilder"))) B.pre
  have hT : ∀ w ∈ TT, w ∈ wT y_S_appS b_S_appS 2 (some (.object "java/lang/StringBuilder")) := wT_T
  have hown : s.vm.findClass RS = some m.cls := findClass_of_methodNamed B.named
  have hlocks := B.notSynchronized
  have hl := lv_entry ([.ref b, .ref (adK i)]) (n := 2) (Nat.le_of_ble_eq_true rfl)
  rw [lg_entry_eq]
  generalize (lg_sl ([.ref b, .ref (adK i)]) ++ List.replicate (2 - (lg_sl ([.ref b, .ref (adK i)])).length) Slot.unset).toArray = ls at hl ⊢
  have hl : lv_has ls 2 [(0, .ref b), (1, .ref (adK i))] := hl
  have hS : va_S (aSz sz) s.heap s.heap [] := va_S.rf
  refine lv_aload_n hx hb d_S_appS_0 rfl (lv_at hl 0 rfl) ?_
  refine lv_aload_n hx hb d_S_appS_1 rfl (lv_at hl 1 rfl) ?_
  refine tg_U (hK.1 0 _ rfl).2 ⟨hx, hb, hml, hown, hts⟩ hT (c_A_appS l D cB sz b adK adV hi h34) lk_S_29 wSK_mv ⟨⟨hK, hC, hB⟩, hE⟩ (sbS_rc hK hB) rfl hl.1 rfl (Nat.le_of_ble_eq_true rfl) d_S_appS_2 ⟨rfl, rfl, Nat.le_of_ble_eq_true rfl, Nat.le_of_ble_eq_true rfl⟩ ⟨Nat.le_of_ble_eq_true rfl, Nat.le_of_ble_eq_true rfl⟩ hS.2.2 (fun v9 H1 locs1 hF9 hL9 => ?_)
  obtain ⟨rfl, hB, hO⟩ := hF9
  refine lv_pop hx hb d_S_appS_5 rfl ?_
  refine lv_aload_n hx hb d_S_appS_6 rfl (lv_at hl 0 rfl) ?_
  exact W.aret hx hb hr (Or.inl ⟨_, rfl⟩) (Or.inr ⟨_, rfl⟩) (fun t ht hW => ⟨_, rfl, rfl, by rw [ht]; exact hB, by rw [ht]; exact hO⟩) hL9 d_S_appS_7
