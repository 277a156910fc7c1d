/-! the JDK's StringBuilder: capacity, letters. Written by wip/whole/gen.py -/
def wB (D : va_G) (cB : ClassId) (sz b : Nat) (fs : List Value) (U : State) (H : Heap) : Prop := tkB D cB U ∧ kc sz U H ∧ va_P D scl [(b, .inr (0, fs))] H
theorem wB_mv {D : va_G} {cB : ClassId} {sz b : Nat} {fs : List Value} : tmov (wB D cB sz b fs) := fun _ _ _ hW h => ⟨tkB_mv hW h.1, kc_mv _ _ _ hW h.2.1, h.2.2⟩
def wBA (D : va_G) (cB : ClassId) (sz b v n cap : Nat) (f : Nat → Int32) (U : State) (H : Heap) : Prop := tkB D cB U ∧ kc sz U H ∧ va_P D scl (sb_w cB b v n cap f) H ∧ va_D (aSz sz) (sb_w cB b v n cap f)
theorem wBA_mv {D : va_G} {cB : ClassId} {sz b v n cap : Nat} {f : Nat → Int32} : tmov (wBA D cB sz b v n cap f) := fun _ _ _ hW h => ⟨tkB_mv hW h.1, kc_mv _ _ _ hW h.2.1, h.2.2⟩
theorem sb_rc {D : va_G} {cB : ClassId} {b : Nat} {fs : List Value} {ws : va_W} {s : State} {H : Heap} (hK : tkB D cB s) (hP : va_P D scl ws H) (he : ws[0]? = some (b, .inr (0, fs))) : ∃ cellB : Cell, H[b]? = some cellB ∧ cellB.vm.isStatics = false ∧ s.vm.findClass RS = some cellB.cls := va_recv (q0 := 0) hK hP (q := (RS, TSB, 4)) (ci := 0) rfl he
theorem nI_max {a b : Nat} (ha : a < 2147483648) (hb : b < 2147483648) : (if nI a < nI b then nI b else nI a) = nI (max a b) := by
  by_cases h : a < b
  · rw [if_pos (nI_lt h hb), Nat.max_eq_right (by omega)]
  · rw [if_neg (nI_nlt (by omega) ha), Nat.max_eq_left (by omega)]
set_option maxHeartbeats 4000000 in
set_option maxRecDepth 100000 in
theorem c_A_isL1 (l : Launch) (D : va_G) (cB : ClassId) (sz b : Nat) (r x y : Value) : Met l y_A_isL1 (wT y_A_isL1 b_A_isL1 1 (some .boolean)) (rP 0 0) (tb (wB D cB sz b [r, .int 0, x, y]) [.ref b]) (tq_P (some (.int 1))) 0 0 tq_n := by
  refine va_MetF (cc := b_A_isL1) (maxL := 1) (ret := (some .boolean)) (by decide +kernel) rfl ?_
  intro p e s m args below meth c s₁ B hml hv
  obtain ⟨rfl, hK, hC, hP⟩ := hv
  have hx := B.exec
  have hb := B.bytes
  have hr := B.returns
  have hts := atoms_spec (ws := wT y_A_isL1 b_A_isL1 1 (some .boolean)) B.pre
  have hT : ∀ w ∈ TT, w ∈ wT y_A_isL1 b_A_isL1 1 (some .boolean) := wT_T
  have hown : s.vm.findClass RA = some m.cls := findClass_of_methodNamed B.named
  have hlocks := B.notSynchronized
  have hl := lv_entry ([.ref b]) (n := 1) (Nat.le_of_ble_eq_true rfl)
  rw [lg_entry_eq]
  generalize (lg_sl ([.ref b]) ++ List.replicate (1 - (lg_sl ([.ref b])).length) Slot.unset).toArray = ls at hl ⊢
  have hl : lv_has ls 1 [(0, .ref b)] := hl
  have hS : va_S (aSz sz) s.heap s.heap [] := va_S.rf
  refine va_gets hx hb hC.1 hS hown (hts _ (hT _ k_A_18)) (fun _ h => h) d_A_isL1_0 ?_
  refine lv_if_eq hx hb d_A_isL1_3 (tgt := 17) (by decide) (fun hyes => absurd hyes (by decide)) (fun _ => ?_)
  refine lv_aload_n hx hb d_A_isL1_6 rfl (lv_at hl 0 rfl) ?_
  refine va_get hx hb hts (fun w h => hT w (uS_in w h)) hown hK hP 0 rfl rfl 1 (by decide) (hts _ (hT _ k_A_22)) (fun _ h => h) rfl d_A_isL1_7 ?_
  refine lv_if_ne hx hb d_A_isL1_10 (tgt := 17) (by decide) (fun hyes => absurd rfl hyes) (fun _ => ?_)
  refine lv_iconst hx hb d_A_isL1_13 (v := (nI 1)) rfl ?_
  refine lv_goto hx hb d_A_isL1_14 (tgt := 18) (by decide) ?_
  exact W.zret hx hb hr narrow_b1 (fun t ht hW => ⟨_, rfl, ⟨rfl, ht⟩⟩) (fun q hq => nomatch hq) d_A_isL1_18
set_option maxHeartbeats 4000000 in
set_option maxRecDepth 100000 in
theorem c_N_canEnc (l : Launch) {ch : Nat} (hc : ch < 128) : Met l y_N_canEnc (wT y_N_canEnc b_N_canEnc 1 (some .boolean)) (rP 0 0) (tb (wN) [.int (nI ch)]) (tq_P (some (.int 1))) 0 0 tq_n := by
  refine va_MetF (cc := b_N_canEnc) (maxL := 1) (ret := (some .boolean)) (by decide +kernel) rfl ?_
  intro p e s m args below meth c s₁ B hml hv
  obtain ⟨rfl, hv⟩ := hv
  have hx := B.exec
  have hb := B.bytes
  have hr := B.returns
  have hts := atoms_spec (ws := wT y_N_canEnc b_N_canEnc 1 (some .boolean)) B.pre
  have hT : ∀ w ∈ TT, w ∈ wT y_N_canEnc b_N_canEnc 1 (some .boolean) := wT_T
  have hown : s.vm.findClass RN = some m.cls := findClass_of_methodNamed B.named
  have hlocks := B.notSynchronized
  have hl := lv_entry ([.int (nI ch)]) (n := 1) (Nat.le_of_ble_eq_true rfl)
  rw [lg_entry_eq]
  generalize (lg_sl ([.int (nI ch)]) ++ List.replicate (1 - (lg_sl ([.int (nI ch)])).length) Slot.unset).toArray = ls at hl ⊢
  have hl : lv_has ls 1 [(0, .int (nI ch))] := hl
  refine lv_iload_n hx hb d_N_canEnc_0 rfl (lv_at hl 0 rfl) ?_
  refine lv_sipush hx hb d_N_canEnc_1 (v := (nI 255)) rfl ?_
  refine lv_icmp_gt hx hb d_N_canEnc_4 (tgt := 11) (by decide) (fun hyes => absurd hyes (nI_nlt (show ch ≤ 255 by omega) (by decide))) (fun _ => ?_)
  refine lv_iconst hx hb d_N_canEnc_7 (v := (nI 1)) rfl ?_
  refine lv_goto hx hb d_N_canEnc_8 (tgt := 12) (by decide) ?_
  exact W.zret hx hb hr narrow_b1 (fun t ht hW => ⟨_, rfl, ⟨rfl, ht⟩⟩) (fun q hq => nomatch hq) d_N_canEnc_12
set_option maxHeartbeats 4000000 in
set_option maxRecDepth 100000 in
theorem c_P_newLen (l : Launch) {o mg pg : Nat} (ho : o < 100000) (h1 : mg < 100000) (h2 : pg < 100000) (h3 : 1 ≤ mg) : Met l y_P_newLen (wT y_P_newLen b_P_newLen 4 (some .int)) (rP 1 30) (tb (wN) [.int (nI o), .int (nI mg), .int (nI pg)]) (tq_P (some (.int (nI (o + max mg pg))))) 0 0 tq_n := by
  refine va_MetF (cc := b_P_newLen) (maxL := 4) (ret := (some .int)) (by decide +kernel) rfl ?_
  intro p e s m args below meth c s₁ B hml hv
  obtain ⟨rfl, hv⟩ := hv
  have hx := B.exec
  have hb := B.bytes
  have hr := B.returns
  have hts := atoms_spec (ws := wT y_P_newLen b_P_newLen 4 (some .int)) B.pre
  have hT : ∀ w ∈ TT, w ∈ wT y_P_newLen b_P_newLen 4 (some .int) := wT_T
  have hown : s.vm.findClass RP = some m.cls := findClass_of_methodNamed B.named
  have hlocks := B.notSynchronized
  have hl := lv_entry ([.int (nI o), .int (nI mg), .int (nI pg)]) (n := 4) (Nat.le_of_ble_eq_true rfl)
  rw [lg_entry_eq]
  generalize (lg_sl ([.int (nI o), .int (nI mg), .int (nI pg)]) ++ List.replicate (4 - (lg_sl ([.int (nI o), .int (nI mg), .int (nI pg)])).length) Slot.unset).toArray = ls at hl ⊢
  have hl : lv_has ls 4 [(0, .int (nI o)), (1, .int (nI mg)), (2, .int (nI pg))] := hl
  refine lv_iload_n hx hb d_P_newLen_0 rfl (lv_at hl 0 rfl) ?_
  refine lv_iload_n hx hb d_P_newLen_1 rfl (lv_at hl 1 rfl) ?_
  refine lv_iload_n hx hb d_P_newLen_2 rfl (lv_at hl 2 rfl) ?_
  refine va_mmax hx hb (hml.trans hl.1.symm) hown (hts _ (hT _ k_mx_P)) (hts _ (hT _ k_mx_s)) (hts _ (hT _ k_ini_Math)) (hts _ (hT _ k_mx_c)) (Nat.le_of_ble_eq_true rfl) (Nat.le_of_ble_eq_true rfl) (Nat.zero_le _) (Nat.zero_le _) d_P_newLen_3 ?_
  refine tq_ti (show _ = (nI (max mg pg)) from nI_max (by omega) (by omega)) ?_
  refine lv_iadd hx hb d_P_newLen_6 ?_
  refine tq_ti (show _ = (nI (o + max mg pg)) from nI_add _ _) ?_
  refine lv_istore_n hx hb d_P_newLen_7 rfl hl (by decide) (lv' := [(3, .int (nI (o + max mg pg))), (0, .int (nI o)), (1, .int (nI mg)), (2, .int (nI pg))]) rfl (fun ls hl => ?_)
  refine lv_iconst hx hb d_P_newLen_8 (v := (nI 0)) rfl ?_
  refine lv_iload_n hx hb d_P_newLen_9 rfl (lv_at hl 0 rfl) ?_
  refine lv_icmp_ge hx hb d_P_newLen_10 (tgt := 21) (by decide) (fun hyes => absurd hyes (nI_nle (show 0 < o + max mg pg by omega) (by omega))) (fun _ => ?_)
  refine lv_iload_n hx hb d_P_newLen_13 rfl (lv_at hl 0 rfl) ?_
  refine lv_ldc hx hb (v := (nI 2147483639)) hown (hts _ (hT _ k_P_200)) d_P_newLen_14 ?_
  refine lv_icmp_gt hx hb d_P_newLen_16 (tgt := 21) (by decide) (fun hyes => absurd hyes (nI_nlt (show o + max mg pg ≤ 2147483639 by omega) (by decide))) (fun _ => ?_)
  refine lv_iload_n hx hb d_P_newLen_19 rfl (lv_at hl 0 rfl) ?_
  exact W.iret hx hb hr (fun t ht hW => ⟨_, rfl, ⟨rfl, ht⟩⟩) (fun q hq => nomatch hq) d_P_newLen_20
set_option maxHeartbeats 4000000 in
set_option maxRecDepth 100000 in
theorem c_A_newCap (l : Launch) (D : va_G) (cB : ClassId) (sz b v n cap : Nat) (f : Nat → Int32) {q : Nat} (hq : q < 10000) (hc0 : cap < q) : Met l y_A_newCap (wT y_A_newCap b_A_newCap 6 (some .int)) (rP 2 60) (tb (wBA D cB sz b v n cap f) [.ref b, .int (nI q)]) (tq_P (some (.int (nI (cap + max (q - cap) (cap + 2)))))) 0 0 tq_n := by
  refine va_MetF (cc := b_A_newCap) (maxL := 6) (ret := (some .int)) (by decide +kernel) rfl ?_
  intro p e s m args below meth c s₁ B hml hv
  obtain ⟨rfl, hK, hC, hP, hD⟩ := hv
  have hx := B.exec
  have hb := B.bytes
  have hr := B.returns
  have hts := atoms_spec (ws := wT y_A_newCap b_A_newCap 6 (some .int)) B.pre
  have hT : ∀ w ∈ TT, w ∈ wT y_A_newCap b_A_newCap 6 (some .int) := wT_T
  have hown : s.vm.findClass RA = some m.cls := findClass_of_methodNamed B.named
  have hlocks := B.notSynchronized
  have hl := lv_entry ([.ref b, .int (nI q)]) (n := 6) (Nat.le_of_ble_eq_true rfl)
  rw [lg_entry_eq]
  generalize (lg_sl ([.ref b, .int (nI q)]) ++ List.replicate (6 - (lg_sl ([.ref b, .int (nI q)])).length) Slot.unset).toArray = ls at hl ⊢
  have hl : lv_has ls 6 [(0, .ref b), (1, .int (nI q))] := hl
  refine lv_aload_n hx hb d_A_newCap_0 rfl (lv_at hl 0 rfl) ?_
  refine va_get hx hb hts (fun w h => hT w (uS_in w h)) hown hK hP 0 rfl rfl 0 (by decide) (hts _ (hT _ k_A_15)) (fun _ h => h) rfl d_A_newCap_1 ?_
  refine va_alen hx hb hK hP 1 0 rfl rfl (v := (nI cap)) rfl d_A_newCap_4 ?_
  refine lv_istore_n hx hb d_A_newCap_5 rfl hl (by decide) (lv' := [(2, .int (nI cap)), (0, .ref b), (1, .int (nI q))]) rfl (fun ls hl => ?_)
  refine lv_iload_n hx hb d_A_newCap_6 rfl (lv_at hl 2 rfl) ?_
  refine lv_aload_n hx hb d_A_newCap_7 rfl (lv_at hl 1 rfl) ?_
  refine va_get hx hb hts (fun w h => hT w (uS_in w h)) hown hK hP 0 rfl rfl 1 (by decide) (hts _ (hT _ k_A_22)) (fun _ h => h) rfl d_A_newCap_8 ?_
  refine lv_ishl hx hb d_A_newCap_11 ?_
  refine tq_ti (show _ = (nI q) from sb_shl0 _) ?_
  refine lv_istore_n hx hb d_A_newCap_12 rfl hl (by decide) (lv' := [(3, .int (nI q)), (2, .int (nI cap)), (0, .ref b), (1, .int (nI q))]) rfl (fun ls hl => ?_)
  refine lv_iload_n hx hb d_A_newCap_13 rfl (lv_at hl 0 rfl) ?_
  refine lv_iload_n hx hb d_A_newCap_14 rfl (lv_at hl 1 rfl) ?_
  refine lv_isub hx hb d_A_newCap_15 ?_
  refine tq_ti (show _ = (nI (q - cap)) from pk_sub (by omega)) ?_
  refine lv_istore hx hb d_A_newCap_16 hl (by decide) (lv' := [(4, .int (nI (q - cap))), (3, .int (nI q)), (2, .int (nI cap)), (0, .ref b), (1, .int (nI q))]) rfl (fun ls hl => ?_)
  refine lv_iload_n hx hb d_A_newCap_18 rfl (lv_at hl 2 rfl) ?_
  refine lv_iload hx hb d_A_newCap_19 (lv_at hl 0 rfl) ?_
  refine lv_iload_n hx hb d_A_newCap_21 rfl (lv_at hl 2 rfl) ?_
  refine lv_iconst hx hb d_A_newCap_22 (v := (nI 2)) rfl ?_
  refine lv_aload_n hx hb d_A_newCap_23 rfl (lv_at hl 3 rfl) ?_
  refine va_get hx hb hts (fun w h => hT w (uS_in w h)) hown hK hP 0 rfl rfl 1 (by decide) (hts _ (hT _ k_A_22)) (fun _ h => h) rfl d_A_newCap_24 ?_
  refine lv_ishl hx hb d_A_newCap_27 ?_
  refine tq_ti (show _ = (nI 2) from rfl) ?_
  refine lv_iadd hx hb d_A_newCap_28 ?_
  refine tq_ti (show _ = (nI (cap + 2)) from nI_add _ _) ?_
  refine tq_S ⟨hx, hb, hml, hown, hts⟩ hT (c_P_newLen l (o := cap) (mg := q - cap) (pg := cap + 2) (by omega) (by omega) (by omega) (by omega)) lk_A_114 wN_mv trivial rfl hl.1 rfl (Nat.le_of_ble_eq_true rfl) d_A_newCap_29 ⟨rfl, rfl, Nat.le_of_ble_eq_true rfl, Nat.le_of_ble_eq_true rfl⟩ ⟨Nat.zero_le _, Nat.zero_le _⟩ ?_
  refine lv_istore hx hb d_A_newCap_32 hl (by decide) (lv' := [(5, .int (nI (cap + max (q - cap) (cap + 2)))), (4, .int (nI (q - cap))), (3, .int (nI q)), (2, .int (nI cap)), (0, .ref b), (1, .int (nI q))]) rfl (fun ls hl => ?_)
  refine lv_iload hx hb d_A_newCap_34 (lv_at hl 0 rfl) ?_
  refine lv_ldc hx hb (v := (nI 2147483647)) hown (hts _ (hT _ k_A_39)) d_A_newCap_36 ?_
  refine lv_icmp_ne hx hb d_A_newCap_38 (tgt := 51) (by decide) (fun _ => ?_) (fun hno => absurd hno (fun z => by have := (nI_eq (a := cap + max (q - cap) (cap + 2)) (b := 2147483647) (by omega) (by decide)).mp z; omega))
  refine lv_iload hx hb d_A_newCap_51 (lv_at hl 0 rfl) ?_
  refine lv_aload_n hx hb d_A_newCap_53 rfl (lv_at hl 4 rfl) ?_
  refine va_get hx hb hts (fun w h => hT w (uS_in w h)) hown hK hP 0 rfl rfl 1 (by decide) (hts _ (hT _ k_A_22)) (fun _ h => h) rfl d_A_newCap_54 ?_
  refine lv_ishr hx hb d_A_newCap_57 ?_
  refine tq_ti (show _ = (nI (cap + max (q - cap) (cap + 2))) from sb_shr0 _) ?_
  exact W.iret hx hb hr (fun t ht hW => ⟨_, rfl, ⟨rfl, ht⟩⟩) (fun q hq => nomatch hq) d_A_newCap_58
set_option maxHeartbeats 4000000 in
set_option maxRecDepth 100000 in
theorem c_R_copyOf (l : Launch) (D : va_G) (cB : ClassId) (sz v cap : Nat) (f : Nat → Int32) (hA9 : sb_A f) (hv9 : sz ≤ v) {q : Nat} (hq : q ≤ 1000) (hc0 : cap < q) : Met l y_R_copyOf (wT y_R_copyOf b_R_copyOf 3 (some (.array .byte))) ({ frames := 1, cells := 1, slots := q, locals := 60 }) (tb ((fun U H => tkB D cB U ∧ va_P D scl [(v, .inl (cB, cap, .inl f))] H ∧ sz ≤ H.size)) [.ref v, .int (nI q)]) (tq_Q (fun o9 H H1 => o9 = some (.ref H.size) ∧ H.size + 1 ≤ H1.size ∧ (∀ z : Nat, z < H.size → H1[z]? = H[z]?) ∧ va_P D scl [(H.size, .inl (cB, q, .inl (va_cpy f (fun _ => 0) 0 0 cap)))] H1)) 1 q (aSz sz) := by
  refine va_MetF (cc := b_R_copyOf) (maxL := 3) (ret := (some (.array .byte))) (by decide +kernel) rfl ?_
  intro p e s m args below meth c s₁ B hml hv
  obtain ⟨rfl, hK, hP, hz0⟩ := hv
  have hx := B.exec
  have hb := B.bytes
  have hr := B.returns
  have hts := atoms_spec (ws := wT y_R_copyOf b_R_copyOf 3 (some (.array .byte))) B.pre
  have hT : ∀ w ∈ TT, w ∈ wT y_R_copyOf b_R_copyOf 3 (some (.array .byte)) := wT_T
  have hown : s.vm.findClass RR = some m.cls := findClass_of_methodNamed B.named
  have hlocks := B.notSynchronized
  have hl := lv_entry ([.ref v, .int (nI q)]) (n := 3) (Nat.le_of_ble_eq_true rfl)
  rw [lg_entry_eq]
  generalize (lg_sl ([.ref v, .int (nI q)]) ++ List.replicate (3 - (lg_sl ([.ref v, .int (nI q)])).length) Slot.unset).toArray = ls at hl ⊢
  have hl : lv_has ls 3 [(0, .ref v), (1, .int (nI q))] := hl
  refine lv_iload_n hx hb d_R_copyOf_0 rfl (lv_at hl 1 rfl) ?_
  refine lv_aload_n hx hb d_R_copyOf_1 rfl (lv_at hl 0 rfl) ?_
  refine va_alen hx hb hK hP 0 0 rfl rfl (v := (nI cap)) rfl d_R_copyOf_2 ?_
  refine lv_icmp_ne hx hb d_R_copyOf_3 (tgt := 14) (by decide) (fun _ => ?_) (fun hno => absurd hno (fun z => by have := (nI_eq (by omega) (by omega)).mp z; omega))
  refine lv_iload_n hx hb d_R_copyOf_14 rfl (lv_at hl 1 rfl) ?_
  refine va_newaK (atype := .byte) hx hb (hts _ (hT _ k_arr_byte)) rfl d_R_copyOf_15 rfl (N := q) (nI_pos (by omega)) (nI_clamp (by omega)) (by show q * 1 ≤ 536870912; omega) (by show 0 + 1 ≤ 1; decide) (by show 0 + q ≤ q; omega) rfl (fun H1 cA e1 z1 o1 hAr hNm => ?_)
  obtain rfl : cA = cB := Option.some.inj (hNm.symm.trans (hK.2 0 _ rfl).2)
  have hvl : v < s.heap.size := (hP 0 _ rfl).lt
  have hP0 := hP 0 _ rfl
  have hP : va_P D scl [(v, .inl (cA, cap, .inl f)), (s.heap.size, .inl (cA, q, .inl (fun _ => 0)))] H1 := vP_cons (hP.kept (fun k x hx => o1 x.1 (by cases k with | zero => cases hx; exact hvl | succ k => cases hx))) (fun k x hx => by cases k with | zero => cases hx; exact e1 | succ k => cases hx)
  have hD : va_D (fun z => z = v ∨ s.heap.size ≤ z) [(v, (Sum.inl (cA, cap, Sum.inl f) : va_E)), (s.heap.size, .inl (cA, q, .inl (fun _ => 0)))] := ⟨fun i j x y hi hj he => by match i, j, hi, hj with | 0, 0, _, _ => rfl | 1, 1, _, _ => rfl | 0, 1, rfl, rfl => exact absurd (show v = s.heap.size from he) (by omega) | 1, 0, rfl, rfl => exact absurd (show s.heap.size = v from he) (by omega), fun k x hk => by match k, hk with | 0, rfl => exact Or.inl rfl | 1, rfl => exact Or.inr (Nat.le_refl _)⟩
  have hS : va_S (fun z => z = v ∨ s.heap.size ≤ z) s.heap H1 [] := ⟨by omega, fun z h1 _ => o1 z h1, fun _ h => nomatch h⟩
  refine lv_astore_n hx hb d_R_copyOf_17 rfl hl (by decide) (lv' := [(2, .ref s.heap.size), (0, .ref v), (1, .int (nI q))]) rfl (fun ls hl => ?_)
  refine lv_aload_n hx hb d_R_copyOf_18 rfl (lv_at hl 1 rfl) ?_
  refine lv_iconst hx hb d_R_copyOf_19 (v := (nI 0)) rfl ?_
  refine lv_aload_n hx hb d_R_copyOf_20 rfl (lv_at hl 0 rfl) ?_
  refine lv_iconst hx hb d_R_copyOf_21 (v := (nI 0)) rfl ?_
  refine lv_aload_n hx hb d_R_copyOf_22 rfl (lv_at hl 1 rfl) ?_
  refine va_alen hx hb hK hP 0 0 rfl rfl (v := (nI cap)) rfl d_R_copyOf_23 ?_
  refine lv_iload_n hx hb d_R_copyOf_24 rfl (lv_at hl 2 rfl) ?_
  refine va_mmin hx hb (hml.trans hl.1.symm) hown (hts _ (hT _ k_mn_R)) (hts _ (hT _ km_min_s)) (hts _ (hT _ k_ini_Math)) (hts _ (hT _ km_min_c)) (Nat.le_of_ble_eq_true rfl) (Nat.le_of_ble_eq_true rfl) (by show 0 + 1 ≤ 1; decide) (by show 0 + q ≤ q; omega) d_R_copyOf_25 ?_
  refine tq_ti (show _ = (nI cap) from (if_neg (nI_nlt (by omega) (by omega)))) ?_
  have ecap : (nI cap).toNatClampNeg = cap := nI_clamp (by omega)
  refine va_copyi hx hb (hml.trans hl.1.symm) hown (hts _ (hT _ k_ac_R)) (hts _ (hT _ k_ac_n)) (hts _ (hT _ k_ac_s)) (hts _ (hT _ k_ini_System)) hK hP hD hS 0 1 0 0 rfl rfl rfl rfl rfl (by decide) (by decide) (nI_pos (by omega)) (by rw [ecap]; show 0 + cap ≤ cap; omega) (by rw [ecap]; show 0 + cap ≤ q; omega) (fun i _ => sb_fit hA9 _) (Nat.le_of_ble_eq_true rfl) (Nat.le_of_ble_eq_true rfl) d_R_copyOf_28 (fun H2 locs2 hP hD hS => ?_)
  refine lv_aload_n hx hb d_R_copyOf_31 rfl (lv_at hl 0 rfl) ?_
  rw [ecap] at hP
  refine W.widen (k := 1) (n := q) (by decide) (by omega) ?_
  refine W.aret hx hb hr (Or.inr ⟨_, rfl⟩) (Or.inr ⟨_, rfl⟩) (fun t ht hW => ⟨_, rfl, rfl, ?_, ?_, ?_⟩) (fun z hz => by rcases hS.2.2 z hz with h | h; show sz ≤ z.base; omega; exact Nat.le_trans hz0 h) d_R_copyOf_32
  · rw [ht]; exact (hP 1 _ rfl).lt
  · intro z hz9
    rw [ht]
    by_cases e9 : z = v
    · subst e9; exact (show H2[z]? = _ from hP 0 _ rfl).trans (show s.heap[z]? = _ from hP0).symm
    · exact hS.2.1 z hz9 (by omega)
  · rw [ht]; exact fun k x hx => by cases k with | zero => cases hx; exact hP 1 _ rfl | succ k => cases hx
