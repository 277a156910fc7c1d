/-! the law's wrappers, case by case. Written by wip/whole/gen.py -/
set_option maxHeartbeats 4000000 in
set_option maxRecDepth 100000 in
theorem w_level_A (l : Launch) (htr : l.stackTraces = false) (D : va_G) (ci : Nat → ClassId) (ad : Nat → Nat) (g : TS) (tc td : Int32) (tn : Nat → Int32) (D2 : va_G) (cB : ClassId) (sz0 : Nat) (ao : Nat) (o : Nat → Int64) {z : Int} (hv1 : -1000000 ≤ z) (hv2 : z ≤ 1000000) : Met l y_L_level (wH y_L_level b_L_level 4 (some .int) [(0, 9, 12, 13)]) ({ frames := 10, cells := 22, slots := 672, locals := 260 }) (tb (wl D ci ad g tc td tn D2 cB sz0 ao o) [.ref (ad 0), .int (iZ z), .ref ao]) (lQ D ci ad ao (nI 0, (iZ (tt_lev g)).toInt64, (ts_lev g z))) 22 672 (lF ad ao) := by
  refine va_MetW (cc := b_L_level) (maxL := 4) (ret := (some .int)) (hh := [(0, 9, 12, 13)]) (by decide) rfl ?_
  intro p e s m args below meth c s₁ B hml hv
  obtain ⟨rfl, ⟨⟨⟨hK, hg, hX, hD, hCI⟩, hKB, hKC, hsz⟩, hE⟩, hA, hne⟩ := hv
  have hx := B.exec
  have hb := B.bytes
  have hr := B.returns
  have hts := atoms_spec (ws := wH y_L_level b_L_level 4 (some .int) [(0, 9, 12, 13)]) B.pre
  have hT : ∀ w ∈ TT, w ∈ wH y_L_level b_L_level 4 (some .int) [(0, 9, 12, 13)] := wH_T
  have hown : s.vm.findClass RL = some m.cls := findClass_of_methodNamed B.named
  have hlocks := B.notSynchronized
  have hl := lv_entry ([.ref (ad 0), .int (iZ z), .ref ao]) (n := 4) (Nat.le_of_ble_eq_true rfl)
  rw [lg_entry_eq]
  generalize (lg_sl ([.ref (ad 0), .int (iZ z), .ref ao]) ++ List.replicate (4 - (lg_sl ([.ref (ad 0), .int (iZ z), .ref ao])).length) Slot.unset).toArray = ls at hl ⊢
  have hl : lv_has ls 4 [(0, .ref (ad 0)), (1, .int (iZ z)), (2, .ref ao)] := hl
  have htab := vx_table (x := y_L_level) B (hts _ List.mem_cons_self)
  have hL : ∀ q ∈ ([] : List Loc), lF ad ao q.base := fun q hq => nomatch hq
  refine lv_aload_n hx hb d_L_level_0 rfl (lv_at hl 2 rfl) ?_
  refine lv_iconst hx hb d_L_level_1 (v := (nI 0)) rfl ?_
  refine lv_aload_n hx hb d_L_level_2 rfl (lv_at hl 0 rfl) ?_
  refine lv_iload_n hx hb d_L_level_3 rfl (lv_at hl 1 rfl) ?_
  refine tl_V (F2 := lF ad ao) (fun _ h => Or.inl h) ⟨hx, hb, hml, hown, hts⟩ hT (c_X_level l D ci ad g tc td tn hv1 hv2) lk_L_7 wXW_mv ⟨hK, hX, hD⟩ (wXW_rc hK hX) rfl hl.1 rfl (Nat.le_of_ble_eq_true rfl) d_L_level_4 ⟨rfl, rfl, Nat.le_of_ble_eq_true rfl, Nat.le_of_ble_eq_true rfl⟩ ⟨Nat.le_of_ble_eq_true rfl, Nat.le_of_ble_eq_true rfl⟩ hL (fun v9 H1 locs1 hF9 hL => ?_)
  obtain ⟨rfl, hX, hO9⟩ := hF9
  have hG := txG.ofO hO9
  have hA := lP_keep hne hA hG
  refine lv_i2l hx hb d_L_level_7 (v := (iZ (tt_lev g)).toInt64) rfl ?_
  refine tq_last (F := lF ad ao) hx hb hK 1 hA rfl (j := 0) (by decide) (by decide) (Or.inr rfl) hL d_L_level_8 (fun H2 locs2 hP2 hz2 hq2 hL => ?_)
  refine lv_goto hx hb d_L_level_9 (tgt := 15) (by decide) ?_
  refine lv_iconst hx hb d_L_level_15 (v := (nI 0)) rfl ?_
  have hX := tx_keep hX (fun k hk => hq2 _ (hne k hk))
  refine W.widen (k := 22) (n := 672) (Nat.le_of_ble_eq_true rfl) (Nat.le_of_ble_eq_true rfl) ?_
  exact W.iret hx hb hr (fun t ht hW => ⟨_, rfl, rfl, tc, td, tn, _, by rw [ht]; exact hX, ok_lev hg hv1 hv2, tt_CI_lev z hCI, by rw [ht]; exact hP2, fun _ => updL_0, by rw [ht]; exact lO.ofG hG hz2 hq2⟩) hL d_L_level_16
set_option maxHeartbeats 4000000 in
set_option maxRecDepth 100000 in
theorem w_level_B (l : Launch) (htr : l.stackTraces = false) (D : va_G) (ci : Nat → ClassId) (ad : Nat → Nat) (g : TS) (tc td : Int32) (tn : Nat → Int32) (D2 : va_G) (cB : ClassId) (sz0 : Nat) (ao : Nat) (o : Nat → Int64) (v : Int32) (hv0 : ¬ (-1000000 ≤ v.toInt ∧ v.toInt ≤ 1000000)) : Met l y_L_level (wH y_L_level b_L_level 4 (some .int) [(0, 9, 12, 13)]) ({ frames := 10, cells := 22, slots := 672, locals := 260 }) (tb (wl D ci ad g tc td tn D2 cB sz0 ao o) [.ref (ad 0), .int v, .ref ao]) (lQ D ci ad ao (nI 1, 0, g)) 22 672 (lF ad ao) := by
  refine va_MetW (cc := b_L_level) (maxL := 4) (ret := (some .int)) (hh := [(0, 9, 12, 13)]) (by decide) rfl ?_
  intro p e s m args below meth c s₁ B hml hv
  obtain ⟨rfl, ⟨⟨⟨hK, hg, hX, hD, hCI⟩, hKB, hKC, hsz⟩, hE⟩, hA, hne⟩ := hv
  have hx := B.exec
  have hb := B.bytes
  have hr := B.returns
  have hts := atoms_spec (ws := wH y_L_level b_L_level 4 (some .int) [(0, 9, 12, 13)]) B.pre
  have hT : ∀ w ∈ TT, w ∈ wH y_L_level b_L_level 4 (some .int) [(0, 9, 12, 13)] := wH_T
  have hown : s.vm.findClass RL = some m.cls := findClass_of_methodNamed B.named
  have hlocks := B.notSynchronized
  have hl := lv_entry ([.ref (ad 0), .int v, .ref ao]) (n := 4) (Nat.le_of_ble_eq_true rfl)
  rw [lg_entry_eq]
  generalize (lg_sl ([.ref (ad 0), .int v, .ref ao]) ++ List.replicate (4 - (lg_sl ([.ref (ad 0), .int v, .ref ao])).length) Slot.unset).toArray = ls at hl ⊢
  have hl : lv_has ls 4 [(0, .ref (ad 0)), (1, .int v), (2, .ref ao)] := hl
  have htab := vx_table (x := y_L_level) B (hts _ List.mem_cons_self)
  have hL : ∀ q ∈ ([] : List Loc), lF ad ao q.base := fun q hq => nomatch hq
  refine lv_aload_n hx hb d_L_level_0 rfl (lv_at hl 2 rfl) ?_
  refine lv_iconst hx hb d_L_level_1 (v := (nI 0)) rfl ?_
  refine lv_aload_n hx hb d_L_level_2 rfl (lv_at hl 0 rfl) ?_
  refine lv_iload_n hx hb d_L_level_3 rfl (lv_at hl 1 rfl) ?_
  refine tl_X (F2 := lF ad ao) (fun _ h => h.elim) ⟨hx, hb, hml, hown, hts⟩ hT (x_X_level l htr D ci ad g tc td tn v hv0) lk_L_7 wXE_mv ⟨⟨hK, hg, hX⟩, hE⟩ (wXW_rc hK hX) rfl hl.1 rfl (Nat.le_of_ble_eq_true rfl) d_L_level_4 ⟨rfl, rfl, Nat.le_of_ble_eq_true rfl, Nat.le_of_ble_eq_true rfl⟩ ⟨Nat.le_of_ble_eq_true rfl, Nat.le_of_ble_eq_true rfl⟩ hL (fun E9 ce q9 st t locs1 hst hX9 hL h4 h5 h6 => ?_)
  obtain ⟨u9, hu9, hB9, hF9⟩ := hX9
  subst hB9
  have hG : txG ad s.heap t.heap := by have h := txG.ofF0 (ad := ad) hF9; rw [hst] at h; exact h
  have hX1 := tx_keep hX (fun k hk => (hF9.2 _ (by rw [hst]; exact tx_lt hX hk) (fun z => z)).trans (by rw [hst]))
  refine vx_catch (own := RL) (name := eA) hown [] ⟨0, 9, 12, 13⟩ [] (htab.trans rfl) (fun z hz => nomatch hz) (by decide) (by decide) (hts _ (hT _ k_L_13)) (eB_use hE.2.2.1 _ (List.mem_of_getElem? (i := 3) rfl)) h4 h5 h6 ?_
  show W p l e _ s m _ below meth c _ _ _ _ _ (F0 m 12 ls [.ref q9])
  refine lv_astore_n hx hb d_L_level_12 rfl hl (by decide) (lv' := [(3, .ref q9), (0, .ref (ad 0)), (1, .int v), (2, .ref ao)]) rfl (fun ls hl => ?_)
  refine lv_iconst hx hb d_L_level_13 (v := (nI 1)) rfl ?_
  refine W.widen (k := 22) (n := 672) (Nat.le_of_ble_eq_true rfl) (Nat.le_of_ble_eq_true rfl) ?_
  exact W.iret hx hb hr (fun t9 ht hW => ⟨_, rfl, rfl, tc, td, tn, o, by rw [ht]; exact hX1, hg, hCI, by rw [ht]; exact lP_keep hne hA hG, fun z => absurd (show (nI 1 : Int32) = nI 0 from z) (by decide), by rw [ht]; exact lO.ofG0 hG⟩) hL d_L_level_14
set_option maxHeartbeats 4000000 in
set_option maxRecDepth 100000 in
theorem w_constituent_A (l : Launch) (htr : l.stackTraces = false) (D : va_G) (ci : Nat → ClassId) (ad : Nat → Nat) (g : TS) (tc td : Int32) (tn : Nat → Int32) (D2 : va_G) (cB : ClassId) (sz0 : Nat) (ao : Nat) (o : Nat → Int64) {i a sp ph : Nat} (hi : i < 8) (ha : a ≤ 100000) (hsp : sp < 1099511627776) (hph : ph < 281474976710656) : Met l y_L_constituent (wH y_L_constituent b_L_constituent 8 (some .int) [(0, 9, 12, 19), (0, 9, 16, 13)]) ({ frames := 10, cells := 22, slots := 672, locals := 260 }) (tb (wl D ci ad g tc td tn D2 cB sz0 ao o) [.ref (ad 0), .int (nI i), .int (nI a), .long (lN sp), .long (lN ph)]) (lQ D ci ad ao (nI 0, o 0, (ts_pha (ts_spd (ts_amp g i a) i sp) i ph))) 22 672 (lF ad ao) := by
  refine va_MetW (cc := b_L_constituent) (maxL := 8) (ret := (some .int)) (hh := [(0, 9, 12, 19), (0, 9, 16, 13)]) (by decide) rfl ?_
  intro p e s m args below meth c s₁ B hml hv
  obtain ⟨rfl, ⟨⟨⟨hK, hg, hX, hD, hCI⟩, hKB, hKC, hsz⟩, hE⟩, hA, hne⟩ := hv
  have hx := B.exec
  have hb := B.bytes
  have hr := B.returns
  have hts := atoms_spec (ws := wH y_L_constituent b_L_constituent 8 (some .int) [(0, 9, 12, 19), (0, 9, 16, 13)]) B.pre
  have hT : ∀ w ∈ TT, w ∈ wH y_L_constituent b_L_constituent 8 (some .int) [(0, 9, 12, 19), (0, 9, 16, 13)] := wH_T
  have hown : s.vm.findClass RL = some m.cls := findClass_of_methodNamed B.named
  have hlocks := B.notSynchronized
  have hl := lv_entry ([.ref (ad 0), .int (nI i), .int (nI a), .long (lN sp), .long (lN ph)]) (n := 8) (Nat.le_of_ble_eq_true rfl)
  rw [lg_entry_eq]
  generalize (lg_sl ([.ref (ad 0), .int (nI i), .int (nI a), .long (lN sp), .long (lN ph)]) ++ List.replicate (8 - (lg_sl ([.ref (ad 0), .int (nI i), .int (nI a), .long (lN sp), .long (lN ph)])).length) Slot.unset).toArray = ls at hl ⊢
  have hl : lv_has ls 8 [(0, .ref (ad 0)), (1, .int (nI i)), (2, .int (nI a)), (3, .long (lN sp)), (5, .long (lN ph))] := hl
  have htab := vx_table (x := y_L_constituent) B (hts _ List.mem_cons_self)
  have hL : ∀ q ∈ ([] : List Loc), lF ad ao q.base := fun q hq => nomatch hq
  refine lv_aload_n hx hb d_L_constituent_0 rfl (lv_at hl 0 rfl) ?_
  refine lv_iload_n hx hb d_L_constituent_1 rfl (lv_at hl 1 rfl) ?_
  refine lv_iload_n hx hb d_L_constituent_2 rfl (lv_at hl 2 rfl) ?_
  refine lv_lload_n hx hb d_L_constituent_3 rfl (lv_at hl 3 rfl) ?_
  refine lv_lload hx hb d_L_constituent_4 (lv_at hl 4 rfl) ?_
  refine tl_V (F2 := lF ad ao) (fun _ h => Or.inl h) ⟨hx, hb, hml, hown, hts⟩ hT (c_X_constituent l D ci ad g tc td tn hi ha hsp hph) lk_L_15 wXW_mv ⟨hK, hX, hD⟩ (wXW_rc hK hX) rfl hl.1 rfl (Nat.le_of_ble_eq_true rfl) d_L_constituent_6 ⟨rfl, rfl, Nat.le_of_ble_eq_true rfl, Nat.le_of_ble_eq_true rfl⟩ ⟨Nat.le_of_ble_eq_true rfl, Nat.le_of_ble_eq_true rfl⟩ hL (fun v9 H1 locs1 hF9 hL => ?_)
  obtain ⟨rfl, hX, hO9⟩ := hF9
  have hG := txG.ofO hO9
  have hA := lP_keep hne hA hG
  refine lv_goto hx hb d_L_constituent_9 (tgt := 20) (by decide) ?_
  refine lv_iconst hx hb d_L_constituent_20 (v := (nI 0)) rfl ?_
  refine W.widen (k := 22) (n := 672) (Nat.le_of_ble_eq_true rfl) (Nat.le_of_ble_eq_true rfl) ?_
  exact W.iret hx hb hr (fun t ht hW => ⟨_, rfl, rfl, tc, (-1), tn, o, by rw [ht]; exact hX, ok_con hg ha hsp hph, Or.inl rfl, by rw [ht]; exact hA, fun _ => rfl, by rw [ht]; exact lO.ofG0 hG⟩) hL d_L_constituent_21
set_option maxHeartbeats 4000000 in
set_option maxRecDepth 100000 in
theorem w_constituent_B (l : Launch) (htr : l.stackTraces = false) (D : va_G) (ci : Nat → ClassId) (ad : Nat → Nat) (g : TS) (tc td : Int32) (tn : Nat → Int32) (D2 : va_G) (cB : ClassId) (sz0 : Nat) (ao : Nat) (o : Nat → Int64) (u v : Int32) (x z : Int64) (hv0 : ¬ (0 ≤ u.toInt ∧ u.toInt < 8)) : Met l y_L_constituent (wH y_L_constituent b_L_constituent 8 (some .int) [(0, 9, 12, 19), (0, 9, 16, 13)]) ({ frames := 10, cells := 22, slots := 672, locals := 260 }) (tb (wl D ci ad g tc td tn D2 cB sz0 ao o) [.ref (ad 0), .int u, .int v, .long x, .long z]) (lQ D ci ad ao (nI 1, 0, g)) 22 672 (lF ad ao) := by
  refine va_MetW (cc := b_L_constituent) (maxL := 8) (ret := (some .int)) (hh := [(0, 9, 12, 19), (0, 9, 16, 13)]) (by decide) rfl ?_
  intro p e s m args below meth c s₁ B hml hv
  obtain ⟨rfl, ⟨⟨⟨hK, hg, hX, hD, hCI⟩, hKB, hKC, hsz⟩, hE⟩, hA, hne⟩ := hv
  have hx := B.exec
  have hb := B.bytes
  have hr := B.returns
  have hts := atoms_spec (ws := wH y_L_constituent b_L_constituent 8 (some .int) [(0, 9, 12, 19), (0, 9, 16, 13)]) B.pre
  have hT : ∀ w ∈ TT, w ∈ wH y_L_constituent b_L_constituent 8 (some .int) [(0, 9, 12, 19), (0, 9, 16, 13)] := wH_T
  have hown : s.vm.findClass RL = some m.cls := findClass_of_methodNamed B.named
  have hlocks := B.notSynchronized
  have hl := lv_entry ([.ref (ad 0), .int u, .int v, .long x, .long z]) (n := 8) (Nat.le_of_ble_eq_true rfl)
  rw [lg_entry_eq]
  generalize (lg_sl ([.ref (ad 0), .int u, .int v, .long x, .long z]) ++ List.replicate (8 - (lg_sl ([.ref (ad 0), .int u, .int v, .long x, .long z])).length) Slot.unset).toArray = ls at hl ⊢
  have hl : lv_has ls 8 [(0, .ref (ad 0)), (1, .int u), (2, .int v), (3, .long x), (5, .long z)] := hl
  have htab := vx_table (x := y_L_constituent) B (hts _ List.mem_cons_self)
  have hL : ∀ q ∈ ([] : List Loc), lF ad ao q.base := fun q hq => nomatch hq
  refine lv_aload_n hx hb d_L_constituent_0 rfl (lv_at hl 0 rfl) ?_
  refine lv_iload_n hx hb d_L_constituent_1 rfl (lv_at hl 1 rfl) ?_
  refine lv_iload_n hx hb d_L_constituent_2 rfl (lv_at hl 2 rfl) ?_
  refine lv_lload_n hx hb d_L_constituent_3 rfl (lv_at hl 3 rfl) ?_
  refine lv_lload hx hb d_L_constituent_4 (lv_at hl 4 rfl) ?_
  refine tl_X (F2 := lF ad ao) (fun _ h => h.elim) ⟨hx, hb, hml, hown, hts⟩ hT (x_X_constituentI l htr D ci ad g tc td tn u v x z hv0) lk_L_15 wXE_mv ⟨⟨hK, hg, hX⟩, hE⟩ (wXW_rc hK hX) rfl hl.1 rfl (Nat.le_of_ble_eq_true rfl) d_L_constituent_6 ⟨rfl, rfl, Nat.le_of_ble_eq_true rfl, Nat.le_of_ble_eq_true rfl⟩ ⟨Nat.le_of_ble_eq_true rfl, Nat.le_of_ble_eq_true rfl⟩ hL (fun E9 ce q9 st t locs1 hst hX9 hL h4 h5 h6 => ?_)
  obtain ⟨u9, hu9, hB9, hF9⟩ := hX9
  subst hB9
  have hG : txG ad s.heap t.heap := by have h := txG.ofF0 (ad := ad) hF9; rw [hst] at h; exact h
  have hX1 := tx_keep hX (fun k hk => (hF9.2 _ (by rw [hst]; exact tx_lt hX hk) (fun z => z)).trans (by rw [hst]))
  refine vx_catch (own := RL) (name := eI) hown [] ⟨0, 9, 12, 19⟩ [⟨0, 9, 16, 13⟩] (htab.trans rfl) (fun z hz => nomatch hz) (by decide) (by decide) (hts _ (hT _ k_L_19)) (eB_use hE.2.2.1 _ (List.mem_of_getElem? (i := 4) rfl)) h4 h5 h6 ?_
  show W p l e _ s m _ below meth c _ _ _ _ _ (F0 m 12 ls [.ref q9])
  refine lv_astore hx hb d_L_constituent_12 hl (by decide) (lv' := [(7, .ref q9), (0, .ref (ad 0)), (1, .int u), (2, .int v), (3, .long x), (5, .long z)]) rfl (fun ls hl => ?_)
  refine lv_iconst hx hb d_L_constituent_14 (v := (nI 1)) rfl ?_
  refine W.widen (k := 22) (n := 672) (Nat.le_of_ble_eq_true rfl) (Nat.le_of_ble_eq_true rfl) ?_
  exact W.iret hx hb hr (fun t9 ht hW => ⟨_, rfl, rfl, tc, td, tn, o, by rw [ht]; exact hX1, hg, hCI, by rw [ht]; exact lP_keep hne hA hG, fun z => absurd (show (nI 1 : Int32) = nI 0 from z) (by decide), by rw [ht]; exact lO.ofG0 hG⟩) hL d_L_constituent_15
set_option maxHeartbeats 4000000 in
set_option maxRecDepth 100000 in
theorem w_constituent_C (l : Launch) (htr : l.stackTraces = false) (D : va_G) (ci : Nat → ClassId) (ad : Nat → Nat) (g : TS) (tc td : Int32) (tn : Nat → Int32) (D2 : va_G) (cB : ClassId) (sz0 : Nat) (ao : Nat) (o : Nat → Int64) (u v : Int32) (x z : Int64) (hv1 : 0 ≤ u.toInt ∧ u.toInt < 8) (hv0 : ¬ ((0 ≤ v.toInt ∧ v.toInt ≤ 100000) ∧ (0 ≤ x.toInt ∧ x.toInt < 1099511627776) ∧ 0 ≤ z.toInt ∧ z.toInt < 281474976710656)) : Met l y_L_constituent (wH y_L_constituent b_L_constituent 8 (some .int) [(0, 9, 12, 19), (0, 9, 16, 13)]) ({ frames := 10, cells := 22, slots := 672, locals := 260 }) (tb (wl D ci ad g tc td tn D2 cB sz0 ao o) [.ref (ad 0), .int u, .int v, .long x, .long z]) (lQ D ci ad ao (nI 2, 0, g)) 22 672 (lF ad ao) := by
  refine va_MetW (cc := b_L_constituent) (maxL := 8) (ret := (some .int)) (hh := [(0, 9, 12, 19), (0, 9, 16, 13)]) (by decide) rfl ?_
  intro p e s m args below meth c s₁ B hml hv
  obtain ⟨rfl, ⟨⟨⟨hK, hg, hX, hD, hCI⟩, hKB, hKC, hsz⟩, hE⟩, hA, hne⟩ := hv
  have hx := B.exec
  have hb := B.bytes
  have hr := B.returns
  have hts := atoms_spec (ws := wH y_L_constituent b_L_constituent 8 (some .int) [(0, 9, 12, 19), (0, 9, 16, 13)]) B.pre
  have hT : ∀ w ∈ TT, w ∈ wH y_L_constituent b_L_constituent 8 (some .int) [(0, 9, 12, 19), (0, 9, 16, 13)] := wH_T
  have hown : s.vm.findClass RL = some m.cls := findClass_of_methodNamed B.named
  have hlocks := B.notSynchronized
  have hl := lv_entry ([.ref (ad 0), .int u, .int v, .long x, .long z]) (n := 8) (Nat.le_of_ble_eq_true rfl)
  rw [lg_entry_eq]
  generalize (lg_sl ([.ref (ad 0), .int u, .int v, .long x, .long z]) ++ List.replicate (8 - (lg_sl ([.ref (ad 0), .int u, .int v, .long x, .long z])).length) Slot.unset).toArray = ls at hl ⊢
  have hl : lv_has ls 8 [(0, .ref (ad 0)), (1, .int u), (2, .int v), (3, .long x), (5, .long z)] := hl
  have htab := vx_table (x := y_L_constituent) B (hts _ List.mem_cons_self)
  have hL : ∀ q ∈ ([] : List Loc), lF ad ao q.base := fun q hq => nomatch hq
  refine lv_aload_n hx hb d_L_constituent_0 rfl (lv_at hl 0 rfl) ?_
  refine lv_iload_n hx hb d_L_constituent_1 rfl (lv_at hl 1 rfl) ?_
  refine lv_iload_n hx hb d_L_constituent_2 rfl (lv_at hl 2 rfl) ?_
  refine lv_lload_n hx hb d_L_constituent_3 rfl (lv_at hl 3 rfl) ?_
  refine lv_lload hx hb d_L_constituent_4 (lv_at hl 4 rfl) ?_
  refine tl_X (F2 := lF ad ao) (fun _ h => h.elim) ⟨hx, hb, hml, hown, hts⟩ hT (x_X_constituentA l htr D ci ad g tc td tn u v x z hv1 hv0) lk_L_15 wXE_mv ⟨⟨hK, hg, hX⟩, hE⟩ (wXW_rc hK hX) rfl hl.1 rfl (Nat.le_of_ble_eq_true rfl) d_L_constituent_6 ⟨rfl, rfl, Nat.le_of_ble_eq_true rfl, Nat.le_of_ble_eq_true rfl⟩ ⟨Nat.le_of_ble_eq_true rfl, Nat.le_of_ble_eq_true rfl⟩ hL (fun E9 ce q9 st t locs1 hst hX9 hL h4 h5 h6 => ?_)
  obtain ⟨u9, hu9, hB9, hF9⟩ := hX9
  subst hB9
  have hG : txG ad s.heap t.heap := by have h := txG.ofF0 (ad := ad) hF9; rw [hst] at h; exact h
  have hX1 := tx_keep hX (fun k hk => (hF9.2 _ (by rw [hst]; exact tx_lt hX hk) (fun z => z)).trans (by rw [hst]))
  refine vx_catch (own := RL) (name := eA) hown [⟨0, 9, 12, 19⟩] ⟨0, 9, 16, 13⟩ [] (htab.trans rfl) (fun z hz => by rw [List.mem_singleton.mp hz]; exact Or.inr ⟨by decide, _, hts _ (hT _ k_L_19), hE.2.2.2.2.1⟩) (by decide) (by decide) (hts _ (hT _ k_L_13)) (eB_use hE.2.2.1 _ (List.mem_of_getElem? (i := 3) rfl)) h4 h5 h6 ?_
  show W p l e _ s m _ below meth c _ _ _ _ _ (F0 m 16 ls [.ref q9])
  refine lv_astore hx hb d_L_constituent_16 hl (by decide) (lv' := [(7, .ref q9), (0, .ref (ad 0)), (1, .int u), (2, .int v), (3, .long x), (5, .long z)]) rfl (fun ls hl => ?_)
  refine lv_iconst hx hb d_L_constituent_18 (v := (nI 2)) rfl ?_
  refine W.widen (k := 22) (n := 672) (Nat.le_of_ble_eq_true rfl) (Nat.le_of_ble_eq_true rfl) ?_
  exact W.iret hx hb hr (fun t9 ht hW => ⟨_, rfl, rfl, tc, td, tn, o, by rw [ht]; exact hX1, hg, hCI, by rw [ht]; exact lP_keep hne hA hG, fun z => absurd (show (nI 2 : Int32) = nI 0 from z) (by decide), by rw [ht]; exact lO.ofG0 hG⟩) hL d_L_constituent_19
set_option maxHeartbeats 4000000 in
set_option maxRecDepth 100000 in
theorem w_node_A (l : Launch) (htr : l.stackTraces = false) (D : va_G) (ci : Nat → ClassId) (ad : Nat → Nat) (g : TS) (tc td : Int32) (tn : Nat → Int32) (D2 : va_G) (cB : ClassId) (sz0 : Nat) (ao : Nat) (o : Nat → Int64) {i y f sh : Nat} (hi : i < 8) (hy : y < 10) (hf : f ≤ 81920) (hsh : sh < 281474976710656) : Met l y_L_node (wH y_L_node b_L_node 7 (some .int) [(0, 9, 12, 19), (0, 9, 16, 13)]) ({ frames := 10, cells := 22, slots := 672, locals := 260 }) (tb (wl D ci ad g tc td tn D2 cB sz0 ao o) [.ref (ad 0), .int (nI i), .int (nI y), .int (nI f), .long (lN sh)]) (lQ D ci ad ao (nI 0, o 0, (ts_shf (ts_fac g i y f) i y sh))) 22 672 (lF ad ao) := by
  refine va_MetW (cc := b_L_node) (maxL := 7) (ret := (some .int)) (hh := [(0, 9, 12, 19), (0, 9, 16, 13)]) (by decide) rfl ?_
  intro p e s m args below meth c s₁ B hml hv
  obtain ⟨rfl, ⟨⟨⟨hK, hg, hX, hD, hCI⟩, hKB, hKC, hsz⟩, hE⟩, hA, hne⟩ := hv
  have hx := B.exec
  have hb := B.bytes
  have hr := B.returns
  have hts := atoms_spec (ws := wH y_L_node b_L_node 7 (some .int) [(0, 9, 12, 19), (0, 9, 16, 13)]) B.pre
  have hT : ∀ w ∈ TT, w ∈ wH y_L_node b_L_node 7 (some .int) [(0, 9, 12, 19), (0, 9, 16, 13)] := wH_T
  have hown : s.vm.findClass RL = some m.cls := findClass_of_methodNamed B.named
  have hlocks := B.notSynchronized
  have hl := lv_entry ([.ref (ad 0), .int (nI i), .int (nI y), .int (nI f), .long (lN sh)]) (n := 7) (Nat.le_of_ble_eq_true rfl)
  rw [lg_entry_eq]
  generalize (lg_sl ([.ref (ad 0), .int (nI i), .int (nI y), .int (nI f), .long (lN sh)]) ++ List.replicate (7 - (lg_sl ([.ref (ad 0), .int (nI i), .int (nI y), .int (nI f), .long (lN sh)])).length) Slot.unset).toArray = ls at hl ⊢
  have hl : lv_has ls 7 [(0, .ref (ad 0)), (1, .int (nI i)), (2, .int (nI y)), (3, .int (nI f)), (4, .long (lN sh))] := hl
  have htab := vx_table (x := y_L_node) B (hts _ List.mem_cons_self)
  have hL : ∀ q ∈ ([] : List Loc), lF ad ao q.base := fun q hq => nomatch hq
  refine lv_aload_n hx hb d_L_node_0 rfl (lv_at hl 0 rfl) ?_
  refine lv_iload_n hx hb d_L_node_1 rfl (lv_at hl 1 rfl) ?_
  refine lv_iload_n hx hb d_L_node_2 rfl (lv_at hl 2 rfl) ?_
  refine lv_iload_n hx hb d_L_node_3 rfl (lv_at hl 3 rfl) ?_
  refine lv_lload hx hb d_L_node_4 (lv_at hl 4 rfl) ?_
  refine tl_V (F2 := lF ad ao) (fun _ h => Or.inl h) ⟨hx, hb, hml, hown, hts⟩ hT (c_X_node l D ci ad g tc td tn hi hy hf hsh) lk_L_21 wXW_mv ⟨hK, hX, hD⟩ (wXW_rc hK hX) rfl hl.1 rfl (Nat.le_of_ble_eq_true rfl) d_L_node_6 ⟨rfl, rfl, Nat.le_of_ble_eq_true rfl, Nat.le_of_ble_eq_true rfl⟩ ⟨Nat.le_of_ble_eq_true rfl, Nat.le_of_ble_eq_true rfl⟩ hL (fun v9 H1 locs1 hF9 hL => ?_)
  obtain ⟨rfl, hX, hO9⟩ := hF9
  have hG := txG.ofO hO9
  have hA := lP_keep hne hA hG
  refine lv_goto hx hb d_L_node_9 (tgt := 20) (by decide) ?_
  refine lv_iconst hx hb d_L_node_20 (v := (nI 0)) rfl ?_
  refine W.widen (k := 22) (n := 672) (Nat.le_of_ble_eq_true rfl) (Nat.le_of_ble_eq_true rfl) ?_
  exact W.iret hx hb hr (fun t ht hW => ⟨_, rfl, rfl, tc, (-1), tn, o, by rw [ht]; exact hX, ok_nod hg hf hsh, Or.inl rfl, by rw [ht]; exact hA, fun _ => rfl, by rw [ht]; exact lO.ofG0 hG⟩) hL d_L_node_21
set_option maxHeartbeats 4000000 in
set_option maxRecDepth 100000 in
theorem w_node_B (l : Launch) (htr : l.stackTraces = false) (D : va_G) (ci : Nat → ClassId) (ad : Nat → Nat) (g : TS) (tc td : Int32) (tn : Nat → Int32) (D2 : va_G) (cB : ClassId) (sz0 : Nat) (ao : Nat) (o : Nat → Int64) (u v x : Int32) (z : Int64) (hv0 : ¬ ((0 ≤ u.toInt ∧ u.toInt < 8) ∧ 0 ≤ v.toInt ∧ v.toInt < 10)) : Met l y_L_node (wH y_L_node b_L_node 7 (some .int) [(0, 9, 12, 19), (0, 9, 16, 13)]) ({ frames := 10, cells := 22, slots := 672, locals := 260 }) (tb (wl D ci ad g tc td tn D2 cB sz0 ao o) [.ref (ad 0), .int u, .int v, .int x, .long z]) (lQ D ci ad ao (nI 1, 0, g)) 22 672 (lF ad ao) := by
  refine va_MetW (cc := b_L_node) (maxL := 7) (ret := (some .int)) (hh := [(0, 9, 12, 19), (0, 9, 16, 13)]) (by decide) rfl ?_
  intro p e s m args below meth c s₁ B hml hv
  obtain ⟨rfl, ⟨⟨⟨hK, hg, hX, hD, hCI⟩, hKB, hKC, hsz⟩, hE⟩, hA, hne⟩ := hv
  have hx := B.exec
  have hb := B.bytes
  have hr := B.returns
  have hts := atoms_spec (ws := wH y_L_node b_L_node 7 (some .int) [(0, 9, 12, 19), (0, 9, 16, 13)]) B.pre
  have hT : ∀ w ∈ TT, w ∈ wH y_L_node b_L_node 7 (some .int) [(0, 9, 12, 19), (0, 9, 16, 13)] := wH_T
  have hown : s.vm.findClass RL = some m.cls := findClass_of_methodNamed B.named
  have hlocks := B.notSynchronized
  have hl := lv_entry ([.ref (ad 0), .int u, .int v, .int x, .long z]) (n := 7) (Nat.le_of_ble_eq_true rfl)
  rw [lg_entry_eq]
  generalize (lg_sl ([.ref (ad 0), .int u, .int v, .int x, .long z]) ++ List.replicate (7 - (lg_sl ([.ref (ad 0), .int u, .int v, .int x, .long z])).length) Slot.unset).toArray = ls at hl ⊢
  have hl : lv_has ls 7 [(0, .ref (ad 0)), (1, .int u), (2, .int v), (3, .int x), (4, .long z)] := hl
  have htab := vx_table (x := y_L_node) B (hts _ List.mem_cons_self)
  have hL : ∀ q ∈ ([] : List Loc), lF ad ao q.base := fun q hq => nomatch hq
  refine lv_aload_n hx hb d_L_node_0 rfl (lv_at hl 0 rfl) ?_
  refine lv_iload_n hx hb d_L_node_1 rfl (lv_at hl 1 rfl) ?_
  refine lv_iload_n hx hb d_L_node_2 rfl (lv_at hl 2 rfl) ?_
  refine lv_iload_n hx hb d_L_node_3 rfl (lv_at hl 3 rfl) ?_
  refine lv_lload hx hb d_L_node_4 (lv_at hl 4 rfl) ?_
  refine tl_X (F2 := lF ad ao) (fun _ h => h.elim) ⟨hx, hb, hml, hown, hts⟩ hT (x_X_nodeI l htr D ci ad g tc td tn u v x z hv0) lk_L_21 wXE_mv ⟨⟨hK, hg, hX⟩, hE⟩ (wXW_rc hK hX) rfl hl.1 rfl (Nat.le_of_ble_eq_true rfl) d_L_node_6 ⟨rfl, rfl, Nat.le_of_ble_eq_true rfl, Nat.le_of_ble_eq_true rfl⟩ ⟨Nat.le_of_ble_eq_true rfl, Nat.le_of_ble_eq_true rfl⟩ hL (fun E9 ce q9 st t locs1 hst hX9 hL h4 h5 h6 => ?_)
  obtain ⟨u9, hu9, hB9, hF9⟩ := hX9
  subst hB9
  have hG : txG ad s.heap t.heap := by have h := txG.ofF0 (ad := ad) hF9; rw [hst] at h; exact h
  have hX1 := tx_keep hX (fun k hk => (hF9.2 _ (by rw [hst]; exact tx_lt hX hk) (fun z => z)).trans (by rw [hst]))
  refine vx_catch (own := RL) (name := eI) hown [] ⟨0, 9, 12, 19⟩ [⟨0, 9, 16, 13⟩] (htab.trans rfl) (fun z hz => nomatch hz) (by decide) (by decide) (hts _ (hT _ k_L_19)) (eB_use hE.2.2.1 _ (List.mem_of_getElem? (i := 4) rfl)) h4 h5 h6 ?_
  show W p l e _ s m _ below meth c _ _ _ _ _ (F0 m 12 ls [.ref q9])
  refine lv_astore hx hb d_L_node_12 hl (by decide) (lv' := [(6, .ref q9), (0, .ref (ad 0)), (1, .int u), (2, .int v), (3, .int x), (4, .long z)]) rfl (fun ls hl => ?_)
  refine lv_iconst hx hb d_L_node_14 (v := (nI 1)) rfl ?_
  refine W.widen (k := 22) (n := 672) (Nat.le_of_ble_eq_true rfl) (Nat.le_of_ble_eq_true rfl) ?_
  exact W.iret hx hb hr (fun t9 ht hW => ⟨_, rfl, rfl, tc, td, tn, o, by rw [ht]; exact hX1, hg, hCI, by rw [ht]; exact lP_keep hne hA hG, fun z => absurd (show (nI 1 : Int32) = nI 0 from z) (by decide), by rw [ht]; exact lO.ofG0 hG⟩) hL d_L_node_15
set_option maxHeartbeats 4000000 in
set_option maxRecDepth 100000 in
theorem w_node_C (l : Launch) (htr : l.stackTraces = false) (D : va_G) (ci : Nat → ClassId) (ad : Nat → Nat) (g : TS) (tc td : Int32) (tn : Nat → Int32) (D2 : va_G) (cB : ClassId) (sz0 : Nat) (ao : Nat) (o : Nat → Int64) (u v x : Int32) (z : Int64) (hv1 : (0 ≤ u.toInt ∧ u.toInt < 8) ∧ 0 ≤ v.toInt ∧ v.toInt < 10) (hv0 : ¬ ((0 ≤ x.toInt ∧ x.toInt ≤ 81920) ∧ 0 ≤ z.toInt ∧ z.toInt < 281474976710656)) : Met l y_L_node (wH y_L_node b_L_node 7 (some .int) [(0, 9, 12, 19), (0, 9, 16, 13)]) ({ frames := 10, cells := 22, slots := 672, locals := 260 }) (tb (wl D ci ad g tc td tn D2 cB sz0 ao o) [.ref (ad 0), .int u, .int v, .int x, .long z]) (lQ D ci ad ao (nI 2, 0, g)) 22 672 (lF ad ao) := by
  refine va_MetW (cc := b_L_node) (maxL := 7) (ret := (some .int)) (hh := [(0, 9, 12, 19), (0, 9, 16, 13)]) (by decide) rfl ?_
  intro p e s m args below meth c s₁ B hml hv
  obtain ⟨rfl, ⟨⟨⟨hK, hg, hX, hD, hCI⟩, hKB, hKC, hsz⟩, hE⟩, hA, hne⟩ := hv
  have hx := B.exec
  have hb := B.bytes
  have hr := B.returns
  have hts := atoms_spec (ws := wH y_L_node b_L_node 7 (some .int) [(0, 9, 12, 19), (0, 9, 16, 13)]) B.pre
  have hT : ∀ w ∈ TT, w ∈ wH y_L_node b_L_node 7 (some .int) [(0, 9, 12, 19), (0, 9, 16, 13)] := wH_T
  have hown : s.vm.findClass RL = some m.cls := findClass_of_methodNamed B.named
  have hlocks := B.notSynchronized
  have hl := lv_entry ([.ref (ad 0), .int u, .int v, .int x, .long z]) (n := 7) (Nat.le_of_ble_eq_true rfl)
  rw [lg_entry_eq]
  generalize (lg_sl ([.ref (ad 0), .int u, .int v, .int x, .long z]) ++ List.replicate (7 - (lg_sl ([.ref (ad 0), .int u, .int v, .int x, .long z])).length) Slot.unset).toArray = ls at hl ⊢
  have hl : lv_has ls 7 [(0, .ref (ad 0)), (1, .int u), (2, .int v), (3, .int x), (4, .long z)] := hl
  have htab := vx_table (x := y_L_node) B (hts _ List.mem_cons_self)
  have hL : ∀ q ∈ ([] : List Loc), lF ad ao q.base := fun q hq => nomatch hq
  refine lv_aload_n hx hb d_L_node_0 rfl (lv_at hl 0 rfl) ?_
  refine lv_iload_n hx hb d_L_node_1 rfl (lv_at hl 1 rfl) ?_
  refine lv_iload_n hx hb d_L_node_2 rfl (lv_at hl 2 rfl) ?_
  refine lv_iload_n hx hb d_L_node_3 rfl (lv_at hl 3 rfl) ?_
  refine lv_lload hx hb d_L_node_4 (lv_at hl 4 rfl) ?_
  refine tl_X (F2 := lF ad ao) (fun _ h => h.elim) ⟨hx, hb, hml, hown, hts⟩ hT (x_X_nodeA l htr D ci ad g tc td tn u v x z hv1 hv0) lk_L_21 wXE_mv ⟨⟨hK, hg, hX⟩, hE⟩ (wXW_rc hK hX) rfl hl.1 rfl (Nat.le_of_ble_eq_true rfl) d_L_node_6 ⟨rfl, rfl, Nat.le_of_ble_eq_true rfl, Nat.le_of_ble_eq_true rfl⟩ ⟨Nat.le_of_ble_eq_true rfl, Nat.le_of_ble_eq_true rfl⟩ hL (fun E9 ce q9 st t locs1 hst hX9 hL h4 h5 h6 => ?_)
  obtain ⟨u9, hu9, hB9, hF9⟩ := hX9
  subst hB9
  have hG : txG ad s.heap t.heap := by have h := txG.ofF0 (ad := ad) hF9; rw [hst] at h; exact h
  have hX1 := tx_keep hX (fun k hk => (hF9.2 _ (by rw [hst]; exact tx_lt hX hk) (fun z => z)).trans (by rw [hst]))
  refine vx_catch (own := RL) (name := eA) hown [⟨0, 9, 12, 19⟩] ⟨0, 9, 16, 13⟩ [] (htab.trans rfl) (fun z hz => by rw [List.mem_singleton.mp hz]; exact Or.inr ⟨by decide, _, hts _ (hT _ k_L_19), hE.2.2.2.2.1⟩) (by decide) (by decide) (hts _ (hT _ k_L_13)) (eB_use hE.2.2.1 _ (List.mem_of_getElem? (i := 3) rfl)) h4 h5 h6 ?_
  show W p l e _ s m _ below meth c _ _ _ _ _ (F0 m 16 ls [.ref q9])
  refine lv_astore hx hb d_L_node_16 hl (by decide) (lv' := [(6, .ref q9), (0, .ref (ad 0)), (1, .int u), (2, .int v), (3, .int x), (4, .long z)]) rfl (fun ls hl => ?_)
  refine lv_iconst hx hb d_L_node_18 (v := (nI 2)) rfl ?_
  refine W.widen (k := 22) (n := 672) (Nat.le_of_ble_eq_true rfl) (Nat.le_of_ble_eq_true rfl) ?_
  exact W.iret hx hb hr (fun t9 ht hW => ⟨_, rfl, rfl, tc, td, tn, o, by rw [ht]; exact hX1, hg, hCI, by rw [ht]; exact lP_keep hne hA hG, fun z => absurd (show (nI 2 : Int32) = nI 0 from z) (by decide), by rw [ht]; exact lO.ofG0 hG⟩) hL d_L_node_19
set_option maxHeartbeats 4000000 in
set_option maxRecDepth 100000 in
theorem w_days_A (l : Launch) (htr : l.stackTraces = false) (D : va_G) (ci : Nat → ClassId) (ad : Nat → Nat) (g : TS) (tc td : Int32) (tn : Nat → Int32) (D2 : va_G) (cB : ClassId) (sz0 : Nat) (ao : Nat) (o : Nat → Int64) {y n : Nat} (hy : y < 10) (hn : n = 365 ∨ n = 366) : Met l y_L_days (wH y_L_days b_L_days 5 (some .int) [(0, 10, 13, 19), (0, 10, 17, 13)]) ({ frames := 10, cells := 22, slots := 672, locals := 260 }) (tb (wl D ci ad g tc td tn D2 cB sz0 ao o) [.ref (ad 0), .int (nI y), .int (nI n), .ref ao]) (lQ D ci ad ao (nI 0, (nI (tt_day g y)).toInt64, (ts_day g y n))) 22 672 (lF ad ao) := by
  refine va_MetW (cc := b_L_days) (maxL := 5) (ret := (some .int)) (hh := [(0, 10, 13, 19), (0, 10, 17, 13)]) (by decide) rfl ?_
  intro p e s m args below meth c s₁ B hml hv
  obtain ⟨rfl, ⟨⟨⟨hK, hg, hX, hD, hCI⟩, hKB, hKC, hsz⟩, hE⟩, hA, hne⟩ := hv
  have hx := B.exec
  have hb := B.bytes
  have hr := B.returns
  have hts := atoms_spec (ws := wH y_L_days b_L_days 5 (some .int) [(0, 10, 13, 19), (0, 10, 17, 13)]) B.pre
  have hT : ∀ w ∈ TT, w ∈ wH y_L_days b_L_days 5 (some .int) [(0, 10, 13, 19), (0, 10, 17, 13)] := wH_T
  have hown : s.vm.findClass RL = some m.cls := findClass_of_methodNamed B.named
  have hlocks := B.notSynchronized
  have hl := lv_entry ([.ref (ad 0), .int (nI y), .int (nI n), .ref ao]) (n := 5) (Nat.le_of_ble_eq_true rfl)
  rw [lg_entry_eq]
  generalize (lg_sl ([.ref (ad 0), .int (nI y), .int (nI n), .ref ao]) ++ List.replicate (5 - (lg_sl ([.ref (ad 0), .int (nI y), .int (nI n), .ref ao])).length) Slot.unset).toArray = ls at hl ⊢
  have hl : lv_has ls 5 [(0, .ref (ad 0)), (1, .int (nI y)), (2, .int (nI n)), (3, .ref ao)] := hl
  have htab := vx_table (x := y_L_days) B (hts _ List.mem_cons_self)
  have hL : ∀ q ∈ ([] : List Loc), lF ad ao q.base := fun q hq => nomatch hq
  refine lv_aload_n hx hb d_L_days_0 rfl (lv_at hl 3 rfl) ?_
  refine lv_iconst hx hb d_L_days_1 (v := (nI 0)) rfl ?_
  refine lv_aload_n hx hb d_L_days_2 rfl (lv_at hl 0 rfl) ?_
  refine lv_iload_n hx hb d_L_days_3 rfl (lv_at hl 1 rfl) ?_
  refine lv_iload_n hx hb d_L_days_4 rfl (lv_at hl 2 rfl) ?_
  refine tl_V (F2 := lF ad ao) (fun _ h => Or.inl h) ⟨hx, hb, hml, hown, hts⟩ hT (c_X_days l D ci ad g tc td tn hy hn) lk_L_25 wXO_mv ⟨hK, hg, hX, hD⟩ (wXW_rc hK hX) rfl hl.1 rfl (Nat.le_of_ble_eq_true rfl) d_L_days_5 ⟨rfl, rfl, Nat.le_of_ble_eq_true rfl, Nat.le_of_ble_eq_true rfl⟩ ⟨Nat.le_of_ble_eq_true rfl, Nat.le_of_ble_eq_true rfl⟩ hL (fun v9 H1 locs1 hF9 hL => ?_)
  obtain ⟨rfl, hX, hO9⟩ := hF9
  have hG := txG.ofO hO9
  have hA := lP_keep hne hA hG
  refine lv_i2l hx hb d_L_days_8 (v := (nI (tt_day g y)).toInt64) rfl ?_
  refine tq_last (F := lF ad ao) hx hb hK 1 hA rfl (j := 0) (by decide) (by decide) (Or.inr rfl) hL d_L_days_9 (fun H2 locs2 hP2 hz2 hq2 hL => ?_)
  refine lv_goto hx hb d_L_days_10 (tgt := 21) (by decide) ?_
  refine lv_iconst hx hb d_L_days_21 (v := (nI 0)) rfl ?_
  have hX := tx_keep hX (fun k hk => hq2 _ (hne k hk))
  refine W.widen (k := 22) (n := 672) (Nat.le_of_ble_eq_true rfl) (Nat.le_of_ble_eq_true rfl) ?_
  exact W.iret hx hb hr (fun t ht hW => ⟨_, rfl, rfl, tc, (-1), tn, _, by rw [ht]; exact hX, ok_day hg hn, Or.inl rfl, by rw [ht]; exact hP2, fun _ => updL_0, by rw [ht]; exact lO.ofG hG hz2 hq2⟩) hL d_L_days_22
set_option maxHeartbeats 4000000 in
set_option maxRecDepth 100000 in
theorem w_days_B (l : Launch) (htr : l.stackTraces = false) (D : va_G) (ci : Nat → ClassId) (ad : Nat → Nat) (g : TS) (tc td : Int32) (tn : Nat → Int32) (D2 : va_G) (cB : ClassId) (sz0 : Nat) (ao : Nat) (o : Nat → Int64) (u v : Int32) (hv0 : ¬ (0 ≤ u.toInt ∧ u.toInt < 10)) : Met l y_L_days (wH y_L_days b_L_days 5 (some .int) [(0, 10, 13, 19), (0, 10, 17, 13)]) ({ frames := 10, cells := 22, slots := 672, locals := 260 }) (tb (wl D ci ad g tc td tn D2 cB sz0 ao o) [.ref (ad 0), .int u, .int v, .ref ao]) (lQ D ci ad ao (nI 1, 0, g)) 22 672 (lF ad ao) := by
  refine va_MetW (cc := b_L_days) (maxL := 5) (ret := (some .int)) (hh := [(0, 10, 13, 19), (0, 10, 17, 13)]) (by decide) rfl ?_
  intro p e s m args below meth c s₁ B hml hv
  obtain ⟨rfl, ⟨⟨⟨hK, hg, hX, hD, hCI⟩, hKB, hKC, hsz⟩, hE⟩, hA, hne⟩ := hv
  have hx := B.exec
  have hb := B.bytes
  have hr := B.returns
  have hts := atoms_spec (ws := wH y_L_days b_L_days 5 (some .int) [(0, 10, 13, 19), (0, 10, 17, 13)]) B.pre
  have hT : ∀ w ∈ TT, w ∈ wH y_L_days b_L_days 5 (some .int) [(0, 10, 13, 19), (0, 10, 17, 13)] := wH_T
  have hown : s.vm.findClass RL = some m.cls := findClass_of_methodNamed B.named
  have hlocks := B.notSynchronized
  have hl := lv_entry ([.ref (ad 0), .int u, .int v, .ref ao]) (n := 5) (Nat.le_of_ble_eq_true rfl)
  rw [lg_entry_eq]
  generalize (lg_sl ([.ref (ad 0), .int u, .int v, .ref ao]) ++ List.replicate (5 - (lg_sl ([.ref (ad 0), .int u, .int v, .ref ao])).length) Slot.unset).toArray = ls at hl ⊢
  have hl : lv_has ls 5 [(0, .ref (ad 0)), (1, .int u), (2, .int v), (3, .ref ao)] := hl
  have htab := vx_table (x := y_L_days) B (hts _ List.mem_cons_self)
  have hL : ∀ q ∈ ([] : List Loc), lF ad ao q.base := fun q hq => nomatch hq
  refine lv_aload_n hx hb d_L_days_0 rfl (lv_at hl 3 rfl) ?_
  refine lv_iconst hx hb d_L_days_1 (v := (nI 0)) rfl ?_
  refine lv_aload_n hx hb d_L_days_2 rfl (lv_at hl 0 rfl) ?_
  refine lv_iload_n hx hb d_L_days_3 rfl (lv_at hl 1 rfl) ?_
  refine lv_iload_n hx hb d_L_days_4 rfl (lv_at hl 2 rfl) ?_
  refine tl_X (F2 := lF ad ao) (fun _ h => h.elim) ⟨hx, hb, hml, hown, hts⟩ hT (x_X_daysI l htr D ci ad g tc td tn u v hv0) lk_L_25 wXE_mv ⟨⟨hK, hg, hX⟩, hE⟩ (wXW_rc hK hX) rfl hl.1 rfl (Nat.le_of_ble_eq_true rfl) d_L_days_5 ⟨rfl, rfl, Nat.le_of_ble_eq_true rfl, Nat.le_of_ble_eq_true rfl⟩ ⟨Nat.le_of_ble_eq_true rfl, Nat.le_of_ble_eq_true rfl⟩ hL (fun E9 ce q9 st t locs1 hst hX9 hL h4 h5 h6 => ?_)
  obtain ⟨u9, hu9, hB9, hF9⟩ := hX9
  subst hB9
  have hG : txG ad s.heap t.heap := by have h := txG.ofF0 (ad := ad) hF9; rw [hst] at h; exact h
  have hX1 := tx_keep hX (fun k hk => (hF9.2 _ (by rw [hst]; exact tx_lt hX hk) (fun z => z)).trans (by rw [hst]))
  refine vx_catch (own := RL) (name := eI) hown [] ⟨0, 10, 13, 19⟩ [⟨0, 10, 17, 13⟩] (htab.trans rfl) (fun z hz => nomatch hz) (by decide) (by decide) (hts _ (hT _ k_L_19)) (eB_use hE.2.2.1 _ (List.mem_of_getElem? (i := 4) rfl)) h4 h5 h6 ?_
  show W p l e _ s m _ below meth c _ _ _ _ _ (F0 m 13 ls [.ref q9])
  refine lv_astore hx hb d_L_days_13 hl (by decide) (lv' := [(4, .ref q9), (0, .ref (ad 0)), (1, .int u), (2, .int v), (3, .ref ao)]) rfl (fun ls hl => ?_)
  refine lv_iconst hx hb d_L_days_15 (v := (nI 1)) rfl ?_
  refine W.widen (k := 22) (n := 672) (Nat.le_of_ble_eq_true rfl) (Nat.le_of_ble_eq_true rfl) ?_
  exact W.iret hx hb hr (fun t9 ht hW => ⟨_, rfl, rfl, tc, td, tn, o, by rw [ht]; exact hX1, hg, hCI, by rw [ht]; exact lP_keep hne hA hG, fun z => absurd (show (nI 1 : Int32) = nI 0 from z) (by decide), by rw [ht]; exact lO.ofG0 hG⟩) hL d_L_days_16
set_option maxHeartbeats 4000000 in
set_option maxRecDepth 100000 in
theorem w_days_C (l : Launch) (htr : l.stackTraces = false) (D : va_G) (ci : Nat → ClassId) (ad : Nat → Nat) (g : TS) (tc td : Int32) (tn : Nat → Int32) (D2 : va_G) (cB : ClassId) (sz0 : Nat) (ao : Nat) (o : Nat → Int64) (u v : Int32) (hv1 : 0 ≤ u.toInt ∧ u.toInt < 10) (hv0 : ¬ (v.toInt = 365 ∨ v.toInt = 366)) : Met l y_L_days (wH y_L_days b_L_days 5 (some .int) [(0, 10, 13, 19), (0, 10, 17, 13)]) ({ frames := 10, cells := 22, slots := 672, locals := 260 }) (tb (wl D ci ad g tc td tn D2 cB sz0 ao o) [.ref (ad 0), .int u, .int v, .ref ao]) (lQ D ci ad ao (nI 2, 0, g)) 22 672 (lF ad ao) := by
  refine va_MetW (cc := b_L_days) (maxL := 5) (ret := (some .int)) (hh := [(0, 10, 13, 19), (0, 10, 17, 13)]) (by decide) rfl ?_
  intro p e s m args below meth c s₁ B hml hv
  obtain ⟨rfl, ⟨⟨⟨hK, hg, hX, hD, hCI⟩, hKB, hKC, hsz⟩, hE⟩, hA, hne⟩ := hv
  have hx := B.exec
  have hb := B.bytes
  have hr := B.returns
  have hts := atoms_spec (ws := wH y_L_days b_L_days 5 (some .int) [(0, 10, 13, 19), (0, 10, 17, 13)]) B.pre
  have hT : ∀ w ∈ TT, w ∈ wH y_L_days b_L_days 5 (some .int) [(0, 10, 13, 19), (0, 10, 17, 13)] := wH_T
  have hown : s.vm.findClass RL = some m.cls := findClass_of_methodNamed B.named
  have hlocks := B.notSynchronized
  have hl := lv_entry ([.ref (ad 0), .int u, .int v, .ref ao]) (n := 5) (Nat.le_of_ble_eq_true rfl)
  rw [lg_entry_eq]
  generalize (lg_sl ([.ref (ad 0), .int u, .int v, .ref ao]) ++ List.replicate (5 - (lg_sl ([.ref (ad 0), .int u, .int v, .ref ao])).length) Slot.unset).toArray = ls at hl ⊢
  have hl : lv_has ls 5 [(0, .ref (ad 0)), (1, .int u), (2, .int v), (3, .ref ao)] := hl
  have htab := vx_table (x := y_L_days) B (hts _ List.mem_cons_self)
  have hL : ∀ q ∈ ([] : List Loc), lF ad ao q.base := fun q hq => nomatch hq
  refine lv_aload_n hx hb d_L_days_0 rfl (lv_at hl 3 rfl) ?_
  refine lv_iconst hx hb d_L_days_1 (v := (nI 0)) rfl ?_
  refine lv_aload_n hx hb d_L_days_2 rfl (lv_at hl 0 rfl) ?_
  refine lv_iload_n hx hb d_L_days_3 rfl (lv_at hl 1 rfl) ?_
  refine lv_iload_n hx hb d_L_days_4 rfl (lv_at hl 2 rfl) ?_
  refine tl_X (F2 := lF ad ao) (fun _ h => h.elim) ⟨hx, hb, hml, hown, hts⟩ hT (x_X_daysA l htr D ci ad g tc td tn u v hv1 hv0) lk_L_25 wXE_mv ⟨⟨hK, hg, hX⟩, hE⟩ (wXW_rc hK hX) rfl hl.1 rfl (Nat.le_of_ble_eq_true rfl) d_L_days_5 ⟨rfl, rfl, Nat.le_of_ble_eq_true rfl, Nat.le_of_ble_eq_true rfl⟩ ⟨Nat.le_of_ble_eq_true rfl, Nat.le_of_ble_eq_true rfl⟩ hL (fun E9 ce q9 st t locs1 hst hX9 hL h4 h5 h6 => ?_)
  obtain ⟨u9, hu9, hB9, hF9⟩ := hX9
  subst hB9
  have hG : txG ad s.heap t.heap := by have h := txG.ofF0 (ad := ad) hF9; rw [hst] at h; exact h
  have hX1 := tx_keep hX (fun k hk => (hF9.2 _ (by rw [hst]; exact tx_lt hX hk) (fun z => z)).trans (by rw [hst]))
  refine vx_catch (own := RL) (name := eA) hown [⟨0, 10, 13, 19⟩] ⟨0, 10, 17, 13⟩ [] (htab.trans rfl) (fun z hz => by rw [List.mem_singleton.mp hz]; exact Or.inr ⟨by decide, _, hts _ (hT _ k_L_19), hE.2.2.2.2.1⟩) (by decide) (by decide) (hts _ (hT _ k_L_13)) (eB_use hE.2.2.1 _ (List.mem_of_getElem? (i := 3) rfl)) h4 h5 h6 ?_
  show W p l e _ s m _ below meth c _ _ _ _ _ (F0 m 17 ls [.ref q9])
  refine lv_astore hx hb d_L_days_17 hl (by decide) (lv' := [(4, .ref q9), (0, .ref (ad 0)), (1, .int u), (2, .int v), (3, .ref ao)]) rfl (fun ls hl => ?_)
  refine lv_iconst hx hb d_L_days_19 (v := (nI 2)) rfl ?_
  refine W.widen (k := 22) (n := 672) (Nat.le_of_ble_eq_true rfl) (Nat.le_of_ble_eq_true rfl) ?_
  exact W.iret hx hb hr (fun t9 ht hW => ⟨_, rfl, rfl, tc, td, tn, o, by rw [ht]; exact hX1, hg, hCI, by rw [ht]; exact lP_keep hne hA hG, fun z => absurd (show (nI 2 : Int32) = nI 0 from z) (by decide), by rw [ht]; exact lO.ofG0 hG⟩) hL d_L_days_20
set_option maxHeartbeats 4000000 in
set_option maxRecDepth 100000 in
theorem w_first_A (l : Launch) (htr : l.stackTraces = false) (D : va_G) (ci : Nat → ClassId) (ad : Nat → Nat) (g : TS) (tc td : Int32) (tn : Nat → Int32) (D2 : va_G) (cB : ClassId) (sz0 : Nat) (ao : Nat) (o : Nat → Int64) {y : Nat} (hy : y ≤ 10) : Met l y_L_first (wH y_L_first b_L_first 4 (some .int) [(0, 9, 12, 19)]) ({ frames := 10, cells := 22, slots := 672, locals := 260 }) (tb (wl D ci ad g tc td tn D2 cB sz0 ao o) [.ref (ad 0), .int (nI y), .ref ao]) (lQ D ci ad ao (nI 0, (nI (tt_fst g y)).toInt64, g)) 22 672 (lF ad ao) := by
  refine va_MetW (cc := b_L_first) (maxL := 4) (ret := (some .int)) (hh := [(0, 9, 12, 19)]) (by decide) rfl ?_
  intro p e s m args below meth c s₁ B hml hv
  obtain ⟨rfl, ⟨⟨⟨hK, hg, hX, hD, hCI⟩, hKB, hKC, hsz⟩, hE⟩, hA, hne⟩ := hv
  have hx := B.exec
  have hb := B.bytes
  have hr := B.returns
  have hts := atoms_spec (ws := wH y_L_first b_L_first 4 (some .int) [(0, 9, 12, 19)]) B.pre
  have hT : ∀ w ∈ TT, w ∈ wH y_L_first b_L_first 4 (some .int) [(0, 9, 12, 19)] := wH_T
  have hown : s.vm.findClass RL = some m.cls := findClass_of_methodNamed B.named
  have hlocks := B.notSynchronized
  have hl := lv_entry ([.ref (ad 0), .int (nI y), .ref ao]) (n := 4) (Nat.le_of_ble_eq_true rfl)
  rw [lg_entry_eq]
  generalize (lg_sl ([.ref (ad 0), .int (nI y), .ref ao]) ++ List.replicate (4 - (lg_sl ([.ref (ad 0), .int (nI y), .ref ao])).length) Slot.unset).toArray = ls at hl ⊢
  have hl : lv_has ls 4 [(0, .ref (ad 0)), (1, .int (nI y)), (2, .ref ao)] := hl
  have htab := vx_table (x := y_L_first) B (hts _ List.mem_cons_self)
  have hL : ∀ q ∈ ([] : List Loc), lF ad ao q.base := fun q hq => nomatch hq
  refine lv_aload_n hx hb d_L_first_0 rfl (lv_at hl 2 rfl) ?_
  refine lv_iconst hx hb d_L_first_1 (v := (nI 0)) rfl ?_
  refine lv_aload_n hx hb d_L_first_2 rfl (lv_at hl 0 rfl) ?_
  refine lv_iload_n hx hb d_L_first_3 rfl (lv_at hl 1 rfl) ?_
  refine tq_V ⟨hx, hb, hml, hown, hts⟩ hT (c_X_first l D ci ad g tc td tn hy) lk_L_29 wX_mv ⟨hK, hg, hX⟩ (wXW_rc hK hX) rfl hl.1 rfl (Nat.le_of_ble_eq_true rfl) d_L_first_4 ⟨rfl, rfl, Nat.le_of_ble_eq_true rfl, Nat.le_of_ble_eq_true rfl⟩ ⟨Nat.zero_le _, Nat.zero_le _⟩ ?_
  have hG : txG ad s.heap s.heap := txG.rf
  have hA := lP_keep hne hA hG
  refine lv_i2l hx hb d_L_first_7 (v := (nI (tt_fst g y)).toInt64) rfl ?_
  refine tq_last (F := lF ad ao) hx hb hK 1 hA rfl (j := 0) (by decide) (by decide) (Or.inr rfl) hL d_L_first_8 (fun H2 locs2 hP2 hz2 hq2 hL => ?_)
  refine lv_goto hx hb d_L_first_9 (tgt := 15) (by decide) ?_
  refine lv_iconst hx hb d_L_first_15 (v := (nI 0)) rfl ?_
  have hX := tx_keep hX (fun k hk => hq2 _ (hne k hk))
  refine W.widen (k := 22) (n := 672) (Nat.le_of_ble_eq_true rfl) (Nat.le_of_ble_eq_true rfl) ?_
  exact W.iret hx hb hr (fun t ht hW => ⟨_, rfl, rfl, tc, td, tn, _, by rw [ht]; exact hX, hg, hCI, by rw [ht]; exact hP2, fun _ => updL_0, by rw [ht]; exact lO.ofG hG hz2 hq2⟩) hL d_L_first_16
set_option maxHeartbeats 4000000 in
set_option maxRecDepth 100000 in
theorem w_first_B (l : Launch) (htr : l.stackTraces = false) (D : va_G) (ci : Nat → ClassId) (ad : Nat → Nat) (g : TS) (tc td : Int32) (tn : Nat → Int32) (D2 : va_G) (cB : ClassId) (sz0 : Nat) (ao : Nat) (o : Nat → Int64) (v : Int32) (hv0 : ¬ (0 ≤ v.toInt ∧ v.toInt ≤ 10)) : Met l y_L_first (wH y_L_first b_L_first 4 (some .int) [(0, 9, 12, 19)]) ({ frames := 10, cells := 22, slots := 672, locals := 260 }) (tb (wl D ci ad g tc td tn D2 cB sz0 ao o) [.ref (ad 0), .int v, .ref ao]) (lQ D ci ad ao (nI 1, 0, g)) 22 672 (lF ad ao) := by
  refine va_MetW (cc := b_L_first) (maxL := 4) (ret := (some .int)) (hh := [(0, 9, 12, 19)]) (by decide) rfl ?_
  intro p e s m args below meth c s₁ B hml hv
  obtain ⟨rfl, ⟨⟨⟨hK, hg, hX, hD, hCI⟩, hKB, hKC, hsz⟩, hE⟩, hA, hne⟩ := hv
  have hx := B.exec
  have hb := B.bytes
  have hr := B.returns
  have hts := atoms_spec (ws := wH y_L_first b_L_first 4 (some .int) [(0, 9, 12, 19)]) B.pre
  have hT : ∀ w ∈ TT, w ∈ wH y_L_first b_L_first 4 (some .int) [(0, 9, 12, 19)] := wH_T
  have hown : s.vm.findClass RL = some m.cls := findClass_of_methodNamed B.named
  have hlocks := B.notSynchronized
  have hl := lv_entry ([.ref (ad 0), .int v, .ref ao]) (n := 4) (Nat.le_of_ble_eq_true rfl)
  rw [lg_entry_eq]
  generalize (lg_sl ([.ref (ad 0), .int v, .ref ao]) ++ List.replicate (4 - (lg_sl ([.ref (ad 0), .int v, .ref ao])).length) Slot.unset).toArray = ls at hl ⊢
  have hl : lv_has ls 4 [(0, .ref (ad 0)), (1, .int v), (2, .ref ao)] := hl
  have htab := vx_table (x := y_L_first) B (hts _ List.mem_cons_self)
  have hL : ∀ q ∈ ([] : List Loc), lF ad ao q.base := fun q hq => nomatch hq
  refine lv_aload_n hx hb d_L_first_0 rfl (lv_at hl 2 rfl) ?_
  refine lv_iconst hx hb d_L_first_1 (v := (nI 0)) rfl ?_
  refine lv_aload_n hx hb d_L_first_2 rfl (lv_at hl 0 rfl) ?_
  refine lv_iload_n hx hb d_L_first_3 rfl (lv_at hl 1 rfl) ?_
  refine tl_X (F2 := lF ad ao) (fun _ h => h.elim) ⟨hx, hb, hml, hown, hts⟩ hT (x_X_first l htr D ci ad g tc td tn v hv0) lk_L_29 wXE_mv ⟨⟨hK, hg, hX⟩, hE⟩ (wXW_rc hK hX) rfl hl.1 rfl (Nat.le_of_ble_eq_true rfl) d_L_first_4 ⟨rfl, rfl, Nat.le_of_ble_eq_true rfl, Nat.le_of_ble_eq_true rfl⟩ ⟨Nat.le_of_ble_eq_true rfl, Nat.le_of_ble_eq_true rfl⟩ hL (fun E9 ce q9 st t locs1 hst hX9 hL h4 h5 h6 => ?_)
  obtain ⟨u9, hu9, hB9, hF9⟩ := hX9
  subst hB9
  have hG : txG ad s.heap t.heap := by have h := txG.ofF0 (ad := ad) hF9; rw [hst] at h; exact h
  have hX1 := tx_keep hX (fun k hk => (hF9.2 _ (by rw [hst]; exact tx_lt hX hk) (fun z => z)).trans (by rw [hst]))
  refine vx_catch (own := RL) (name := eI) hown [] ⟨0, 9, 12, 19⟩ [] (htab.trans rfl) (fun z hz => nomatch hz) (by decide) (by decide) (hts _ (hT _ k_L_19)) (eB_use hE.2.2.1 _ (List.mem_of_getElem? (i := 4) rfl)) h4 h5 h6 ?_
  show W p l e _ s m _ below meth c _ _ _ _ _ (F0 m 12 ls [.ref q9])
  refine lv_astore_n hx hb d_L_first_12 rfl hl (by decide) (lv' := [(3, .ref q9), (0, .ref (ad 0)), (1, .int v), (2, .ref ao)]) rfl (fun ls hl => ?_)
  refine lv_iconst hx hb d_L_first_13 (v := (nI 1)) rfl ?_
  refine W.widen (k := 22) (n := 672) (Nat.le_of_ble_eq_true rfl) (Nat.le_of_ble_eq_true rfl) ?_
  exact W.iret hx hb hr (fun t9 ht hW => ⟨_, rfl, rfl, tc, td, tn, o, by rw [ht]; exact hX1, hg, hCI, by rw [ht]; exact lP_keep hne hA hG, fun z => absurd (show (nI 1 : Int32) = nI 0 from z) (by decide), by rw [ht]; exact lO.ofG0 hG⟩) hL d_L_first_14
set_option maxHeartbeats 4000000 in
set_option maxRecDepth 100000 in
theorem w_year_A (l : Launch) (htr : l.stackTraces = false) (D : va_G) (ci : Nat → ClassId) (ad : Nat → Nat) (g : TS) (tc td : Int32) (tn : Nat → Int32) (D2 : va_G) (cB : ClassId) (sz0 : Nat) (ao : Nat) (o : Nat → Int64) {mm : Nat} (hm : mm < tt_fst g 10) : Met l y_L_year (wH y_L_year b_L_year 4 (some .int) [(0, 9, 12, 19)]) ({ frames := 10, cells := 22, slots := 672, locals := 260 }) (tb (wl D ci ad g tc td tn D2 cB sz0 ao o) [.ref (ad 0), .int (nI mm), .ref ao]) (lQ D ci ad ao (nI 0, (nI (tt_yr g mm)).toInt64, g)) 22 672 (lF ad ao) := by
  refine va_MetW (cc := b_L_year) (maxL := 4) (ret := (some .int)) (hh := [(0, 9, 12, 19)]) (by decide) rfl ?_
  intro p e s m args below meth c s₁ B hml hv
  obtain ⟨rfl, ⟨⟨⟨hK, hg, hX, hD, hCI⟩, hKB, hKC, hsz⟩, hE⟩, hA, hne⟩ := hv
  have hx := B.exec
  have hb := B.bytes
  have hr := B.returns
  have hts := atoms_spec (ws := wH y_L_year b_L_year 4 (some .int) [(0, 9, 12, 19)]) B.pre
  have hT : ∀ w ∈ TT, w ∈ wH y_L_year b_L_year 4 (some .int) [(0, 9, 12, 19)] := wH_T
  have hown : s.vm.findClass RL = some m.cls := findClass_of_methodNamed B.named
  have hlocks := B.notSynchronized
  have hl := lv_entry ([.ref (ad 0), .int (nI mm), .ref ao]) (n := 4) (Nat.le_of_ble_eq_true rfl)
  rw [lg_entry_eq]
  generalize (lg_sl ([.ref (ad 0), .int (nI mm), .ref ao]) ++ List.replicate (4 - (lg_sl ([.ref (ad 0), .int (nI mm), .ref ao])).length) Slot.unset).toArray = ls at hl ⊢
  have hl : lv_has ls 4 [(0, .ref (ad 0)), (1, .int (nI mm)), (2, .ref ao)] := hl
  have htab := vx_table (x := y_L_year) B (hts _ List.mem_cons_self)
  have hL : ∀ q ∈ ([] : List Loc), lF ad ao q.base := fun q hq => nomatch hq
  refine lv_aload_n hx hb d_L_year_0 rfl (lv_at hl 2 rfl) ?_
  refine lv_iconst hx hb d_L_year_1 (v := (nI 0)) rfl ?_
  refine lv_aload_n hx hb d_L_year_2 rfl (lv_at hl 0 rfl) ?_
  refine lv_iload_n hx hb d_L_year_3 rfl (lv_at hl 1 rfl) ?_
  refine tq_V ⟨hx, hb, hml, hown, hts⟩ hT (c_X_year l D ci ad g tc td tn hm) lk_L_32 wX_mv ⟨hK, hg, hX⟩ (wXW_rc hK hX) rfl hl.1 rfl (Nat.le_of_ble_eq_true rfl) d_L_year_4 ⟨rfl, rfl, Nat.le_of_ble_eq_true rfl, Nat.le_of_ble_eq_true rfl⟩ ⟨Nat.zero_le _, Nat.zero_le _⟩ ?_
  have hG : txG ad s.heap s.heap := txG.rf
  have hA := lP_keep hne hA hG
  refine lv_i2l hx hb d_L_year_7 (v := (nI (tt_yr g mm)).toInt64) rfl ?_
  refine tq_last (F := lF ad ao) hx hb hK 1 hA rfl (j := 0) (by decide) (by decide) (Or.inr rfl) hL d_L_year_8 (fun H2 locs2 hP2 hz2 hq2 hL => ?_)
  refine lv_goto hx hb d_L_year_9 (tgt := 15) (by decide) ?_
  refine lv_iconst hx hb d_L_year_15 (v := (nI 0)) rfl ?_
  have hX := tx_keep hX (fun k hk => hq2 _ (hne k hk))
  refine W.widen (k := 22) (n := 672) (Nat.le_of_ble_eq_true rfl) (Nat.le_of_ble_eq_true rfl) ?_
  exact W.iret hx hb hr (fun t ht hW => ⟨_, rfl, rfl, tc, td, tn, _, by rw [ht]; exact hX, hg, hCI, by rw [ht]; exact hP2, fun _ => updL_0, by rw [ht]; exact lO.ofG hG hz2 hq2⟩) hL d_L_year_16
set_option maxHeartbeats 4000000 in
set_option maxRecDepth 100000 in
theorem w_year_B (l : Launch) (htr : l.stackTraces = false) (D : va_G) (ci : Nat → ClassId) (ad : Nat → Nat) (g : TS) (tc td : Int32) (tn : Nat → Int32) (D2 : va_G) (cB : ClassId) (sz0 : Nat) (ao : Nat) (o : Nat → Int64) (v : Int32) (hv0 : ¬ (0 ≤ v.toInt ∧ v.toInt < (tt_fst g 10 : Nat))) : Met l y_L_year (wH y_L_year b_L_year 4 (some .int) [(0, 9, 12, 19)]) ({ frames := 10, cells := 22, slots := 672, locals := 260 }) (tb (wl D ci ad g tc td tn D2 cB sz0 ao o) [.ref (ad 0), .int v, .ref ao]) (lQ D ci ad ao (nI 1, 0, g)) 22 672 (lF ad ao) := by
  refine va_MetW (cc := b_L_year) (maxL := 4) (ret := (some .int)) (hh := [(0, 9, 12, 19)]) (by decide) rfl ?_
  intro p e s m args below meth c s₁ B hml hv
  obtain ⟨rfl, ⟨⟨⟨hK, hg, hX, hD, hCI⟩, hKB, hKC, hsz⟩, hE⟩, hA, hne⟩ := hv
  have hx := B.exec
  have hb := B.bytes
  have hr := B.returns
  have hts := atoms_spec (ws := wH y_L_year b_L_year 4 (some .int) [(0, 9, 12, 19)]) B.pre
  have hT : ∀ w ∈ TT, w ∈ wH y_L_year b_L_year 4 (some .int) [(0, 9, 12, 19)] := wH_T
  have hown : s.vm.findClass RL = some m.cls := findClass_of_methodNamed B.named
  have hlocks := B.notSynchronized
  have hl := lv_entry ([.ref (ad 0), .int v, .ref ao]) (n := 4) (Nat.le_of_ble_eq_true rfl)
  rw [lg_entry_eq]
  generalize (lg_sl ([.ref (ad 0), .int v, .ref ao]) ++ List.replicate (4 - (lg_sl ([.ref (ad 0), .int v, .ref ao])).length) Slot.unset).toArray = ls at hl ⊢
  have hl : lv_has ls 4 [(0, .ref (ad 0)), (1, .int v), (2, .ref ao)] := hl
  have htab := vx_table (x := y_L_year) B (hts _ List.mem_cons_self)
  have hL : ∀ q ∈ ([] : List Loc), lF ad ao q.base := fun q hq => nomatch hq
  refine lv_aload_n hx hb d_L_year_0 rfl (lv_at hl 2 rfl) ?_
  refine lv_iconst hx hb d_L_year_1 (v := (nI 0)) rfl ?_
  refine lv_aload_n hx hb d_L_year_2 rfl (lv_at hl 0 rfl) ?_
  refine lv_iload_n hx hb d_L_year_3 rfl (lv_at hl 1 rfl) ?_
  refine tl_X (F2 := lF ad ao) (fun _ h => h.elim) ⟨hx, hb, hml, hown, hts⟩ hT (x_X_year l htr D ci ad g tc td tn v hv0) lk_L_32 wXE_mv ⟨⟨hK, hg, hX⟩, hE⟩ (wXW_rc hK hX) rfl hl.1 rfl (Nat.le_of_ble_eq_true rfl) d_L_year_4 ⟨rfl, rfl, Nat.le_of_ble_eq_true rfl, Nat.le_of_ble_eq_true rfl⟩ ⟨Nat.le_of_ble_eq_true rfl, Nat.le_of_ble_eq_true rfl⟩ hL (fun E9 ce q9 st t locs1 hst hX9 hL h4 h5 h6 => ?_)
  obtain ⟨u9, hu9, hB9, hF9⟩ := hX9
  subst hB9
  have hG : txG ad s.heap t.heap := by have h := txG.ofF0 (ad := ad) hF9; rw [hst] at h; exact h
  have hX1 := tx_keep hX (fun k hk => (hF9.2 _ (by rw [hst]; exact tx_lt hX hk) (fun z => z)).trans (by rw [hst]))
  refine vx_catch (own := RL) (name := eI) hown [] ⟨0, 9, 12, 19⟩ [] (htab.trans rfl) (fun z hz => nomatch hz) (by decide) (by decide) (hts _ (hT _ k_L_19)) (eB_use hE.2.2.1 _ (List.mem_of_getElem? (i := 4) rfl)) h4 h5 h6 ?_
  show W p l e _ s m _ below meth c _ _ _ _ _ (F0 m 12 ls [.ref q9])
  refine lv_astore_n hx hb d_L_year_12 rfl hl (by decide) (lv' := [(3, .ref q9), (0, .ref (ad 0)), (1, .int v), (2, .ref ao)]) rfl (fun ls hl => ?_)
  refine lv_iconst hx hb d_L_year_13 (v := (nI 1)) rfl ?_
  refine W.widen (k := 22) (n := 672) (Nat.le_of_ble_eq_true rfl) (Nat.le_of_ble_eq_true rfl) ?_
  exact W.iret hx hb hr (fun t9 ht hW => ⟨_, rfl, rfl, tc, td, tn, o, by rw [ht]; exact hX1, hg, hCI, by rw [ht]; exact lP_keep hne hA hG, fun z => absurd (show (nI 1 : Int32) = nI 0 from z) (by decide), by rw [ht]; exact lO.ofG0 hG⟩) hL d_L_year_14
set_option maxHeartbeats 4000000 in
set_option maxRecDepth 100000 in
theorem w_position_A (l : Launch) (htr : l.stackTraces = false) (D : va_G) (ci : Nat → ClassId) (ad : Nat → Nat) (g : TS) (tc td : Int32) (tn : Nat → Int32) (D2 : va_G) (cB : ClassId) (sz0 : Nat) (ao : Nat) (o : Nat → Int64) {i mm : Nat} (hi : i < 8) (hm : mm < tt_fst g 10) : Met l y_L_position (wH y_L_position b_L_position 5 (some .int) [(0, 9, 12, 19)]) ({ frames := 10, cells := 22, slots := 672, locals := 260 }) (tb (wl D ci ad g tc td tn D2 cB sz0 ao o) [.ref (ad 0), .int (nI i), .int (nI mm), .ref ao]) (lQ D ci ad ao (nI 0, (lN (tt_pos g i mm (tt_yr g mm))), g)) 22 672 (lF ad ao) := by
  refine va_MetW (cc := b_L_position) (maxL := 5) (ret := (some .int)) (hh := [(0, 9, 12, 19)]) (by decide) rfl ?_
  intro p e s m args below meth c s₁ B hml hv
  obtain ⟨rfl, ⟨⟨⟨hK, hg, hX, hD, hCI⟩, hKB, hKC, hsz⟩, hE⟩, hA, hne⟩ := hv
  have hx := B.exec
  have hb := B.bytes
  have hr := B.returns
  have hts := atoms_spec (ws := wH y_L_position b_L_position 5 (some .int) [(0, 9, 12, 19)]) B.pre
  have hT : ∀ w ∈ TT, w ∈ wH y_L_position b_L_position 5 (some .int) [(0, 9, 12, 19)] := wH_T
  have hown : s.vm.findClass RL = some m.cls := findClass_of_methodNamed B.named
  have hlocks := B.notSynchronized
  have hl := lv_entry ([.ref (ad 0), .int (nI i), .int (nI mm), .ref ao]) (n := 5) (Nat.le_of_ble_eq_true rfl)
  rw [lg_entry_eq]
  generalize (lg_sl ([.ref (ad 0), .int (nI i), .int (nI mm), .ref ao]) ++ List.replicate (5 - (lg_sl ([.ref (ad 0), .int (nI i), .int (nI mm), .ref ao])).length) Slot.unset).toArray = ls at hl ⊢
  have hl : lv_has ls 5 [(0, .ref (ad 0)), (1, .int (nI i)), (2, .int (nI mm)), (3, .ref ao)] := hl
  have htab := vx_table (x := y_L_position) B (hts _ List.mem_cons_self)
  have hL : ∀ q ∈ ([] : List Loc), lF ad ao q.base := fun q hq => nomatch hq
  refine lv_aload_n hx hb d_L_position_0 rfl (lv_at hl 3 rfl) ?_
  refine lv_iconst hx hb d_L_position_1 (v := (nI 0)) rfl ?_
  refine lv_aload_n hx hb d_L_position_2 rfl (lv_at hl 0 rfl) ?_
  refine lv_iload_n hx hb d_L_position_3 rfl (lv_at hl 1 rfl) ?_
  refine lv_iload_n hx hb d_L_position_4 rfl (lv_at hl 2 rfl) ?_
  refine tq_V ⟨hx, hb, hml, hown, hts⟩ hT (c_X_position l D ci ad g tc td tn hi hm) lk_L_35 wX_mv ⟨hK, hg, hX⟩ (wXW_rc hK hX) rfl hl.1 rfl (Nat.le_of_ble_eq_true rfl) d_L_position_5 ⟨rfl, rfl, Nat.le_of_ble_eq_true rfl, Nat.le_of_ble_eq_true rfl⟩ ⟨Nat.zero_le _, Nat.zero_le _⟩ ?_
  have hG : txG ad s.heap s.heap := txG.rf
  have hA := lP_keep hne hA hG
  refine tq_last (F := lF ad ao) hx hb hK 1 hA rfl (j := 0) (by decide) (by decide) (Or.inr rfl) hL d_L_position_8 (fun H2 locs2 hP2 hz2 hq2 hL => ?_)
  refine lv_goto hx hb d_L_position_9 (tgt := 16) (by decide) ?_
  refine lv_iconst hx hb d_L_position_16 (v := (nI 0)) rfl ?_
  have hX := tx_keep hX (fun k hk => hq2 _ (hne k hk))
  refine W.widen (k := 22) (n := 672) (Nat.le_of_ble_eq_true rfl) (Nat.le_of_ble_eq_true rfl) ?_
  exact W.iret hx hb hr (fun t ht hW => ⟨_, rfl, rfl, tc, td, tn, _, by rw [ht]; exact hX, hg, hCI, by rw [ht]; exact hP2, fun _ => updL_0, by rw [ht]; exact lO.ofG hG hz2 hq2⟩) hL d_L_position_17
set_option maxHeartbeats 4000000 in
set_option maxRecDepth 100000 in
theorem w_position_B (l : Launch) (htr : l.stackTraces = false) (D : va_G) (ci : Nat → ClassId) (ad : Nat → Nat) (g : TS) (tc td : Int32) (tn : Nat → Int32) (D2 : va_G) (cB : ClassId) (sz0 : Nat) (ao : Nat) (o : Nat → Int64) (u v : Int32) (hv0 : ¬ ((0 ≤ u.toInt ∧ u.toInt < 8) ∧ 0 ≤ v.toInt ∧ v.toInt < (tt_fst g 10 : Nat))) : Met l y_L_position (wH y_L_position b_L_position 5 (some .int) [(0, 9, 12, 19)]) ({ frames := 10, cells := 22, slots := 672, locals := 260 }) (tb (wl D ci ad g tc td tn D2 cB sz0 ao o) [.ref (ad 0), .int u, .int v, .ref ao]) (lQ D ci ad ao (nI 1, 0, g)) 22 672 (lF ad ao) := by
  refine va_MetW (cc := b_L_position) (maxL := 5) (ret := (some .int)) (hh := [(0, 9, 12, 19)]) (by decide) rfl ?_
  intro p e s m args below meth c s₁ B hml hv
  obtain ⟨rfl, ⟨⟨⟨hK, hg, hX, hD, hCI⟩, hKB, hKC, hsz⟩, hE⟩, hA, hne⟩ := hv
  have hx := B.exec
  have hb := B.bytes
  have hr := B.returns
  have hts := atoms_spec (ws := wH y_L_position b_L_position 5 (some .int) [(0, 9, 12, 19)]) B.pre
  have hT : ∀ w ∈ TT, w ∈ wH y_L_position b_L_position 5 (some .int) [(0, 9, 12, 19)] := wH_T
  have hown : s.vm.findClass RL = some m.cls := findClass_of_methodNamed B.named
  have hlocks := B.notSynchronized
  have hl := lv_entry ([.ref (ad 0), .int u, .int v, .ref ao]) (n := 5) (Nat.le_of_ble_eq_true rfl)
  rw [lg_entry_eq]
  generalize (lg_sl ([.ref (ad 0), .int u, .int v, .ref ao]) ++ List.replicate (5 - (lg_sl ([.ref (ad 0), .int u, .int v, .ref ao])).length) Slot.unset).toArray = ls at hl ⊢
  have hl : lv_has ls 5 [(0, .ref (ad 0)), (1, .int u), (2, .int v), (3, .ref ao)] := hl
  have htab := vx_table (x := y_L_position) B (hts _ List.mem_cons_self)
  have hL : ∀ q ∈ ([] : List Loc), lF ad ao q.base := fun q hq => nomatch hq
  refine lv_aload_n hx hb d_L_position_0 rfl (lv_at hl 3 rfl) ?_
  refine lv_iconst hx hb d_L_position_1 (v := (nI 0)) rfl ?_
  refine lv_aload_n hx hb d_L_position_2 rfl (lv_at hl 0 rfl) ?_
  refine lv_iload_n hx hb d_L_position_3 rfl (lv_at hl 1 rfl) ?_
  refine lv_iload_n hx hb d_L_position_4 rfl (lv_at hl 2 rfl) ?_
  refine tl_X (F2 := lF ad ao) (fun _ h => h.elim) ⟨hx, hb, hml, hown, hts⟩ hT (x_X_position l htr D ci ad g tc td tn u v hv0) lk_L_35 wXE_mv ⟨⟨hK, hg, hX⟩, hE⟩ (wXW_rc hK hX) rfl hl.1 rfl (Nat.le_of_ble_eq_true rfl) d_L_position_5 ⟨rfl, rfl, Nat.le_of_ble_eq_true rfl, Nat.le_of_ble_eq_true rfl⟩ ⟨Nat.le_of_ble_eq_true rfl, Nat.le_of_ble_eq_true rfl⟩ hL (fun E9 ce q9 st t locs1 hst hX9 hL h4 h5 h6 => ?_)
  obtain ⟨u9, hu9, hB9, hF9⟩ := hX9
  subst hB9
  have hG : txG ad s.heap t.heap := by have h := txG.ofF0 (ad := ad) hF9; rw [hst] at h; exact h
  have hX1 := tx_keep hX (fun k hk => (hF9.2 _ (by rw [hst]; exact tx_lt hX hk) (fun z => z)).trans (by rw [hst]))
  refine vx_catch (own := RL) (name := eI) hown [] ⟨0, 9, 12, 19⟩ [] (htab.trans rfl) (fun z hz => nomatch hz) (by decide) (by decide) (hts _ (hT _ k_L_19)) (eB_use hE.2.2.1 _ (List.mem_of_getElem? (i := 4) rfl)) h4 h5 h6 ?_
  show W p l e _ s m _ below meth c _ _ _ _ _ (F0 m 12 ls [.ref q9])
  refine lv_astore hx hb d_L_position_12 hl (by decide) (lv' := [(4, .ref q9), (0, .ref (ad 0)), (1, .int u), (2, .int v), (3, .ref ao)]) rfl (fun ls hl => ?_)
  refine lv_iconst hx hb d_L_position_14 (v := (nI 1)) rfl ?_
  refine W.widen (k := 22) (n := 672) (Nat.le_of_ble_eq_true rfl) (Nat.le_of_ble_eq_true rfl) ?_
  exact W.iret hx hb hr (fun t9 ht hW => ⟨_, rfl, rfl, tc, td, tn, o, by rw [ht]; exact hX1, hg, hCI, by rw [ht]; exact lP_keep hne hA hG, fun z => absurd (show (nI 1 : Int32) = nI 0 from z) (by decide), by rw [ht]; exact lO.ofG0 hG⟩) hL d_L_position_15
set_option maxHeartbeats 4000000 in
set_option maxRecDepth 100000 in
theorem w_cosine_A (l : Launch) (htr : l.stackTraces = false) (D : va_G) (ci : Nat → ClassId) (ad : Nat → Nat) (g : TS) (tc td : Int32) (tn : Nat → Int32) (D2 : va_G) (cB : ClassId) (sz0 : Nat) (ao : Nat) (o : Nat → Int64) {n : Nat} (hn : n < 281474976710656) : Met l y_L_cosine (wH y_L_cosine b_L_cosine 5 (some .int) [(0, 9, 12, 13)]) ({ frames := 10, cells := 22, slots := 672, locals := 260 }) (tb (wl D ci ad g tc td tn D2 cB sz0 ao o) [.ref (ad 0), .long (lN n), .ref ao]) (lQ D ci ad ao (nI 0, (iZ (tt_cos n)).toInt64, g)) 22 672 (lF ad ao) := by
  refine va_MetW (cc := b_L_cosine) (maxL := 5) (ret := (some .int)) (hh := [(0, 9, 12, 13)]) (by decide) rfl ?_
  intro p e s m args below meth c s₁ B hml hv
  obtain ⟨rfl, ⟨⟨⟨hK, hg, hX, hD, hCI⟩, hKB, hKC, hsz⟩, hE⟩, hA, hne⟩ := hv
  have hx := B.exec
  have hb := B.bytes
  have hr := B.returns
  have hts := atoms_spec (ws := wH y_L_cosine b_L_cosine 5 (some .int) [(0, 9, 12, 13)]) B.pre
  have hT : ∀ w ∈ TT, w ∈ wH y_L_cosine b_L_cosine 5 (some .int) [(0, 9, 12, 13)] := wH_T
  have hown : s.vm.findClass RL = some m.cls := findClass_of_methodNamed B.named
  have hlocks := B.notSynchronized
  have hl := lv_entry ([.ref (ad 0), .long (lN n), .ref ao]) (n := 5) (Nat.le_of_ble_eq_true rfl)
  rw [lg_entry_eq]
  generalize (lg_sl ([.ref (ad 0), .long (lN n), .ref ao]) ++ List.replicate (5 - (lg_sl ([.ref (ad 0), .long (lN n), .ref ao])).length) Slot.unset).toArray = ls at hl ⊢
  have hl : lv_has ls 5 [(0, .ref (ad 0)), (1, .long (lN n)), (3, .ref ao)] := hl
  have htab := vx_table (x := y_L_cosine) B (hts _ List.mem_cons_self)
  have hL : ∀ q ∈ ([] : List Loc), lF ad ao q.base := fun q hq => nomatch hq
  refine lv_aload_n hx hb d_L_cosine_0 rfl (lv_at hl 2 rfl) ?_
  refine lv_iconst hx hb d_L_cosine_1 (v := (nI 0)) rfl ?_
  refine lv_aload_n hx hb d_L_cosine_2 rfl (lv_at hl 0 rfl) ?_
  refine lv_lload_n hx hb d_L_cosine_3 rfl (lv_at hl 1 rfl) ?_
  refine tq_V ⟨hx, hb, hml, hown, hts⟩ hT (c_X_cosine l D ci ad g tc td tn hn) lk_L_39 wX_mv ⟨hK, hg, hX⟩ (wXW_rc hK hX) rfl hl.1 rfl (Nat.le_of_ble_eq_true rfl) d_L_cosine_4 ⟨rfl, rfl, Nat.le_of_ble_eq_true rfl, Nat.le_of_ble_eq_true rfl⟩ ⟨Nat.zero_le _, Nat.zero_le _⟩ ?_
  have hG : txG ad s.heap s.heap := txG.rf
  have hA := lP_keep hne hA hG
  refine lv_i2l hx hb d_L_cosine_7 (v := (iZ (tt_cos n)).toInt64) rfl ?_
  refine tq_last (F := lF ad ao) hx hb hK 1 hA rfl (j := 0) (by decide) (by decide) (Or.inr rfl) hL d_L_cosine_8 (fun H2 locs2 hP2 hz2 hq2 hL => ?_)
  refine lv_goto hx hb d_L_cosine_9 (tgt := 16) (by decide) ?_
  refine lv_iconst hx hb d_L_cosine_16 (v := (nI 0)) rfl ?_
  have hX := tx_keep hX (fun k hk => hq2 _ (hne k hk))
  refine W.widen (k := 22) (n := 672) (Nat.le_of_ble_eq_true rfl) (Nat.le_of_ble_eq_true rfl) ?_
  exact W.iret hx hb hr (fun t ht hW => ⟨_, rfl, rfl, tc, td, tn, _, by rw [ht]; exact hX, hg, hCI, by rw [ht]; exact hP2, fun _ => updL_0, by rw [ht]; exact lO.ofG hG hz2 hq2⟩) hL d_L_cosine_17
set_option maxHeartbeats 4000000 in
set_option maxRecDepth 100000 in
theorem w_cosine_B (l : Launch) (htr : l.stackTraces = false) (D : va_G) (ci : Nat → ClassId) (ad : Nat → Nat) (g : TS) (tc td : Int32) (tn : Nat → Int32) (D2 : va_G) (cB : ClassId) (sz0 : Nat) (ao : Nat) (o : Nat → Int64) (v : Int64) (hv0 : ¬ (0 ≤ v.toInt ∧ v.toInt < 281474976710656)) : Met l y_L_cosine (wH y_L_cosine b_L_cosine 5 (some .int) [(0, 9, 12, 13)]) ({ frames := 10, cells := 22, slots := 672, locals := 260 }) (tb (wl D ci ad g tc td tn D2 cB sz0 ao o) [.ref (ad 0), .long v, .ref ao]) (lQ D ci ad ao (nI 1, 0, g)) 22 672 (lF ad ao) := by
  refine va_MetW (cc := b_L_cosine) (maxL := 5) (ret := (some .int)) (hh := [(0, 9, 12, 13)]) (by decide) rfl ?_
  intro p e s m args below meth c s₁ B hml hv
  obtain ⟨rfl, ⟨⟨⟨hK, hg, hX, hD, hCI⟩, hKB, hKC, hsz⟩, hE⟩, hA, hne⟩ := hv
  have hx := B.exec
  have hb := B.bytes
  have hr := B.returns
  have hts := atoms_spec (ws := wH y_L_cosine b_L_cosine 5 (some .int) [(0, 9, 12, 13)]) B.pre
  have hT : ∀ w ∈ TT, w ∈ wH y_L_cosine b_L_cosine 5 (some .int) [(0, 9, 12, 13)] := wH_T
  have hown : s.vm.findClass RL = some m.cls := findClass_of_methodNamed B.named
  have hlocks := B.notSynchronized
  have hl := lv_entry ([.ref (ad 0), .long v, .ref ao]) (n := 5) (Nat.le_of_ble_eq_true rfl)
  rw [lg_entry_eq]
  generalize (lg_sl ([.ref (ad 0), .long v, .ref ao]) ++ List.replicate (5 - (lg_sl ([.ref (ad 0), .long v, .ref ao])).length) Slot.unset).toArray = ls at hl ⊢
  have hl : lv_has ls 5 [(0, .ref (ad 0)), (1, .long v), (3, .ref ao)] := hl
  have htab := vx_table (x := y_L_cosine) B (hts _ List.mem_cons_self)
  have hL : ∀ q ∈ ([] : List Loc), lF ad ao q.base := fun q hq => nomatch hq
  refine lv_aload_n hx hb d_L_cosine_0 rfl (lv_at hl 2 rfl) ?_
  refine lv_iconst hx hb d_L_cosine_1 (v := (nI 0)) rfl ?_
  refine lv_aload_n hx hb d_L_cosine_2 rfl (lv_at hl 0 rfl) ?_
  refine lv_lload_n hx hb d_L_cosine_3 rfl (lv_at hl 1 rfl) ?_
  refine tl_X (F2 := lF ad ao) (fun _ h => h.elim) ⟨hx, hb, hml, hown, hts⟩ hT (x_X_cosine l htr D ci ad g tc td tn v hv0) lk_L_39 wXE_mv ⟨⟨hK, hg, hX⟩, hE⟩ (wXW_rc hK hX) rfl hl.1 rfl (Nat.le_of_ble_eq_true rfl) d_L_cosine_4 ⟨rfl, rfl, Nat.le_of_ble_eq_true rfl, Nat.le_of_ble_eq_true rfl⟩ ⟨Nat.le_of_ble_eq_true rfl, Nat.le_of_ble_eq_true rfl⟩ hL (fun E9 ce q9 st t locs1 hst hX9 hL h4 h5 h6 => ?_)
  obtain ⟨u9, hu9, hB9, hF9⟩ := hX9
  subst hB9
  have hG : txG ad s.heap t.heap := by have h := txG.ofF0 (ad := ad) hF9; rw [hst] at h; exact h
  have hX1 := tx_keep hX (fun k hk => (hF9.2 _ (by rw [hst]; exact tx_lt hX hk) (fun z => z)).trans (by rw [hst]))
  refine vx_catch (own := RL) (name := eA) hown [] ⟨0, 9, 12, 13⟩ [] (htab.trans rfl) (fun z hz => nomatch hz) (by decide) (by decide) (hts _ (hT _ k_L_13)) (eB_use hE.2.2.1 _ (List.mem_of_getElem? (i := 3) rfl)) h4 h5 h6 ?_
  show W p l e _ s m _ below meth c _ _ _ _ _ (F0 m 12 ls [.ref q9])
  refine lv_astore hx hb d_L_cosine_12 hl (by decide) (lv' := [(4, .ref q9), (0, .ref (ad 0)), (1, .long v), (3, .ref ao)]) rfl (fun ls hl => ?_)
  refine lv_iconst hx hb d_L_cosine_14 (v := (nI 1)) rfl ?_
  refine W.widen (k := 22) (n := 672) (Nat.le_of_ble_eq_true rfl) (Nat.le_of_ble_eq_true rfl) ?_
  exact W.iret hx hb hr (fun t9 ht hW => ⟨_, rfl, rfl, tc, td, tn, o, by rw [ht]; exact hX1, hg, hCI, by rw [ht]; exact lP_keep hne hA hG, fun z => absurd (show (nI 1 : Int32) = nI 0 from z) (by decide), by rw [ht]; exact lO.ofG0 hG⟩) hL d_L_cosine_15
set_option maxHeartbeats 4000000 in
set_option maxRecDepth 100000 in
theorem w_height_A (l : Launch) (htr : l.stackTraces = false) (D : va_G) (ci : Nat → ClassId) (ad : Nat → Nat) (g : TS) (tc td : Int32) (tn : Nat → Int32) (D2 : va_G) (cB : ClassId) (sz0 : Nat) (ao : Nat) (o : Nat → Int64) {mm : Nat} (hm : mm < tt_fst g 10) : Met l y_L_height (wH y_L_height b_L_height 4 (some .int) [(0, 9, 12, 19)]) ({ frames := 10, cells := 22, slots := 672, locals := 260 }) (tb (wl D ci ad g tc td tn D2 cB sz0 ao o) [.ref (ad 0), .int (nI mm), .ref ao]) (lQ D ci ad ao (nI 0, (iZ (tt_hgt g mm)).toInt64, g)) 22 672 (lF ad ao) := by
  refine va_MetW (cc := b_L_height) (maxL := 4) (ret := (some .int)) (hh := [(0, 9, 12, 19)]) (by decide) rfl ?_
  intro p e s m args below meth c s₁ B hml hv
  obtain ⟨rfl, ⟨⟨⟨hK, hg, hX, hD, hCI⟩, hKB, hKC, hsz⟩, hE⟩, hA, hne⟩ := hv
  have hx := B.exec
  have hb := B.bytes
  have hr := B.returns
  have hts := atoms_spec (ws := wH y_L_height b_L_height 4 (some .int) [(0, 9, 12, 19)]) B.pre
  have hT : ∀ w ∈ TT, w ∈ wH y_L_height b_L_height 4 (some .int) [(0, 9, 12, 19)] := wH_T
  have hown : s.vm.findClass RL = some m.cls := findClass_of_methodNamed B.named
  have hlocks := B.notSynchronized
  have hl := lv_entry ([.ref (ad 0), .int (nI mm), .ref ao]) (n := 4) (Nat.le_of_ble_eq_true rfl)
  rw [lg_entry_eq]
  generalize (lg_sl ([.ref (ad 0), .int (nI mm), .ref ao]) ++ List.replicate (4 - (lg_sl ([.ref (ad 0), .int (nI mm), .ref ao])).length) Slot.unset).toArray = ls at hl ⊢
  have hl : lv_has ls 4 [(0, .ref (ad 0)), (1, .int (nI mm)), (2, .ref ao)] := hl
  have htab := vx_table (x := y_L_height) B (hts _ List.mem_cons_self)
  have hL : ∀ q ∈ ([] : List Loc), lF ad ao q.base := fun q hq => nomatch hq
  refine lv_aload_n hx hb d_L_height_0 rfl (lv_at hl 2 rfl) ?_
  refine lv_iconst hx hb d_L_height_1 (v := (nI 0)) rfl ?_
  refine lv_aload_n hx hb d_L_height_2 rfl (lv_at hl 0 rfl) ?_
  refine lv_iload_n hx hb d_L_height_3 rfl (lv_at hl 1 rfl) ?_
  refine tq_V ⟨hx, hb, hml, hown, hts⟩ hT (c_X_height l D ci ad g tc td tn hm) lk_L_43 wX_mv ⟨hK, hg, hX⟩ (wXW_rc hK hX) rfl hl.1 rfl (Nat.le_of_ble_eq_true rfl) d_L_height_4 ⟨rfl, rfl, Nat.le_of_ble_eq_true rfl, Nat.le_of_ble_eq_true rfl⟩ ⟨Nat.zero_le _, Nat.zero_le _⟩ ?_
  have hG : txG ad s.heap s.heap := txG.rf
  have hA := lP_keep hne hA hG
  refine lv_i2l hx hb d_L_height_7 (v := (iZ (tt_hgt g mm)).toInt64) rfl ?_
  refine tq_last (F := lF ad ao) hx hb hK 1 hA rfl (j := 0) (by decide) (by decide) (Or.inr rfl) hL d_L_height_8 (fun H2 locs2 hP2 hz2 hq2 hL => ?_)
  refine lv_goto hx hb d_L_height_9 (tgt := 15) (by decide) ?_
  refine lv_iconst hx hb d_L_height_15 (v := (nI 0)) rfl ?_
  have hX := tx_keep hX (fun k hk => hq2 _ (hne k hk))
  refine W.widen (k := 22) (n := 672) (Nat.le_of_ble_eq_true rfl) (Nat.le_of_ble_eq_true rfl) ?_
  exact W.iret hx hb hr (fun t ht hW => ⟨_, rfl, rfl, tc, td, tn, _, by rw [ht]; exact hX, hg, hCI, by rw [ht]; exact hP2, fun _ => updL_0, by rw [ht]; exact lO.ofG hG hz2 hq2⟩) hL d_L_height_16
set_option maxHeartbeats 4000000 in
set_option maxRecDepth 100000 in
theorem w_height_B (l : Launch) (htr : l.stackTraces = false) (D : va_G) (ci : Nat → ClassId) (ad : Nat → Nat) (g : TS) (tc td : Int32) (tn : Nat → Int32) (D2 : va_G) (cB : ClassId) (sz0 : Nat) (ao : Nat) (o : Nat → Int64) (v : Int32) (hv0 : ¬ (0 ≤ v.toInt ∧ v.toInt < (tt_fst g 10 : Nat))) : Met l y_L_height (wH y_L_height b_L_height 4 (some .int) [(0, 9, 12, 19)]) ({ frames := 10, cells := 22, slots := 672, locals := 260 }) (tb (wl D ci ad g tc td tn D2 cB sz0 ao o) [.ref (ad 0), .int v, .ref ao]) (lQ D ci ad ao (nI 1, 0, g)) 22 672 (lF ad ao) := by
  refine va_MetW (cc := b_L_height) (maxL := 4) (ret := (some .int)) (hh := [(0, 9, 12, 19)]) (by decide) rfl ?_
  intro p e s m args below meth c s₁ B hml hv
  obtain ⟨rfl, ⟨⟨⟨hK, hg, hX, hD, hCI⟩, hKB, hKC, hsz⟩, hE⟩, hA, hne⟩ := hv
  have hx := B.exec
  have hb := B.bytes
  have hr := B.returns
  have hts := atoms_spec (ws := wH y_L_height b_L_height 4 (some .int) [(0, 9, 12, 19)]) B.pre
  have hT : ∀ w ∈ TT, w ∈ wH y_L_height b_L_height 4 (some .int) [(0, 9, 12, 19)] := wH_T
  have hown : s.vm.findClass RL = some m.cls := findClass_of_methodNamed B.named
  have hlocks := B.notSynchronized
  have hl := lv_entry ([.ref (ad 0), .int v, .ref ao]) (n := 4) (Nat.le_of_ble_eq_true rfl)
  rw [lg_entry_eq]
  generalize (lg_sl ([.ref (ad 0), .int v, .ref ao]) ++ List.replicate (4 - (lg_sl ([.ref (ad 0), .int v, .ref ao])).length) Slot.unset).toArray = ls at hl ⊢
  have hl : lv_has ls 4 [(0, .ref (ad 0)), (1, .int v), (2, .ref ao)] := hl
  have htab := vx_table (x := y_L_height) B (hts _ List.mem_cons_self)
  have hL : ∀ q ∈ ([] : List Loc), lF ad ao q.base := fun q hq => nomatch hq
  refine lv_aload_n hx hb d_L_height_0 rfl (lv_at hl 2 rfl) ?_
  refine lv_iconst hx hb d_L_height_1 (v := (nI 0)) rfl ?_
  refine lv_aload_n hx hb d_L_height_2 rfl (lv_at hl 0 rfl) ?_
  refine lv_iload_n hx hb d_L_height_3 rfl (lv_at hl 1 rfl) ?_
  refine tl_X (F2 := lF ad ao) (fun _ h => h.elim) ⟨hx, hb, hml, hown, hts⟩ hT (x_X_height l htr D ci ad g tc td tn v hv0) lk_L_43 wXE_mv ⟨⟨hK, hg, hX⟩, hE⟩ (wXW_rc hK hX) rfl hl.1 rfl (Nat.le_of_ble_eq_true rfl) d_L_height_4 ⟨rfl, rfl, Nat.le_of_ble_eq_true rfl, Nat.le_of_ble_eq_true rfl⟩ ⟨Nat.le_of_ble_eq_true rfl, Nat.le_of_ble_eq_true rfl⟩ hL (fun E9 ce q9 st t locs1 hst hX9 hL h4 h5 h6 => ?_)
  obtain ⟨u9, hu9, hB9, hF9⟩ := hX9
  subst hB9
  have hG : txG ad s.heap t.heap := by have h := txG.ofF0 (ad := ad) hF9; rw [hst] at h; exact h
  have hX1 := tx_keep hX (fun k hk => (hF9.2 _ (by rw [hst]; exact tx_lt hX hk) (fun z => z)).trans (by rw [hst]))
  refine vx_catch (own := RL) (name := eI) hown [] ⟨0, 9, 12, 19⟩ [] (htab.trans rfl) (fun z hz => nomatch hz) (by decide) (by decide) (hts _ (hT _ k_L_19)) (eB_use hE.2.2.1 _ (List.mem_of_getElem? (i := 4) rfl)) h4 h5 h6 ?_
  show W p l e _ s m _ below meth c _ _ _ _ _ (F0 m 12 ls [.ref q9])
  refine lv_astore_n hx hb d_L_height_12 rfl hl (by decide) (lv' := [(3, .ref q9), (0, .ref (ad 0)), (1, .int v), (2, .ref ao)]) rfl (fun ls hl => ?_)
  refine lv_iconst hx hb d_L_height_13 (v := (nI 1)) rfl ?_
  refine W.widen (k := 22) (n := 672) (Nat.le_of_ble_eq_true rfl) (Nat.le_of_ble_eq_true rfl) ?_
  exact W.iret hx hb hr (fun t9 ht hW => ⟨_, rfl, rfl, tc, td, tn, o, by rw [ht]; exact hX1, hg, hCI, by rw [ht]; exact lP_keep hne hA hG, fun z => absurd (show (nI 1 : Int32) = nI 0 from z) (by decide), by rw [ht]; exact lO.ofG0 hG⟩) hL d_L_height_14
set_option maxHeartbeats 4000000 in
set_option maxRecDepth 100000 in
theorem w_mean_A (l : Launch) (htr : l.stackTraces = false) (D : va_G) (ci : Nat → ClassId) (ad : Nat → Nat) (g : TS) (tc td : Int32) (tn : Nat → Int32) (D2 : va_G) (cB : ClassId) (sz0 : Nat) (ao : Nat) (o : Nat → Int64) {mm n : Nat} (hn0 : 1 ≤ n) (hn : n ≤ 2000) (hm : mm + n ≤ tt_fst g 10) : Met l y_L_mean (wH y_L_mean b_L_mean 5 (some .int) [(0, 10, 13, 13), (0, 10, 17, 19)]) ({ frames := 10, cells := 22, slots := 672, locals := 260 }) (tb (wl D ci ad g tc td tn D2 cB sz0 ao o) [.ref (ad 0), .int (nI mm), .int (nI n), .ref ao]) (lQ D ci ad ao (nI 0, (iZ (tt_sm (tt_hgt g) mm n / n)).toInt64, g)) 22 672 (lF ad ao) := by
  refine va_MetW (cc := b_L_mean) (maxL := 5) (ret := (some .int)) (hh := [(0, 10, 13, 13), (0, 10, 17, 19)]) (by decide) rfl ?_
  intro p e s m args below meth c s₁ B hml hv
  obtain ⟨rfl, ⟨⟨⟨hK, hg, hX, hD, hCI⟩, hKB, hKC, hsz⟩, hE⟩, hA, hne⟩ := hv
  have hx := B.exec
  have hb := B.bytes
  have hr := B.returns
  have hts := atoms_spec (ws := wH y_L_mean b_L_mean 5 (some .int) [(0, 10, 13, 13), (0, 10, 17, 19)]) B.pre
  have hT : ∀ w ∈ TT, w ∈ wH y_L_mean b_L_mean 5 (some .int) [(0, 10, 13, 13), (0, 10, 17, 19)] := wH_T
  have hown : s.vm.findClass RL = some m.cls := findClass_of_methodNamed B.named
  have hlocks := B.notSynchronized
  have hl := lv_entry ([.ref (ad 0), .int (nI mm), .int (nI n), .ref ao]) (n := 5) (Nat.le_of_ble_eq_true rfl)
  rw [lg_entry_eq]
  generalize (lg_sl ([.ref (ad 0), .int (nI mm), .int (nI n), .ref ao]) ++ List.replicate (5 - (lg_sl ([.ref (ad 0), .int (nI mm), .int (nI n), .ref ao])).length) Slot.unset).toArray = ls at hl ⊢
  have hl : lv_has ls 5 [(0, .ref (ad 0)), (1, .int (nI mm)), (2, .int (nI n)), (3, .ref ao)] := hl
  have htab := vx_table (x := y_L_mean) B (hts _ List.mem_cons_self)
  have hL : ∀ q ∈ ([] : List Loc), lF ad ao q.base := fun q hq => nomatch hq
  refine lv_aload_n hx hb d_L_mean_0 rfl (lv_at hl 3 rfl) ?_
  refine lv_iconst hx hb d_L_mean_1 (v := (nI 0)) rfl ?_
  refine lv_aload_n hx hb d_L_mean_2 rfl (lv_at hl 0 rfl) ?_
  refine lv_iload_n hx hb d_L_mean_3 rfl (lv_at hl 1 rfl) ?_
  refine lv_iload_n hx hb d_L_mean_4 rfl (lv_at hl 2 rfl) ?_
  refine tq_V ⟨hx, hb, hml, hown, hts⟩ hT (c_X_mean l D ci ad g tc td tn hn0 hn hm) lk_L_46 wX_mv ⟨hK, hg, hX⟩ (wXW_rc hK hX) rfl hl.1 rfl (Nat.le_of_ble_eq_true rfl) d_L_mean_5 ⟨rfl, rfl, Nat.le_of_ble_eq_true rfl, Nat.le_of_ble_eq_true rfl⟩ ⟨Nat.zero_le _, Nat.zero_le _⟩ ?_
  have hG : txG ad s.heap s.heap := txG.rf
  have hA := lP_keep hne hA hG
  refine lv_i2l hx hb d_L_mean_8 (v := (iZ (tt_sm (tt_hgt g) mm n / n)).toInt64) rfl ?_
  refine tq_last (F := lF ad ao) hx hb hK 1 hA rfl (j := 0) (by decide) (by decide) (Or.inr rfl) hL d_L_mean_9 (fun H2 locs2 hP2 hz2 hq2 hL => ?_)
  refine lv_goto hx hb d_L_mean_10 (tgt := 21) (by decide) ?_
  refine lv_iconst hx hb d_L_mean_21 (v := (nI 0)) rfl ?_
  have hX := tx_keep hX (fun k hk => hq2 _ (hne k hk))
  refine W.widen (k := 22) (n := 672) (Nat.le_of_ble_eq_true rfl) (Nat.le_of_ble_eq_true rfl) ?_
  exact W.iret hx hb hr (fun t ht hW => ⟨_, rfl, rfl, tc, td, tn, _, by rw [ht]; exact hX, hg, hCI, by rw [ht]; exact hP2, fun _ => updL_0, by rw [ht]; exact lO.ofG hG hz2 hq2⟩) hL d_L_mean_22
set_option maxHeartbeats 4000000 in
set_option maxRecDepth 100000 in
theorem w_mean_B (l : Launch) (htr : l.stackTraces = false) (D : va_G) (ci : Nat → ClassId) (ad : Nat → Nat) (g : TS) (tc td : Int32) (tn : Nat → Int32) (D2 : va_G) (cB : ClassId) (sz0 : Nat) (ao : Nat) (o : Nat → Int64) (u v : Int32) (hv0 : ¬ (1 ≤ v.toInt ∧ v.toInt ≤ 2000)) : Met l y_L_mean (wH y_L_mean b_L_mean 5 (some .int) [(0, 10, 13, 13), (0, 10, 17, 19)]) ({ frames := 10, cells := 22, slots := 672, locals := 260 }) (tb (wl D ci ad g tc td tn D2 cB sz0 ao o) [.ref (ad 0), .int u, .int v, .ref ao]) (lQ D ci ad ao (nI 1, 0, g)) 22 672 (lF ad ao) := by
  refine va_MetW (cc := b_L_mean) (maxL := 5) (ret := (some .int)) (hh := [(0, 10, 13, 13), (0, 10, 17, 19)]) (by decide) rfl ?_
  intro p e s m args below meth c s₁ B hml hv
  obtain ⟨rfl, ⟨⟨⟨hK, hg, hX, hD, hCI⟩, hKB, hKC, hsz⟩, hE⟩, hA, hne⟩ := hv
  have hx := B.exec
  have hb := B.bytes
  have hr := B.returns
  have hts := atoms_spec (ws := wH y_L_mean b_L_mean 5 (some .int) [(0, 10, 13, 13), (0, 10, 17, 19)]) B.pre
  have hT : ∀ w ∈ TT, w ∈ wH y_L_mean b_L_mean 5 (some .int) [(0, 10, 13, 13), (0, 10, 17, 19)] := wH_T
  have hown : s.vm.findClass RL = some m.cls := findClass_of_methodNamed B.named
  have hlocks := B.notSynchronized
  have hl := lv_entry ([.ref (ad 0), .int u, .int v, .ref ao]) (n := 5) (Nat.le_of_ble_eq_true rfl)
  rw [lg_entry_eq]
  generalize (lg_sl ([.ref (ad 0), .int u, .int v, .ref ao]) ++ List.replicate (5 - (lg_sl ([.ref (ad 0), .int u, .int v, .ref ao])).length) Slot.unset).toArray = ls at hl ⊢
  have hl : lv_has ls 5 [(0, .ref (ad 0)), (1, .int u), (2, .int v), (3, .ref ao)] := hl
  have htab := vx_table (x := y_L_mean) B (hts _ List.mem_cons_self)
  have hL : ∀ q ∈ ([] : List Loc), lF ad ao q.base := fun q hq => nomatch hq
  refine lv_aload_n hx hb d_L_mean_0 rfl (lv_at hl 3 rfl) ?_
  refine lv_iconst hx hb d_L_mean_1 (v := (nI 0)) rfl ?_
  refine lv_aload_n hx hb d_L_mean_2 rfl (lv_at hl 0 rfl) ?_
  refine lv_iload_n hx hb d_L_mean_3 rfl (lv_at hl 1 rfl) ?_
  refine lv_iload_n hx hb d_L_mean_4 rfl (lv_at hl 2 rfl) ?_
  refine tl_X (F2 := lF ad ao) (fun _ h => h.elim) ⟨hx, hb, hml, hown, hts⟩ hT (x_X_meanA l htr D ci ad g tc td tn u v hv0) lk_L_46 wXE_mv ⟨⟨hK, hg, hX⟩, hE⟩ (wXW_rc hK hX) rfl hl.1 rfl (Nat.le_of_ble_eq_true rfl) d_L_mean_5 ⟨rfl, rfl, Nat.le_of_ble_eq_true rfl, Nat.le_of_ble_eq_true rfl⟩ ⟨Nat.le_of_ble_eq_true rfl, Nat.le_of_ble_eq_true rfl⟩ hL (fun E9 ce q9 st t locs1 hst hX9 hL h4 h5 h6 => ?_)
  obtain ⟨u9, hu9, hB9, hF9⟩ := hX9
  subst hB9
  have hG : txG ad s.heap t.heap := by have h := txG.ofF0 (ad := ad) hF9; rw [hst] at h; exact h
  have hX1 := tx_keep hX (fun k hk => (hF9.2 _ (by rw [hst]; exact tx_lt hX hk) (fun z => z)).trans (by rw [hst]))
  refine vx_catch (own := RL) (name := eA) hown [] ⟨0, 10, 13, 13⟩ [⟨0, 10, 17, 19⟩] (htab.trans rfl) (fun z hz => nomatch hz) (by decide) (by decide) (hts _ (hT _ k_L_13)) (eB_use hE.2.2.1 _ (List.mem_of_getElem? (i := 3) rfl)) h4 h5 h6 ?_
  show W p l e _ s m _ below meth c _ _ _ _ _ (F0 m 13 ls [.ref q9])
  refine lv_astore hx hb d_L_mean_13 hl (by decide) (lv' := [(4, .ref q9), (0, .ref (ad 0)), (1, .int u), (2, .int v), (3, .ref ao)]) rfl (fun ls hl => ?_)
  refine lv_iconst hx hb d_L_mean_15 (v := (nI 1)) rfl ?_
  refine W.widen (k := 22) (n := 672) (Nat.le_of_ble_eq_true rfl) (Nat.le_of_ble_eq_true rfl) ?_
  exact W.iret hx hb hr (fun t9 ht hW => ⟨_, rfl, rfl, tc, td, tn, o, by rw [ht]; exact hX1, hg, hCI, by rw [ht]; exact lP_keep hne hA hG, fun z => absurd (show (nI 1 : Int32) = nI 0 from z) (by decide), by rw [ht]; exact lO.ofG0 hG⟩) hL d_L_mean_16
set_option maxHeartbeats 4000000 in
set_option maxRecDepth 100000 in
theorem w_mean_C (l : Launch) (htr : l.stackTraces = false) (D : va_G) (ci : Nat → ClassId) (ad : Nat → Nat) (g : TS) (tc td : Int32) (tn : Nat → Int32) (D2 : va_G) (cB : ClassId) (sz0 : Nat) (ao : Nat) (o : Nat → Int64) (u v : Int32) (hv1 : 1 ≤ v.toInt ∧ v.toInt ≤ 2000) (hv0 : ¬ (0 ≤ u.toInt ∧ u.toInt + v.toInt ≤ (tt_fst g 10 : Nat))) : Met l y_L_mean (wH y_L_mean b_L_mean 5 (some .int) [(0, 10, 13, 13), (0, 10, 17, 19)]) ({ frames := 10, cells := 22, slots := 672, locals := 260 }) (tb (wl D ci ad g tc td tn D2 cB sz0 ao o) [.ref (ad 0), .int u, .int v, .ref ao]) (lQ D ci ad ao (nI 2, 0, g)) 22 672 (lF ad ao) := by
  refine va_MetW (cc := b_L_mean) (maxL := 5) (ret := (some .int)) (hh := [(0, 10, 13, 13), (0, 10, 17, 19)]) (by decide) rfl ?_
  intro p e s m args below meth c s₁ B hml hv
  obtain ⟨rfl, ⟨⟨⟨hK, hg, hX, hD, hCI⟩, hKB, hKC, hsz⟩, hE⟩, hA, hne⟩ := hv
  have hx := B.exec
  have hb := B.bytes
  have hr := B.returns
  have hts := atoms_spec (ws := wH y_L_mean b_L_mean 5 (some .int) [(0, 10, 13, 13), (0, 10, 17, 19)]) B.pre
  have hT : ∀ w ∈ TT, w ∈ wH y_L_mean b_L_mean 5 (some .int) [(0, 10, 13, 13), (0, 10, 17, 19)] := wH_T
  have hown : s.vm.findClass RL = some m.cls := findClass_of_methodNamed B.named
  have hlocks := B.notSynchronized
  have hl := lv_entry ([.ref (ad 0), .int u, .int v, .ref ao]) (n := 5) (Nat.le_of_ble_eq_true rfl)
  rw [lg_entry_eq]
  generalize (lg_sl ([.ref (ad 0), .int u, .int v, .ref ao]) ++ List.replicate (5 - (lg_sl ([.ref (ad 0), .int u, .int v, .ref ao])).length) Slot.unset).toArray = ls at hl ⊢
  have hl : lv_has ls 5 [(0, .ref (ad 0)), (1, .int u), (2, .int v), (3, .ref ao)] := hl
  have htab := vx_table (x := y_L_mean) B (hts _ List.mem_cons_self)
  have hL : ∀ q ∈ ([] : List Loc), lF ad ao q.base := fun q hq => nomatch hq
  refine lv_aload_n hx hb d_L_mean_0 rfl (lv_at hl 3 rfl) ?_
  refine lv_iconst hx hb d_L_mean_1 (v := (nI 0)) rfl ?_
  refine lv_aload_n hx hb d_L_mean_2 rfl (lv_at hl 0 rfl) ?_
  refine lv_iload_n hx hb d_L_mean_3 rfl (lv_at hl 1 rfl) ?_
  refine lv_iload_n hx hb d_L_mean_4 rfl (lv_at hl 2 rfl) ?_
  refine tl_X (F2 := lF ad ao) (fun _ h => h.elim) ⟨hx, hb, hml, hown, hts⟩ hT (x_X_meanI l htr D ci ad g tc td tn u v hv1 hv0) lk_L_46 wXE_mv ⟨⟨hK, hg, hX⟩, hE⟩ (wXW_rc hK hX) rfl hl.1 rfl (Nat.le_of_ble_eq_true rfl) d_L_mean_5 ⟨rfl, rfl, Nat.le_of_ble_eq_true rfl, Nat.le_of_ble_eq_true rfl⟩ ⟨Nat.le_of_ble_eq_true rfl, Nat.le_of_ble_eq_true rfl⟩ hL (fun E9 ce q9 st t locs1 hst hX9 hL h4 h5 h6 => ?_)
  obtain ⟨u9, hu9, hB9, hF9⟩ := hX9
  subst hB9
  have hG : txG ad s.heap t.heap := by have h := txG.ofF0 (ad := ad) hF9; rw [hst] at h; exact h
  have hX1 := tx_keep hX (fun k hk => (hF9.2 _ (by rw [hst]; exact tx_lt hX hk) (fun z => z)).trans (by rw [hst]))
  refine vx_catch (own := RL) (name := eI) hown [⟨0, 10, 13, 13⟩] ⟨0, 10, 17, 19⟩ [] (htab.trans rfl) (fun z hz => by rw [List.mem_singleton.mp hz]; exact Or.inr ⟨by decide, _, hts _ (hT _ k_L_13), hE.2.2.2.2.2⟩) (by decide) (by decide) (hts _ (hT _ k_L_19)) (eB_use hE.2.2.1 _ (List.mem_of_getElem? (i := 4) rfl)) h4 h5 h6 ?_
  show W p l e _ s m _ below meth c _ _ _ _ _ (F0 m 17 ls [.ref q9])
  refine lv_astore hx hb d_L_mean_17 hl (by decide) (lv' := [(4, .ref q9), (0, .ref (ad 0)), (1, .int u), (2, .int v), (3, .ref ao)]) rfl (fun ls hl => ?_)
  refine lv_iconst hx hb d_L_mean_19 (v := (nI 2)) rfl ?_
  refine W.widen (k := 22) (n := 672) (Nat.le_of_ble_eq_true rfl) (Nat.le_of_ble_eq_true rfl) ?_
  exact W.iret hx hb hr (fun t9 ht hW => ⟨_, rfl, rfl, tc, td, tn, o, by rw [ht]; exact hX1, hg, hCI, by rw [ht]; exact lP_keep hne hA hG, fun z => absurd (show (nI 2 : Int32) = nI 0 from z) (by decide), by rw [ht]; exact lO.ofG0 hG⟩) hL d_L_mean_20
set_option maxHeartbeats 4000000 in
set_option maxRecDepth 100000 in
theorem w_extremes_A (l : Launch) (htr : l.stackTraces = false) (D : va_G) (ci : Nat → ClassId) (ad : Nat → Nat) (g : TS) (tc td : Int32) (tn : Nat → Int32) (D2 : va_G) (cB : ClassId) (sz0 : Nat) (ao : Nat) (o : Nat → Int64) {dd : Nat} (hd : dd < tt_db (tt_day g) 10) : Met l y_L_extremes (wH y_L_extremes b_L_extremes 4 (some .int) [(0, 9, 12, 19)]) ({ frames := 10, cells := 22, slots := 672, locals := 260 }) (tb (wl D ci ad g tc td tn D2 cB sz0 ao o) [.ref (ad 0), .int (nI dd), .ref ao]) (lQ D ci ad ao (nI 0, (nI (tt_L (tt_dh g dd) 1440).length).toInt64, g)) 22 672 (lF ad ao) := by
  refine va_MetW (cc := b_L_extremes) (maxL := 4) (ret := (some .int)) (hh := [(0, 9, 12, 19)]) (by decide) rfl ?_
  intro p e s m args below meth c s₁ B hml hv
  obtain ⟨rfl, ⟨⟨⟨hK, hg, hX, hD, hCI⟩, hKB, hKC, hsz⟩, hE⟩, hA, hne⟩ := hv
  have hx := B.exec
  have hb := B.bytes
  have hr := B.returns
  have hts := atoms_spec (ws := wH y_L_extremes b_L_extremes 4 (some .int) [(0, 9, 12, 19)]) B.pre
  have hT : ∀ w ∈ TT, w ∈ wH y_L_extremes b_L_extremes 4 (some .int) [(0, 9, 12, 19)] := wH_T
  have hown : s.vm.findClass RL = some m.cls := findClass_of_methodNamed B.named
  have hlocks := B.notSynchronized
  have hl := lv_entry ([.ref (ad 0), .int (nI dd), .ref ao]) (n := 4) (Nat.le_of_ble_eq_true rfl)
  rw [lg_entry_eq]
  generalize (lg_sl ([.ref (ad 0), .int (nI dd), .ref ao]) ++ List.replicate (4 - (lg_sl ([.ref (ad 0), .int (nI dd), .ref ao])).length) Slot.unset).toArray = ls at hl ⊢
  have hl : lv_has ls 4 [(0, .ref (ad 0)), (1, .int (nI dd)), (2, .ref ao)] := hl
  have htab := vx_table (x := y_L_extremes) B (hts _ List.mem_cons_self)
  have hL : ∀ q ∈ ([] : List Loc), lF ad ao q.base := fun q hq => nomatch hq
  refine lv_aload_n hx hb d_L_extremes_0 rfl (lv_at hl 2 rfl) ?_
  refine lv_iconst hx hb d_L_extremes_1 (v := (nI 0)) rfl ?_
  refine lv_aload_n hx hb d_L_extremes_2 rfl (lv_at hl 0 rfl) ?_
  refine lv_iload_n hx hb d_L_extremes_3 rfl (lv_at hl 1 rfl) ?_
  refine tl_V (F2 := lF ad ao) (fun _ h => Or.inl h) ⟨hx, hb, hml, hown, hts⟩ hT (c_X_extremes l D ci ad g tc td tn hd) lk_L_49 wXC_mv ⟨hK, hg, hX, hD, hCI⟩ (wXW_rc hK hX) rfl hl.1 rfl (Nat.le_of_ble_eq_true rfl) d_L_extremes_4 ⟨rfl, rfl, Nat.le_of_ble_eq_true rfl, Nat.le_of_ble_eq_true rfl⟩ ⟨Nat.le_of_ble_eq_true rfl, Nat.le_of_ble_eq_true rfl⟩ hL (fun v9 H1 locs1 hF9 hL => ?_)
  obtain ⟨rfl, tc1, tn1, hX, hC, hO9⟩ := hF9
  have hG := txG.ofO hO9
  have hCI : tt_CI g tc1 (nI dd) tn1 := Or.inr ⟨dd, hd, rfl, hC⟩
  have hA := lP_keep hne hA hG
  refine lv_i2l hx hb d_L_extremes_7 (v := (nI (tt_L (tt_dh g dd) 1440).length).toInt64) rfl ?_
  refine tq_last (F := lF ad ao) hx hb hK 1 hA rfl (j := 0) (by decide) (by decide) (Or.inr rfl) hL d_L_extremes_8 (fun H2 locs2 hP2 hz2 hq2 hL => ?_)
  refine lv_goto hx hb d_L_extremes_9 (tgt := 15) (by decide) ?_
  refine lv_iconst hx hb d_L_extremes_15 (v := (nI 0)) rfl ?_
  have hX := tx_keep hX (fun k hk => hq2 _ (hne k hk))
  refine W.widen (k := 22) (n := 672) (Nat.le_of_ble_eq_true rfl) (Nat.le_of_ble_eq_true rfl) ?_
  exact W.iret hx hb hr (fun t ht hW => ⟨_, rfl, rfl, tc1, nI dd, tn1, _, by rw [ht]; exact hX, hg, hCI, by rw [ht]; exact hP2, fun _ => updL_0, by rw [ht]; exact lO.ofG hG hz2 hq2⟩) hL d_L_extremes_16
set_option maxHeartbeats 4000000 in
set_option maxRecDepth 100000 in
theorem w_extremes_B (l : Launch) (htr : l.stackTraces = false) (D : va_G) (ci : Nat → ClassId) (ad : Nat → Nat) (g : TS) (tc td : Int32) (tn : Nat → Int32) (D2 : va_G) (cB : ClassId) (sz0 : Nat) (ao : Nat) (o : Nat → Int64) (v : Int32) (hv0 : ¬ (0 ≤ v.toInt ∧ v.toInt < (tt_db (tt_day g) 10 : Nat))) : Met l y_L_extremes (wH y_L_extremes b_L_extremes 4 (some .int) [(0, 9, 12, 19)]) ({ frames := 10, cells := 22, slots := 672, locals := 260 }) (tb (wl D ci ad g tc td tn D2 cB sz0 ao o) [.ref (ad 0), .int v, .ref ao]) (lQ D ci ad ao (nI 1, 0, g)) 22 672 (lF ad ao) := by
  refine va_MetW (cc := b_L_extremes) (maxL := 4) (ret := (some .int)) (hh := [(0, 9, 12, 19)]) (by decide) rfl ?_
  intro p e s m args below meth c s₁ B hml hv
  obtain ⟨rfl, ⟨⟨⟨hK, hg, hX, hD, hCI⟩, hKB, hKC, hsz⟩, hE⟩, hA, hne⟩ := hv
  have hx := B.exec
  have hb := B.bytes
  have hr := B.returns
  have hts := atoms_spec (ws := wH y_L_extremes b_L_extremes 4 (some .int) [(0, 9, 12, 19)]) B.pre
  have hT : ∀ w ∈ TT, w ∈ wH y_L_extremes b_L_extremes 4 (some .int) [(0, 9, 12, 19)] := wH_T
  have hown : s.vm.findClass RL = some m.cls := findClass_of_methodNamed B.named
  have hlocks := B.notSynchronized
  have hl := lv_entry ([.ref (ad 0), .int v, .ref ao]) (n := 4) (Nat.le_of_ble_eq_true rfl)
  rw [lg_entry_eq]
  generalize (lg_sl ([.ref (ad 0), .int v, .ref ao]) ++ List.replicate (4 - (lg_sl ([.ref (ad 0), .int v, .ref ao])).length) Slot.unset).toArray = ls at hl ⊢
  have hl : lv_has ls 4 [(0, .ref (ad 0)), (1, .int v), (2, .ref ao)] := hl
  have htab := vx_table (x := y_L_extremes) B (hts _ List.mem_cons_self)
  have hL : ∀ q ∈ ([] : List Loc), lF ad ao q.base := fun q hq => nomatch hq
  refine lv_aload_n hx hb d_L_extremes_0 rfl (lv_at hl 2 rfl) ?_
  refine lv_iconst hx hb d_L_extremes_1 (v := (nI 0)) rfl ?_
  refine lv_aload_n hx hb d_L_extremes_2 rfl (lv_at hl 0 rfl) ?_
  refine lv_iload_n hx hb d_L_extremes_3 rfl (lv_at hl 1 rfl) ?_
  refine tl_X (F2 := lF ad ao) (fun _ h => h.elim) ⟨hx, hb, hml, hown, hts⟩ hT (x_X_extremes l htr D ci ad g tc td tn v hv0) lk_L_49 wXE_mv ⟨⟨hK, hg, hX⟩, hE⟩ (wXW_rc hK hX) rfl hl.1 rfl (Nat.le_of_ble_eq_true rfl) d_L_extremes_4 ⟨rfl, rfl, Nat.le_of_ble_eq_true rfl, Nat.le_of_ble_eq_true rfl⟩ ⟨Nat.le_of_ble_eq_true rfl, Nat.le_of_ble_eq_true rfl⟩ hL (fun E9 ce q9 st t locs1 hst hX9 hL h4 h5 h6 => ?_)
  obtain ⟨u9, hu9, hB9, hF9⟩ := hX9
  subst hB9
  have hG : txG ad s.heap t.heap := by have h := txG.ofF0 (ad := ad) hF9; rw [hst] at h; exact h
  have hX1 := tx_keep hX (fun k hk => (hF9.2 _ (by rw [hst]; exact tx_lt hX hk) (fun z => z)).trans (by rw [hst]))
  refine vx_catch (own := RL) (name := eI) hown [] ⟨0, 9, 12, 19⟩ [] (htab.trans rfl) (fun z hz => nomatch hz) (by decide) (by decide) (hts _ (hT _ k_L_19)) (eB_use hE.2.2.1 _ (List.mem_of_getElem? (i := 4) rfl)) h4 h5 h6 ?_
  show W p l e _ s m _ below meth c _ _ _ _ _ (F0 m 12 ls [.ref q9])
  refine lv_astore_n hx hb d_L_extremes_12 rfl hl (by decide) (lv' := [(3, .ref q9), (0, .ref (ad 0)), (1, .int v), (2, .ref ao)]) rfl (fun ls hl => ?_)
  refine lv_iconst hx hb d_L_extremes_13 (v := (nI 1)) rfl ?_
  refine W.widen (k := 22) (n := 672) (Nat.le_of_ble_eq_true rfl) (Nat.le_of_ble_eq_true rfl) ?_
  exact W.iret hx hb hr (fun t9 ht hW => ⟨_, rfl, rfl, tc, td, tn, o, by rw [ht]; exact hX1, hg, hCI, by rw [ht]; exact lP_keep hne hA hG, fun z => absurd (show (nI 1 : Int32) = nI 0 from z) (by decide), by rw [ht]; exact lO.ofG0 hG⟩) hL d_L_extremes_14
set_option maxHeartbeats 4000000 in
set_option maxRecDepth 100000 in
theorem w_extreme_A0 (l : Launch) (htr : l.stackTraces = false) (D : va_G) (ci : Nat → ClassId) (ad : Nat → Nat) (g : TS) (tc td : Int32) (tn : Nat → Int32) (D2 : va_G) (cB : ClassId) (sz0 : Nat) (ao : Nat) (o : Nat → Int64) {dd k : Nat} (hd : dd < tt_db (tt_day g) 10) (hk : k < (tt_L (tt_dh g dd) 1440).length) : Met l y_L_extreme (wH y_L_extreme b_L_extreme 6 (some .int) [(0, 12, 15, 19), (0, 12, 19, 13)]) ({ frames := 10, cells := 22, slots := 672, locals := 260 }) (tb (wl D ci ad g tc td tn D2 cB sz0 ao o) [.ref (ad 0), .int (nI dd), .int (nI k), .int (nI 0), .ref ao]) (lQ D ci ad ao (nI 0, (nI (1440 * dd + (tt_L (tt_dh g dd) 1440).getD k 0)).toInt64, g)) 22 672 (lF ad ao) := by
  refine va_MetW (cc := b_L_extreme) (maxL := 6) (ret := (some .int)) (hh := [(0, 12, 15, 19), (0, 12, 19, 13)]) (by decide) rfl ?_
  intro p e s m args below meth c s₁ B hml hv
  obtain ⟨rfl, ⟨⟨⟨hK, hg, hX, hD, hCI⟩, hKB, hKC, hsz⟩, hE⟩, hA, hne⟩ := hv
  have hx := B.exec
  have hb := B.bytes
  have hr := B.returns
  have hts := atoms_spec (ws := wH y_L_extreme b_L_extreme 6 (some .int) [(0, 12, 15, 19), (0, 12, 19, 13)]) B.pre
  have hT : ∀ w ∈ TT, w ∈ wH y_L_extreme b_L_extreme 6 (some .int) [(0, 12, 15, 19), (0, 12, 19, 13)] := wH_T
  have hown : s.vm.findClass RL = some m.cls := findClass_of_methodNamed B.named
  have hlocks := B.notSynchronized
  have hl := lv_entry ([.ref (ad 0), .int (nI dd), .int (nI k), .int (nI 0), .ref ao]) (n := 6) (Nat.le_of_ble_eq_true rfl)
  rw [lg_entry_eq]
  generalize (lg_sl ([.ref (ad 0), .int (nI dd), .int (nI k), .int (nI 0), .ref ao]) ++ List.replicate (6 - (lg_sl ([.ref (ad 0), .int (nI dd), .int (nI k), .int (nI 0), .ref ao])).length) Slot.unset).toArray = ls at hl ⊢
  have hl : lv_has ls 6 [(0, .ref (ad 0)), (1, .int (nI dd)), (2, .int (nI k)), (3, .int (nI 0)), (4, .ref ao)] := hl
  have htab := vx_table (x := y_L_extreme) B (hts _ List.mem_cons_self)
  have hL : ∀ q ∈ ([] : List Loc), lF ad ao q.base := fun q hq => nomatch hq
  refine lv_aload hx hb d_L_extreme_0 (lv_at hl 4 rfl) ?_
  refine lv_iconst hx hb d_L_extreme_2 (v := (nI 0)) rfl ?_
  refine lv_aload_n hx hb d_L_extreme_3 rfl (lv_at hl 0 rfl) ?_
  refine lv_iload_n hx hb d_L_extreme_4 rfl (lv_at hl 1 rfl) ?_
  refine lv_iload_n hx hb d_L_extreme_5 rfl (lv_at hl 2 rfl) ?_
  refine lv_iload_n hx hb d_L_extreme_6 rfl (lv_at hl 3 rfl) ?_
  refine tl_V (F2 := lF ad ao) (fun _ h => Or.inl h) ⟨hx, hb, hml, hown, hts⟩ hT (c_X_extreme0 l D ci ad g tc td tn hd hk) lk_L_52 wXC_mv ⟨hK, hg, hX, hD, hCI⟩ (wXW_rc hK hX) rfl hl.1 rfl (Nat.le_of_ble_eq_true rfl) d_L_extreme_7 ⟨rfl, rfl, Nat.le_of_ble_eq_true rfl, Nat.le_of_ble_eq_true rfl⟩ ⟨Nat.le_of_ble_eq_true rfl, Nat.le_of_ble_eq_true rfl⟩ hL (fun v9 H1 locs1 hF9 hL => ?_)
  obtain ⟨rfl, tc1, tn1, hX, hC, hO9⟩ := hF9
  have hG := txG.ofO hO9
  have hCI : tt_CI g tc1 (nI dd) tn1 := Or.inr ⟨dd, hd, rfl, hC⟩
  have hA := lP_keep hne hA hG
  refine lv_i2l hx hb d_L_extreme_10 (v := (nI (1440 * dd + (tt_L (tt_dh g dd) 1440).getD k 0)).toInt64) rfl ?_
  refine tq_last (F := lF ad ao) hx hb hK 1 hA rfl (j := 0) (by decide) (by decide) (Or.inr rfl) hL d_L_extreme_11 (fun H2 locs2 hP2 hz2 hq2 hL => ?_)
  refine lv_goto hx hb d_L_extreme_12 (tgt := 23) (by decide) ?_
  refine lv_iconst hx hb d_L_extreme_23 (v := (nI 0)) rfl ?_
  have hX := tx_keep hX (fun k hk => hq2 _ (hne k hk))
  refine W.widen (k := 22) (n := 672) (Nat.le_of_ble_eq_true rfl) (Nat.le_of_ble_eq_true rfl) ?_
  exact W.iret hx hb hr (fun t ht hW => ⟨_, rfl, rfl, tc1, nI dd, tn1, _, by rw [ht]; exact hX, hg, hCI, by rw [ht]; exact hP2, fun _ => updL_0, by rw [ht]; exact lO.ofG hG hz2 hq2⟩) hL d_L_extreme_24
set_option maxHeartbeats 4000000 in
set_option maxRecDepth 100000 in
theorem w_extreme_A1 (l : Launch) (htr : l.stackTraces = false) (D : va_G) (ci : Nat → ClassId) (ad : Nat → Nat) (g : TS) (tc td : Int32) (tn : Nat → Int32) (D2 : va_G) (cB : ClassId) (sz0 : Nat) (ao : Nat) (o : Nat → Int64) {dd k : Nat} (hd : dd < tt_db (tt_day g) 10) (hk : k < (tt_L (tt_dh g dd) 1440).length) : Met l y_L_extreme (wH y_L_extreme b_L_extreme 6 (some .int) [(0, 12, 15, 19), (0, 12, 19, 13)]) ({ frames := 10, cells := 22, slots := 672, locals := 260 }) (tb (wl D ci ad g tc td tn D2 cB sz0 ao o) [.ref (ad 0), .int (nI dd), .int (nI k), .int (nI 1), .ref ao]) (lQ D ci ad ao (nI 0, (iZ (tt_hgt g (1440 * dd + (tt_L (tt_dh g dd) 1440).getD k 0))).toInt64, g)) 22 672 (lF ad ao) := by
  refine va_MetW (cc := b_L_extreme) (maxL := 6) (ret := (some .int)) (hh := [(0, 12, 15, 19), (0, 12, 19, 13)]) (by decide) rfl ?_
  intro p e s m args below meth c s₁ B hml hv
  obtain ⟨rfl, ⟨⟨⟨hK, hg, hX, hD, hCI⟩, hKB, hKC, hsz⟩, hE⟩, hA, hne⟩ := hv
  have hx := B.exec
  have hb := B.bytes
  have hr := B.returns
  have hts := atoms_spec (ws := wH y_L_extreme b_L_extreme 6 (some .int) [(0, 12, 15, 19), (0, 12, 19, 13)]) B.pre
  have hT : ∀ w ∈ TT, w ∈ wH y_L_extreme b_L_extreme 6 (some .int) [(0, 12, 15, 19), (0, 12, 19, 13)] := wH_T
  have hown : s.vm.findClass RL = some m.cls := findClass_of_methodNamed B.named
  have hlocks := B.notSynchronized
  have hl := lv_entry ([.ref (ad 0), .int (nI dd), .int (nI k), .int (nI 1), .ref ao]) (n := 6) (Nat.le_of_ble_eq_true rfl)
  rw [lg_entry_eq]
  generalize (lg_sl ([.ref (ad 0), .int (nI dd), .int (nI k), .int (nI 1), .ref ao]) ++ List.replicate (6 - (lg_sl ([.ref (ad 0), .int (nI dd), .int (nI k), .int (nI 1), .ref ao])).length) Slot.unset).toArray = ls at hl ⊢
  have hl : lv_has ls 6 [(0, .ref (ad 0)), (1, .int (nI dd)), (2, .int (nI k)), (3, .int (nI 1)), (4, .ref ao)] := hl
  have htab := vx_table (x := y_L_extreme) B (hts _ List.mem_cons_self)
  have hL : ∀ q ∈ ([] : List Loc), lF ad ao q.base := fun q hq => nomatch hq
  refine lv_aload hx hb d_L_extreme_0 (lv_at hl 4 rfl) ?_
  refine lv_iconst hx hb d_L_extreme_2 (v := (nI 0)) rfl ?_
  refine lv_aload_n hx hb d_L_extreme_3 rfl (lv_at hl 0 rfl) ?_
  refine lv_iload_n hx hb d_L_extreme_4 rfl (lv_at hl 1 rfl) ?_
  refine lv_iload_n hx hb d_L_extreme_5 rfl (lv_at hl 2 rfl) ?_
  refine lv_iload_n hx hb d_L_extreme_6 rfl (lv_at hl 3 rfl) ?_
  refine tl_V (F2 := lF ad ao) (fun _ h => Or.inl h) ⟨hx, hb, hml, hown, hts⟩ hT (c_X_extreme1 l D ci ad g tc td tn hd hk) lk_L_52 wXC_mv ⟨hK, hg, hX, hD, hCI⟩ (wXW_rc hK hX) rfl hl.1 rfl (Nat.le_of_ble_eq_true rfl) d_L_extreme_7 ⟨rfl, rfl, Nat.le_of_ble_eq_true rfl, Nat.le_of_ble_eq_true rfl⟩ ⟨Nat.le_of_ble_eq_true rfl, Nat.le_of_ble_eq_true rfl⟩ hL (fun v9 H1 locs1 hF9 hL => ?_)
  obtain ⟨rfl, tc1, tn1, hX, hC, hO9⟩ := hF9
  have hG := txG.ofO hO9
  have hCI : tt_CI g tc1 (nI dd) tn1 := Or.inr ⟨dd, hd, rfl, hC⟩
  have hA := lP_keep hne hA hG
  refine lv_i2l hx hb d_L_extreme_10 (v := (iZ (tt_hgt g (1440 * dd + (tt_L (tt_dh g dd) 1440).getD k 0))).toInt64) rfl ?_
  refine tq_last (F := lF ad ao) hx hb hK 1 hA rfl (j := 0) (by decide) (by decide) (Or.inr rfl) hL d_L_extreme_11 (fun H2 locs2 hP2 hz2 hq2 hL => ?_)
  refine lv_goto hx hb d_L_extreme_12 (tgt := 23) (by decide) ?_
  refine lv_iconst hx hb d_L_extreme_23 (v := (nI 0)) rfl ?_
  have hX := tx_keep hX (fun k hk => hq2 _ (hne k hk))
  refine W.widen (k := 22) (n := 672) (Nat.le_of_ble_eq_true rfl) (Nat.le_of_ble_eq_true rfl) ?_
  exact W.iret hx hb hr (fun t ht hW => ⟨_, rfl, rfl, tc1, nI dd, tn1, _, by rw [ht]; exact hX, hg, hCI, by rw [ht]; exact hP2, fun _ => updL_0, by rw [ht]; exact lO.ofG hG hz2 hq2⟩) hL d_L_extreme_24
set_option maxHeartbeats 4000000 in
set_option maxRecDepth 100000 in
theorem w_extreme_A2 (l : Launch) (htr : l.stackTraces = false) (D : va_G) (ci : Nat → ClassId) (ad : Nat → Nat) (g : TS) (tc td : Int32) (tn : Nat → Int32) (D2 : va_G) (cB : ClassId) (sz0 : Nat) (ao : Nat) (o : Nat → Int64) {dd k : Nat} (hd : dd < tt_db (tt_day g) 10) (hk : k < (tt_L (tt_dh g dd) 1440).length) : Met l y_L_extreme (wH y_L_extreme b_L_extreme 6 (some .int) [(0, 12, 15, 19), (0, 12, 19, 13)]) ({ frames := 10, cells := 22, slots := 672, locals := 260 }) (tb (wl D ci ad g tc td tn D2 cB sz0 ao o) [.ref (ad 0), .int (nI dd), .int (nI k), .int (nI 2), .ref ao]) (lQ D ci ad ao (nI 0, (zb (tt_hgt g ((1440 * dd + (tt_L (tt_dh g dd) 1440).getD k 0) - 1) < tt_hgt g (1440 * dd + (tt_L (tt_dh g dd) 1440).getD k 0))).toInt64, g)) 22 672 (lF ad ao) := by
  refine va_MetW (cc := b_L_extreme) (maxL := 6) (ret := (some .int)) (hh := [(0, 12, 15, 19), (0, 12, 19, 13)]) (by decide) rfl ?_
  intro p e s m args below meth c s₁ B hml hv
  obtain ⟨rfl, ⟨⟨⟨hK, hg, hX, hD, hCI⟩, hKB, hKC, hsz⟩, hE⟩, hA, hne⟩ := hv
  have hx := B.exec
  have hb := B.bytes
  have hr := B.returns
  have hts := atoms_spec (ws := wH y_L_extreme b_L_extreme 6 (some .int) [(0, 12, 15, 19), (0, 12, 19, 13)]) B.pre
  have hT : ∀ w ∈ TT, w ∈ wH y_L_extreme b_L_extreme 6 (some .int) [(0, 12, 15, 19), (0, 12, 19, 13)] := wH_T
  have hown : s.vm.findClass RL = some m.cls := findClass_of_methodNamed B.named
  have hlocks := B.notSynchronized
  have hl := lv_entry ([.ref (ad 0), .int (nI dd), .int (nI k), .int (nI 2), .ref ao]) (n := 6) (Nat.le_of_ble_eq_true rfl)
  rw [lg_entry_eq]
  generalize (lg_sl ([.ref (ad 0), .int (nI dd), .int (nI k), .int (nI 2), .ref ao]) ++ List.replicate (6 - (lg_sl ([.ref (ad 0), .int (nI dd), .int (nI k), .int (nI 2), .ref ao])).length) Slot.unset).toArray = ls at hl ⊢
  have hl : lv_has ls 6 [(0, .ref (ad 0)), (1, .int (nI dd)), (2, .int (nI k)), (3, .int (nI 2)), (4, .ref ao)] := hl
  have htab := vx_table (x := y_L_extreme) B (hts _ List.mem_cons_self)
  have hL : ∀ q ∈ ([] : List Loc), lF ad ao q.base := fun q hq => nomatch hq
  refine lv_aload hx hb d_L_extreme_0 (lv_at hl 4 rfl) ?_
  refine lv_iconst hx hb d_L_extreme_2 (v := (nI 0)) rfl ?_
  refine lv_aload_n hx hb d_L_extreme_3 rfl (lv_at hl 0 rfl) ?_
  refine lv_iload_n hx hb d_L_extreme_4 rfl (lv_at hl 1 rfl) ?_
  refine lv_iload_n hx hb d_L_extreme_5 rfl (lv_at hl 2 rfl) ?_
  refine lv_iload_n hx hb d_L_extreme_6 rfl (lv_at hl 3 rfl) ?_
  refine tl_V (F2 := lF ad ao) (fun _ h => Or.inl h) ⟨hx, hb, hml, hown, hts⟩ hT (c_X_extreme2 l D ci ad g tc td tn hd hk) lk_L_52 wXC_mv ⟨hK, hg, hX, hD, hCI⟩ (wXW_rc hK hX) rfl hl.1 rfl (Nat.le_of_ble_eq_true rfl) d_L_extreme_7 ⟨rfl, rfl, Nat.le_of_ble_eq_true rfl, Nat.le_of_ble_eq_true rfl⟩ ⟨Nat.le_of_ble_eq_true rfl, Nat.le_of_ble_eq_true rfl⟩ hL (fun v9 H1 locs1 hF9 hL => ?_)
  obtain ⟨rfl, tc1, tn1, hX, hC, hO9⟩ := hF9
  have hG := txG.ofO hO9
  have hCI : tt_CI g tc1 (nI dd) tn1 := Or.inr ⟨dd, hd, rfl, hC⟩
  have hA := lP_keep hne hA hG
  refine lv_i2l hx hb d_L_extreme_10 (v := (zb (tt_hgt g ((1440 * dd + (tt_L (tt_dh g dd) 1440).getD k 0) - 1) < tt_hgt g (1440 * dd + (tt_L (tt_dh g dd) 1440).getD k 0))).toInt64) rfl ?_
  refine tq_last (F := lF ad ao) hx hb hK 1 hA rfl (j := 0) (by decide) (by decide) (Or.inr rfl) hL d_L_extreme_11 (fun H2 locs2 hP2 hz2 hq2 hL => ?_)
  refine lv_goto hx hb d_L_extreme_12 (tgt := 23) (by decide) ?_
  refine lv_iconst hx hb d_L_extreme_23 (v := (nI 0)) rfl ?_
  have hX := tx_keep hX (fun k hk => hq2 _ (hne k hk))
  refine W.widen (k := 22) (n := 672) (Nat.le_of_ble_eq_true rfl) (Nat.le_of_ble_eq_true rfl) ?_
  exact W.iret hx hb hr (fun t ht hW => ⟨_, rfl, rfl, tc1, nI dd, tn1, _, by rw [ht]; exact hX, hg, hCI, by rw [ht]; exact hP2, fun _ => updL_0, by rw [ht]; exact lO.ofG hG hz2 hq2⟩) hL d_L_extreme_24
set_option maxHeartbeats 4000000 in
set_option maxRecDepth 100000 in
theorem w_extreme_B (l : Launch) (htr : l.stackTraces = false) (D : va_G) (ci : Nat → ClassId) (ad : Nat → Nat) (g : TS) (tc td : Int32) (tn : Nat → Int32) (D2 : va_G) (cB : ClassId) (sz0 : Nat) (ao : Nat) (o : Nat → Int64) (u v : Int32) (hv : ¬ ((0 ≤ u.toInt ∧ u.toInt < (tt_db (tt_day g) 10 : Nat)) ∧ 0 ≤ v.toInt)) (x : Int32) : Met l y_L_extreme (wH y_L_extreme b_L_extreme 6 (some .int) [(0, 12, 15, 19), (0, 12, 19, 13)]) ({ frames := 10, cells := 22, slots := 672, locals := 260 }) (tb (wl D ci ad g tc td tn D2 cB sz0 ao o) [.ref (ad 0), .int u, .int v, .int x, .ref ao]) (lQ D ci ad ao (nI 1, 0, g)) 22 672 (lF ad ao) := by
  refine va_MetW (cc := b_L_extreme) (maxL := 6) (ret := (some .int)) (hh := [(0, 12, 15, 19), (0, 12, 19, 13)]) (by decide) rfl ?_
  intro p e s m args below meth c s₁ B hml hv
  obtain ⟨rfl, ⟨⟨⟨hK, hg, hX, hD, hCI⟩, hKB, hKC, hsz⟩, hE⟩, hA, hne⟩ := hv
  have hx := B.exec
  have hb := B.bytes
  have hr := B.returns
  have hts := atoms_spec (ws := wH y_L_extreme b_L_extreme 6 (some .int) [(0, 12, 15, 19), (0, 12, 19, 13)]) B.pre
  have hT : ∀ w ∈ TT, w ∈ wH y_L_extreme b_L_extreme 6 (some .int) [(0, 12, 15, 19), (0, 12, 19, 13)] := wH_T
  have hown : s.vm.findClass RL = some m.cls := findClass_of_methodNamed B.named
  have hlocks := B.notSynchronized
  have hl := lv_entry ([.ref (ad 0), .int u, .int v, .int x, .ref ao]) (n := 6) (Nat.le_of_ble_eq_true rfl)
  rw [lg_entry_eq]
  generalize (lg_sl ([.ref (ad 0), .int u, .int v, .int x, .ref ao]) ++ List.replicate (6 - (lg_sl ([.ref (ad 0), .int u, .int v, .int x, .ref ao])).length) Slot.unset).toArray = ls at hl ⊢
  have hl : lv_has ls 6 [(0, .ref (ad 0)), (1, .int u), (2, .int v), (3, .int x), (4, .ref ao)] := hl
  have htab := vx_table (x := y_L_extreme) B (hts _ List.mem_cons_self)
  have hL : ∀ q ∈ ([] : List Loc), lF ad ao q.base := fun q hq => nomatch hq
  refine lv_aload hx hb d_L_extreme_0 (lv_at hl 4 rfl) ?_
  refine lv_iconst hx hb d_L_extreme_2 (v := (nI 0)) rfl ?_
  refine lv_aload_n hx hb d_L_extreme_3 rfl (lv_at hl 0 rfl) ?_
  refine lv_iload_n hx hb d_L_extreme_4 rfl (lv_at hl 1 rfl) ?_
  refine lv_iload_n hx hb d_L_extreme_5 rfl (lv_at hl 2 rfl) ?_
  refine lv_iload_n hx hb d_L_extreme_6 rfl (lv_at hl 3 rfl) ?_
  refine tl_X (F2 := lF ad ao) (fun _ h => Or.inl h) ⟨hx, hb, hml, hown, hts⟩ hT (x_X_extremeI0 l htr D ci ad g tc td tn u v x hv) lk_L_52 wXCE_mv ⟨⟨hK, hg, hX, hD, hCI⟩, hE⟩ (wXW_rc hK hX) rfl hl.1 rfl (Nat.le_of_ble_eq_true rfl) d_L_extreme_7 ⟨rfl, rfl, Nat.le_of_ble_eq_true rfl, Nat.le_of_ble_eq_true rfl⟩ ⟨Nat.le_of_ble_eq_true rfl, Nat.le_of_ble_eq_true rfl⟩ hL (fun E9 ce q9 st t locs1 hst hX9 hL h4 h5 h6 => ?_)
  obtain ⟨u9, hu9, hB9, hF9⟩ := hX9
  obtain ⟨rfl, hX1⟩ := hB9
  have hG : txG ad s.heap t.heap := by have h := txG.ofF hF9; rw [hst] at h; exact h
  refine vx_catch (own := RL) (name := eI) hown [] ⟨0, 12, 15, 19⟩ [⟨0, 12, 19, 13⟩] (htab.trans rfl) (fun z hz => nomatch hz) (by decide) (by decide) (hts _ (hT _ k_L_19)) (eB_use hE.2.2.1 _ (List.mem_of_getElem? (i := 4) rfl)) h4 h5 h6 ?_
  show W p l e _ s m _ below meth c _ _ _ _ _ (F0 m 15 ls [.ref q9])
  refine lv_astore hx hb d_L_extreme_15 hl (by decide) (lv' := [(5, .ref q9), (0, .ref (ad 0)), (1, .int u), (2, .int v), (3, .int x), (4, .ref ao)]) rfl (fun ls hl => ?_)
  refine lv_iconst hx hb d_L_extreme_17 (v := (nI 1)) rfl ?_
  refine W.widen (k := 22) (n := 672) (Nat.le_of_ble_eq_true rfl) (Nat.le_of_ble_eq_true rfl) ?_
  exact W.iret hx hb hr (fun t9 ht hW => ⟨_, rfl, rfl, u9.1, u9.2.1, u9.2.2, o, by rw [ht]; exact hX1, hg, hu9, by rw [ht]; exact lP_keep hne hA hG, fun z => absurd (show (nI 1 : Int32) = nI 0 from z) (by decide), by rw [ht]; exact lO.ofG0 hG⟩) hL d_L_extreme_18
set_option maxHeartbeats 4000000 in
set_option maxRecDepth 100000 in
theorem w_extreme_D (l : Launch) (htr : l.stackTraces = false) (D : va_G) (ci : Nat → ClassId) (ad : Nat → Nat) (g : TS) (tc td : Int32) (tn : Nat → Int32) (D2 : va_G) (cB : ClassId) (sz0 : Nat) (ao : Nat) (o : Nat → Int64) {dd : Nat} (hd : dd < tt_db (tt_day g) 10) (v : Int32) (hv : 0 ≤ v.toInt) (hv2 : ¬ v.toInt < ((tt_L (tt_dh g dd) 1440).length : Nat)) (x : Int32) : Met l y_L_extreme (wH y_L_extreme b_L_extreme 6 (some .int) [(0, 12, 15, 19), (0, 12, 19, 13)]) ({ frames := 10, cells := 22, slots := 672, locals := 260 }) (tb (wl D ci ad g tc td tn D2 cB sz0 ao o) [.ref (ad 0), .int (nI dd), .int v, .int x, .ref ao]) (lQ D ci ad ao (nI 1, 0, g)) 22 672 (lF ad ao) := by
  refine va_MetW (cc := b_L_extreme) (maxL := 6) (ret := (some .int)) (hh := [(0, 12, 15, 19), (0, 12, 19, 13)]) (by decide) rfl ?_
  intro p e s m args below meth c s₁ B hml hv
  obtain ⟨rfl, ⟨⟨⟨hK, hg, hX, hD, hCI⟩, hKB, hKC, hsz⟩, hE⟩, hA, hne⟩ := hv
  have hx := B.exec
  have hb := B.bytes
  have hr := B.returns
  have hts := atoms_spec (ws := wH y_L_extreme b_L_extreme 6 (some .int) [(0, 12, 15, 19), (0, 12, 19, 13)]) B.pre
  have hT : ∀ w ∈ TT, w ∈ wH y_L_extreme b_L_extreme 6 (some .int) [(0, 12, 15, 19), (0, 12, 19, 13)] := wH_T
  have hown : s.vm.findClass RL = some m.cls := findClass_of_methodNamed B.named
  have hlocks := B.notSynchronized
  have hl := lv_entry ([.ref (ad 0), .int (nI dd), .int v, .int x, .ref ao]) (n := 6) (Nat.le_of_ble_eq_true rfl)
  rw [lg_entry_eq]
  generalize (lg_sl ([.ref (ad 0), .int (nI dd), .int v, .int x, .ref ao]) ++ List.replicate (6 - (lg_sl ([.ref (ad 0), .int (nI dd), .int v, .int x, .ref ao])).length) Slot.unset).toArray = ls at hl ⊢
  have hl : lv_has ls 6 [(0, .ref (ad 0)), (1, .int (nI dd)), (2, .int v), (3, .int x), (4, .ref ao)] := hl
  have htab := vx_table (x := y_L_extreme) B (hts _ List.mem_cons_self)
  have hL : ∀ q ∈ ([] : List Loc), lF ad ao q.base := fun q hq => nomatch hq
  refine lv_aload hx hb d_L_extreme_0 (lv_at hl 4 rfl) ?_
  refine lv_iconst hx hb d_L_extreme_2 (v := (nI 0)) rfl ?_
  refine lv_aload_n hx hb d_L_extreme_3 rfl (lv_at hl 0 rfl) ?_
  refine lv_iload_n hx hb d_L_extreme_4 rfl (lv_at hl 1 rfl) ?_
  refine lv_iload_n hx hb d_L_extreme_5 rfl (lv_at hl 2 rfl) ?_
  refine lv_iload_n hx hb d_L_extreme_6 rfl (lv_at hl 3 rfl) ?_
  refine tl_X (F2 := lF ad ao) (fun _ h => Or.inl h) ⟨hx, hb, hml, hown, hts⟩ hT (x_X_extremeI1 l htr D ci ad g tc td tn hd v x hv hv2) lk_L_52 wXCE_mv ⟨⟨hK, hg, hX, hD, hCI⟩, hE⟩ (wXW_rc hK hX) rfl hl.1 rfl (Nat.le_of_ble_eq_true rfl) d_L_extreme_7 ⟨rfl, rfl, Nat.le_of_ble_eq_true rfl, Nat.le_of_ble_eq_true rfl⟩ ⟨Nat.le_of_ble_eq_true rfl, Nat.le_of_ble_eq_true rfl⟩ hL (fun E9 ce q9 st t locs1 hst hX9 hL h4 h5 h6 => ?_)
  obtain ⟨u9, hu9, hB9, hF9⟩ := hX9
  obtain ⟨rfl, hX1⟩ := hB9
  have hG : txG ad s.heap t.heap := by have h := txG.ofF hF9; rw [hst] at h; exact h
  refine vx_catch (own := RL) (name := eI) hown [] ⟨0, 12, 15, 19⟩ [⟨0, 12, 19, 13⟩] (htab.trans rfl) (fun z hz => nomatch hz) (by decide) (by decide) (hts _ (hT _ k_L_19)) (eB_use hE.2.2.1 _ (List.mem_of_getElem? (i := 4) rfl)) h4 h5 h6 ?_
  show W p l e _ s m _ below meth c _ _ _ _ _ (F0 m 15 ls [.ref q9])
  refine lv_astore hx hb d_L_extreme_15 hl (by decide) (lv' := [(5, .ref q9), (0, .ref (ad 0)), (1, .int (nI dd)), (2, .int v), (3, .int x), (4, .ref ao)]) rfl (fun ls hl => ?_)
  refine lv_iconst hx hb d_L_extreme_17 (v := (nI 1)) rfl ?_
  refine W.widen (k := 22) (n := 672) (Nat.le_of_ble_eq_true rfl) (Nat.le_of_ble_eq_true rfl) ?_
  exact W.iret hx hb hr (fun t9 ht hW => ⟨_, rfl, rfl, u9.1, u9.2.1, u9.2.2, o, by rw [ht]; exact hX1, hg, hu9, by rw [ht]; exact lP_keep hne hA hG, fun z => absurd (show (nI 1 : Int32) = nI 0 from z) (by decide), by rw [ht]; exact lO.ofG0 hG⟩) hL d_L_extreme_18
set_option maxHeartbeats 4000000 in
set_option maxRecDepth 100000 in
theorem w_extreme_C (l : Launch) (htr : l.stackTraces = false) (D : va_G) (ci : Nat → ClassId) (ad : Nat → Nat) (g : TS) (tc td : Int32) (tn : Nat → Int32) (D2 : va_G) (cB : ClassId) (sz0 : Nat) (ao : Nat) (o : Nat → Int64) {dd k : Nat} (hd : dd < tt_db (tt_day g) 10) (hk : k < (tt_L (tt_dh g dd) 1440).length) (x : Int32) (hv2 : x.toInt < 0 ∨ 2 < x.toInt) : Met l y_L_extreme (wH y_L_extreme b_L_extreme 6 (some .int) [(0, 12, 15, 19), (0, 12, 19, 13)]) ({ frames := 10, cells := 22, slots := 672, locals := 260 }) (tb (wl D ci ad g tc td tn D2 cB sz0 ao o) [.ref (ad 0), .int (nI dd), .int (nI k), .int x, .ref ao]) (lQ D ci ad ao (nI 2, 0, g)) 22 672 (lF ad ao) := by
  refine va_MetW (cc := b_L_extreme) (maxL := 6) (ret := (some .int)) (hh := [(0, 12, 15, 19), (0, 12, 19, 13)]) (by decide) rfl ?_
  intro p e s m args below meth c s₁ B hml hv
  obtain ⟨rfl, ⟨⟨⟨hK, hg, hX, hD, hCI⟩, hKB, hKC, hsz⟩, hE⟩, hA, hne⟩ := hv
  have hx := B.exec
  have hb := B.bytes
  have hr := B.returns
  have hts := atoms_spec (ws := wH y_L_extreme b_L_extreme 6 (some .int) [(0, 12, 15, 19), (0, 12, 19, 13)]) B.pre
  have hT : ∀ w ∈ TT, w ∈ wH y_L_extreme b_L_extreme 6 (some .int) [(0, 12, 15, 19), (0, 12, 19, 13)] := wH_T
  have hown : s.vm.findClass RL = some m.cls := findClass_of_methodNamed B.named
  have hlocks := B.notSynchronized
  have hl := lv_entry ([.ref (ad 0), .int (nI dd), .int (nI k), .int x, .ref ao]) (n := 6) (Nat.le_of_ble_eq_true rfl)
  rw [lg_entry_eq]
  generalize (lg_sl ([.ref (ad 0), .int (nI dd), .int (nI k), .int x, .ref ao]) ++ List.replicate (6 - (lg_sl ([.ref (ad 0), .int (nI dd), .int (nI k), .int x, .ref ao])).length) Slot.unset).toArray = ls at hl ⊢
  have hl : lv_has ls 6 [(0, .ref (ad 0)), (1, .int (nI dd)), (2, .int (nI k)), (3, .int x), (4, .ref ao)] := hl
  have htab := vx_table (x := y_L_extreme) B (hts _ List.mem_cons_self)
  have hL : ∀ q ∈ ([] : List Loc), lF ad ao q.base := fun q hq => nomatch hq
  refine lv_aload hx hb d_L_extreme_0 (lv_at hl 4 rfl) ?_
  refine lv_iconst hx hb d_L_extreme_2 (v := (nI 0)) rfl ?_
  refine lv_aload_n hx hb d_L_extreme_3 rfl (lv_at hl 0 rfl) ?_
  refine lv_iload_n hx hb d_L_extreme_4 rfl (lv_at hl 1 rfl) ?_
  refine lv_iload_n hx hb d_L_extreme_5 rfl (lv_at hl 2 rfl) ?_
  refine lv_iload_n hx hb d_L_extreme_6 rfl (lv_at hl 3 rfl) ?_
  refine tl_X (F2 := lF ad ao) (fun _ h => Or.inl h) ⟨hx, hb, hml, hown, hts⟩ hT (x_X_extremeA l htr D ci ad g tc td tn hd hk x hv2) lk_L_52 wXCE_mv ⟨⟨hK, hg, hX, hD, hCI⟩, hE⟩ (wXW_rc hK hX) rfl hl.1 rfl (Nat.le_of_ble_eq_true rfl) d_L_extreme_7 ⟨rfl, rfl, Nat.le_of_ble_eq_true rfl, Nat.le_of_ble_eq_true rfl⟩ ⟨Nat.le_of_ble_eq_true rfl, Nat.le_of_ble_eq_true rfl⟩ hL (fun E9 ce q9 st t locs1 hst hX9 hL h4 h5 h6 => ?_)
  obtain ⟨u9, hu9, hB9, hF9⟩ := hX9
  obtain ⟨rfl, hX1⟩ := hB9
  have hG : txG ad s.heap t.heap := by have h := txG.ofF hF9; rw [hst] at h; exact h
  refine vx_catch (own := RL) (name := eA) hown [⟨0, 12, 15, 19⟩] ⟨0, 12, 19, 13⟩ [] (htab.trans rfl) (fun z hz => by rw [List.mem_singleton.mp hz]; exact Or.inr ⟨by decide, _, hts _ (hT _ k_L_19), hE.2.2.2.2.1⟩) (by decide) (by decide) (hts _ (hT _ k_L_13)) (eB_use hE.2.2.1 _ (List.mem_of_getElem? (i := 3) rfl)) h4 h5 h6 ?_
  show W p l e _ s m _ below meth c _ _ _ _ _ (F0 m 19 ls [.ref q9])
  refine lv_astore hx hb d_L_extreme_19 hl (by decide) (lv' := [(5, .ref q9), (0, .ref (ad 0)), (1, .int (nI dd)), (2, .int (nI k)), (3, .int x), (4, .ref ao)]) rfl (fun ls hl => ?_)
  refine lv_iconst hx hb d_L_extreme_21 (v := (nI 2)) rfl ?_
  refine W.widen (k := 22) (n := 672) (Nat.le_of_ble_eq_true rfl) (Nat.le_of_ble_eq_true rfl) ?_
  exact W.iret hx hb hr (fun t9 ht hW => ⟨_, rfl, rfl, u9.1, u9.2.1, u9.2.2, o, by rw [ht]; exact hX1, hg, hu9, by rw [ht]; exact lP_keep hne hA hG, fun z => absurd (show (nI 2 : Int32) = nI 0 from z) (by decide), by rw [ht]; exact lO.ofG0 hG⟩) hL d_L_extreme_22
set_option maxHeartbeats 4000000 in
set_option maxRecDepth 100000 in
theorem w_line_A (l : Launch) (htr : l.stackTraces = false) (D : va_G) (ci : Nat → ClassId) (ad : Nat → Nat) (g : TS) (tc td : Int32) (tn : Nat → Int32) (D2 : va_G) (cB : ClassId) (sz0 : Nat) (ao : Nat) (o : Nat → Int64) {dd k : Nat} (hd : dd < tt_db (tt_day g) 10) (hk : k < (tt_L (tt_dh g dd) 1440).length) : Met l y_L_line (wH y_L_line b_L_line 5 (some .int) [(0, 10, 13, 19)]) ({ frames := 10, cells := 22, slots := 672, locals := 260 }) (tb (wl D ci ad g tc td tn D2 cB sz0 ao o) [.ref (ad 0), .int (nI dd), .int (nI k), .ref ao]) (lQ D ci ad ao (nI 0, (nI (tt_line g dd k).length).toInt64, g)) 22 672 (lF ad ao) := by
  refine va_MetW (cc := b_L_line) (maxL := 5) (ret := (some .int)) (hh := [(0, 10, 13, 19)]) (by decide) rfl ?_
  intro p e s m args below meth c s₁ B hml hv
  obtain ⟨rfl, ⟨⟨⟨hK, hg, hX, hD, hCI⟩, hKB, hKC, hsz⟩, hE⟩, hA, hne⟩ := hv
  have hx := B.exec
  have hb := B.bytes
  have hr := B.returns
  have hts := atoms_spec (ws := wH y_L_line b_L_line 5 (some .int) [(0, 10, 13, 19)]) B.pre
  have hT : ∀ w ∈ TT, w ∈ wH y_L_line b_L_line 5 (some .int) [(0, 10, 13, 19)] := wH_T
  have hown : s.vm.findClass RL = some m.cls := findClass_of_methodNamed B.named
  have hlocks := B.notSynchronized
  have hl := lv_entry ([.ref (ad 0), .int (nI dd), .int (nI k), .ref ao]) (n := 5) (Nat.le_of_ble_eq_true rfl)
  rw [lg_entry_eq]
  generalize (lg_sl ([.ref (ad 0), .int (nI dd), .int (nI k), .ref ao]) ++ List.replicate (5 - (lg_sl ([.ref (ad 0), .int (nI dd), .int (nI k), .ref ao])).length) Slot.unset).toArray = ls at hl ⊢
  have hl : lv_has ls 5 [(0, .ref (ad 0)), (1, .int (nI dd)), (2, .int (nI k)), (3, .ref ao)] := hl
  have htab := vx_table (x := y_L_line) B (hts _ List.mem_cons_self)
  have hL : ∀ q ∈ ([] : List Loc), lF ad ao q.base := fun q hq => nomatch hq
  refine lv_aload_n hx hb d_L_line_0 rfl (lv_at hl 3 rfl) ?_
  refine lv_iconst hx hb d_L_line_1 (v := (nI 0)) rfl ?_
  refine lv_aload_n hx hb d_L_line_2 rfl (lv_at hl 0 rfl) ?_
  refine lv_iload_n hx hb d_L_line_3 rfl (lv_at hl 1 rfl) ?_
  refine lv_iload_n hx hb d_L_line_4 rfl (lv_at hl 2 rfl) ?_
  refine tl_V (F2 := lF ad ao) (fun _ h => Or.inl h) ⟨hx, hb, hml, hown, hts⟩ hT (c_X_line l D ci ad g tc td tn D2 cB sz0 hd hk) lk_L_56 wXL_mv ⟨⟨hK, hg, hX, hD, hCI⟩, hKB, hKC, hsz⟩ (wXW_rc hK hX) rfl hl.1 rfl (Nat.le_of_ble_eq_true rfl) d_L_line_5 ⟨rfl, rfl, Nat.le_of_ble_eq_true rfl, Nat.le_of_ble_eq_true rfl⟩ ⟨Nat.le_of_ble_eq_true rfl, Nat.le_of_ble_eq_true rfl⟩ hL (fun v9 H1 locs1 hF9 hL => ?_)
  obtain ⟨rfl, tc1, tn1, hX, hC, hG⟩ := hF9
  have hCI : tt_CI g tc1 (nI dd) tn1 := Or.inr ⟨dd, hd, rfl, hC⟩
  have hA := lP_keep hne hA hG
  refine lv_i2l hx hb d_L_line_8 (v := (nI (tt_line g dd k).length).toInt64) rfl ?_
  refine tq_last (F := lF ad ao) hx hb hK 1 hA rfl (j := 0) (by decide) (by decide) (Or.inr rfl) hL d_L_line_9 (fun H2 locs2 hP2 hz2 hq2 hL => ?_)
  refine lv_goto hx hb d_L_line_10 (tgt := 17) (by decide) ?_
  refine lv_iconst hx hb d_L_line_17 (v := (nI 0)) rfl ?_
  have hX := tx_keep hX (fun k hk => hq2 _ (hne k hk))
  refine W.widen (k := 22) (n := 672) (Nat.le_of_ble_eq_true rfl) (Nat.le_of_ble_eq_true rfl) ?_
  exact W.iret hx hb hr (fun t ht hW => ⟨_, rfl, rfl, tc1, nI dd, tn1, _, by rw [ht]; exact hX, hg, hCI, by rw [ht]; exact hP2, fun _ => updL_0, by rw [ht]; exact lO.ofG hG hz2 hq2⟩) hL d_L_line_18
set_option maxHeartbeats 4000000 in
set_option maxRecDepth 100000 in
theorem w_line_B (l : Launch) (htr : l.stackTraces = false) (D : va_G) (ci : Nat → ClassId) (ad : Nat → Nat) (g : TS) (tc td : Int32) (tn : Nat → Int32) (D2 : va_G) (cB : ClassId) (sz0 : Nat) (ao : Nat) (o : Nat → Int64) (u v : Int32) (hv : ¬ ((0 ≤ u.toInt ∧ u.toInt < (tt_db (tt_day g) 10 : Nat)) ∧ 0 ≤ v.toInt)) : Met l y_L_line (wH y_L_line b_L_line 5 (some .int) [(0, 10, 13, 19)]) ({ frames := 10, cells := 22, slots := 672, locals := 260 }) (tb (wl D ci ad g tc td tn D2 cB sz0 ao o) [.ref (ad 0), .int u, .int v, .ref ao]) (lQ D ci ad ao (nI 1, 0, g)) 22 672 (lF ad ao) := by
  refine va_MetW (cc := b_L_line) (maxL := 5) (ret := (some .int)) (hh := [(0, 10, 13, 19)]) (by decide) rfl ?_
  intro p e s m args below meth c s₁ B hml hv
  obtain ⟨rfl, ⟨⟨⟨hK, hg, hX, hD, hCI⟩, hKB, hKC, hsz⟩, hE⟩, hA, hne⟩ := hv
  have hx := B.exec
  have hb := B.bytes
  have hr := B.returns
  have hts := atoms_spec (ws := wH y_L_line b_L_line 5 (some .int) [(0, 10, 13, 19)]) B.pre
  have hT : ∀ w ∈ TT, w ∈ wH y_L_line b_L_line 5 (some .int) [(0, 10, 13, 19)] := wH_T
  have hown : s.vm.findClass RL = some m.cls := findClass_of_methodNamed B.named
  have hlocks := B.notSynchronized
  have hl := lv_entry ([.ref (ad 0), .int u, .int v, .ref ao]) (n := 5) (Nat.le_of_ble_eq_true rfl)
  rw [lg_entry_eq]
  generalize (lg_sl ([.ref (ad 0), .int u, .int v, .ref ao]) ++ List.replicate (5 - (lg_sl ([.ref (ad 0), .int u, .int v, .ref ao])).length) Slot.unset).toArray = ls at hl ⊢
  have hl : lv_has ls 5 [(0, .ref (ad 0)), (1, .int u), (2, .int v), (3, .ref ao)] := hl
  have htab := vx_table (x := y_L_line) B (hts _ List.mem_cons_self)
  have hL : ∀ q ∈ ([] : List Loc), lF ad ao q.base := fun q hq => nomatch hq
  refine lv_aload_n hx hb d_L_line_0 rfl (lv_at hl 3 rfl) ?_
  refine lv_iconst hx hb d_L_line_1 (v := (nI 0)) rfl ?_
  refine lv_aload_n hx hb d_L_line_2 rfl (lv_at hl 0 rfl) ?_
  refine lv_iload_n hx hb d_L_line_3 rfl (lv_at hl 1 rfl) ?_
  refine lv_iload_n hx hb d_L_line_4 rfl (lv_at hl 2 rfl) ?_
  refine tl_X (F2 := lF ad ao) (fun _ h => Or.inl h) ⟨hx, hb, hml, hown, hts⟩ hT (x_X_lineI0 l htr D ci ad g tc td tn u v hv) lk_L_56 wXCE_mv ⟨⟨hK, hg, hX, hD, hCI⟩, hE⟩ (wXW_rc hK hX) rfl hl.1 rfl (Nat.le_of_ble_eq_true rfl) d_L_line_5 ⟨rfl, rfl, Nat.le_of_ble_eq_true rfl, Nat.le_of_ble_eq_true rfl⟩ ⟨Nat.le_of_ble_eq_true rfl, Nat.le_of_ble_eq_true rfl⟩ hL (fun E9 ce q9 st t locs1 hst hX9 hL h4 h5 h6 => ?_)
  obtain ⟨u9, hu9, hB9, hF9⟩ := hX9
  obtain ⟨rfl, hX1⟩ := hB9
  have hG : txG ad s.heap t.heap := by have h := txG.ofF hF9; rw [hst] at h; exact h
  refine vx_catch (own := RL) (name := eI) hown [] ⟨0, 10, 13, 19⟩ [] (htab.trans rfl) (fun z hz => nomatch hz) (by decide) (by decide) (hts _ (hT _ k_L_19)) (eB_use hE.2.2.1 _ (List.mem_of_getElem? (i := 4) rfl)) h4 h5 h6 ?_
  show W p l e _ s m _ below meth c _ _ _ _ _ (F0 m 13 ls [.ref q9])
  refine lv_astore hx hb d_L_line_13 hl (by decide) (lv' := [(4, .ref q9), (0, .ref (ad 0)), (1, .int u), (2, .int v), (3, .ref ao)]) rfl (fun ls hl => ?_)
  refine lv_iconst hx hb d_L_line_15 (v := (nI 1)) rfl ?_
  refine W.widen (k := 22) (n := 672) (Nat.le_of_ble_eq_true rfl) (Nat.le_of_ble_eq_true rfl) ?_
  exact W.iret hx hb hr (fun t9 ht hW => ⟨_, rfl, rfl, u9.1, u9.2.1, u9.2.2, o, by rw [ht]; exact hX1, hg, hu9, by rw [ht]; exact lP_keep hne hA hG, fun z => absurd (show (nI 1 : Int32) = nI 0 from z) (by decide), by rw [ht]; exact lO.ofG0 hG⟩) hL d_L_line_16
set_option maxHeartbeats 4000000 in
set_option maxRecDepth 100000 in
theorem w_line_D (l : Launch) (htr : l.stackTraces = false) (D : va_G) (ci : Nat → ClassId) (ad : Nat → Nat) (g : TS) (tc td : Int32) (tn : Nat → Int32) (D2 : va_G) (cB : ClassId) (sz0 : Nat) (ao : Nat) (o : Nat → Int64) {dd : Nat} (hd : dd < tt_db (tt_day g) 10) (v : Int32) (hv : 0 ≤ v.toInt) (hv2 : ¬ v.toInt < ((tt_L (tt_dh g dd) 1440).length : Nat)) : Met l y_L_line (wH y_L_line b_L_line 5 (some .int) [(0, 10, 13, 19)]) ({ frames := 10, cells := 22, slots := 672, locals := 260 }) (tb (wl D ci ad g tc td tn D2 cB sz0 ao o) [.ref (ad 0), .int (nI dd), .int v, .ref ao]) (lQ D ci ad ao (nI 1, 0, g)) 22 672 (lF ad ao) := by
  refine va_MetW (cc := b_L_line) (maxL := 5) (ret := (some .int)) (hh := [(0, 10, 13, 19)]) (by decide) rfl ?_
  intro p e s m args below meth c s₁ B hml hv
  obtain ⟨rfl, ⟨⟨⟨hK, hg, hX, hD, hCI⟩, hKB, hKC, hsz⟩, hE⟩, hA, hne⟩ := hv
  have hx := B.exec
  have hb := B.bytes
  have hr := B.returns
  have hts := atoms_spec (ws := wH y_L_line b_L_line 5 (some .int) [(0, 10, 13, 19)]) B.pre
  have hT : ∀ w ∈ TT, w ∈ wH y_L_line b_L_line 5 (some .int) [(0, 10, 13, 19)] := wH_T
  have hown : s.vm.findClass RL = some m.cls := findClass_of_methodNamed B.named
  have hlocks := B.notSynchronized
  have hl := lv_entry ([.ref (ad 0), .int (nI dd), .int v, .ref ao]) (n := 5) (Nat.le_of_ble_eq_true rfl)
  rw [lg_entry_eq]
  generalize (lg_sl ([.ref (ad 0), .int (nI dd), .int v, .ref ao]) ++ List.replicate (5 - (lg_sl ([.ref (ad 0), .int (nI dd), .int v, .ref ao])).length) Slot.unset).toArray = ls at hl ⊢
  have hl : lv_has ls 5 [(0, .ref (ad 0)), (1, .int (nI dd)), (2, .int v), (3, .ref ao)] := hl
  have htab := vx_table (x := y_L_line) B (hts _ List.mem_cons_self)
  have hL : ∀ q ∈ ([] : List Loc), lF ad ao q.base := fun q hq => nomatch hq
  refine lv_aload_n hx hb d_L_line_0 rfl (lv_at hl 3 rfl) ?_
  refine lv_iconst hx hb d_L_line_1 (v := (nI 0)) rfl ?_
  refine lv_aload_n hx hb d_L_line_2 rfl (lv_at hl 0 rfl) ?_
  refine lv_iload_n hx hb d_L_line_3 rfl (lv_at hl 1 rfl) ?_
  refine lv_iload_n hx hb d_L_line_4 rfl (lv_at hl 2 rfl) ?_
  refine tl_X (F2 := lF ad ao) (fun _ h => Or.inl h) ⟨hx, hb, hml, hown, hts⟩ hT (x_X_lineI1 l htr D ci ad g tc td tn hd v hv hv2) lk_L_56 wXCE_mv ⟨⟨hK, hg, hX, hD, hCI⟩, hE⟩ (wXW_rc hK hX) rfl hl.1 rfl (Nat.le_of_ble_eq_true rfl) d_L_line_5 ⟨rfl, rfl, Nat.le_of_ble_eq_true rfl, Nat.le_of_ble_eq_true rfl⟩ ⟨Nat.le_of_ble_eq_true rfl, Nat.le_of_ble_eq_true rfl⟩ hL (fun E9 ce q9 st t locs1 hst hX9 hL h4 h5 h6 => ?_)
  obtain ⟨u9, hu9, hB9, hF9⟩ := hX9
  obtain ⟨rfl, hX1⟩ := hB9
  have hG : txG ad s.heap t.heap := by have h := txG.ofF hF9; rw [hst] at h; exact h
  refine vx_catch (own := RL) (name := eI) hown [] ⟨0, 10, 13, 19⟩ [] (htab.trans rfl) (fun z hz => nomatch hz) (by decide) (by decide) (hts _ (hT _ k_L_19)) (eB_use hE.2.2.1 _ (List.mem_of_getElem? (i := 4) rfl)) h4 h5 h6 ?_
  show W p l e _ s m _ below meth c _ _ _ _ _ (F0 m 13 ls [.ref q9])
  refine lv_astore hx hb d_L_line_13 hl (by decide) (lv' := [(4, .ref q9), (0, .ref (ad 0)), (1, .int (nI dd)), (2, .int v), (3, .ref ao)]) rfl (fun ls hl => ?_)
  refine lv_iconst hx hb d_L_line_15 (v := (nI 1)) rfl ?_
  refine W.widen (k := 22) (n := 672) (Nat.le_of_ble_eq_true rfl) (Nat.le_of_ble_eq_true rfl) ?_
  exact W.iret hx hb hr (fun t9 ht hW => ⟨_, rfl, rfl, u9.1, u9.2.1, u9.2.2, o, by rw [ht]; exact hX1, hg, hu9, by rw [ht]; exact lP_keep hne hA hG, fun z => absurd (show (nI 1 : Int32) = nI 0 from z) (by decide), by rw [ht]; exact lO.ofG0 hG⟩) hL d_L_line_16
set_option maxHeartbeats 4000000 in
set_option maxRecDepth 100000 in
theorem w_sign_A (l : Launch) (htr : l.stackTraces = false) (D : va_G) (ci : Nat → ClassId) (ad : Nat → Nat) (g : TS) (tc td : Int32) (tn : Nat → Int32) (D2 : va_G) (cB : ClassId) (sz0 : Nat) (ao : Nat) (o : Nat → Int64) {dd k : Nat} (hd : dd < tt_db (tt_day g) 10) (hk : k < (tt_L (tt_dh g dd) 1440).length) {j : Nat} (hj : j < (tt_line g dd k).length) : Met l y_L_sign (wH y_L_sign b_L_sign 6 (some .int) [(0, 12, 15, 19)]) ({ frames := 10, cells := 22, slots := 672, locals := 260 }) (tb (wl D ci ad g tc td tn D2 cB sz0 ao o) [.ref (ad 0), .int (nI dd), .int (nI k), .int (nI j), .ref ao]) (lQ D ci ad ao (nI 0, (nI ((tt_line g dd k).getD j 0)).toInt64, g)) 22 672 (lF ad ao) := by
  refine va_MetW (cc := b_L_sign) (maxL := 6) (ret := (some .int)) (hh := [(0, 12, 15, 19)]) (by decide) rfl ?_
  intro p e s m args below meth c s₁ B hml hv
  obtain ⟨rfl, ⟨⟨⟨hK, hg, hX, hD, hCI⟩, hKB, hKC, hsz⟩, hE⟩, hA, hne⟩ := hv
  have hx := B.exec
  have hb := B.bytes
  have hr := B.returns
  have hts := atoms_spec (ws := wH y_L_sign b_L_sign 6 (some .int) [(0, 12, 15, 19)]) B.pre
  have hT : ∀ w ∈ TT, w ∈ wH y_L_sign b_L_sign 6 (some .int) [(0, 12, 15, 19)] := wH_T
  have hown : s.vm.findClass RL = some m.cls := findClass_of_methodNamed B.named
  have hlocks := B.notSynchronized
  have hl := lv_entry ([.ref (ad 0), .int (nI dd), .int (nI k), .int (nI j), .ref ao]) (n := 6) (Nat.le_of_ble_eq_true rfl)
  rw [lg_entry_eq]
  generalize (lg_sl ([.ref (ad 0), .int (nI dd), .int (nI k), .int (nI j), .ref ao]) ++ List.replicate (6 - (lg_sl ([.ref (ad 0), .int (nI dd), .int (nI k), .int (nI j), .ref ao])).length) Slot.unset).toArray = ls at hl ⊢
  have hl : lv_has ls 6 [(0, .ref (ad 0)), (1, .int (nI dd)), (2, .int (nI k)), (3, .int (nI j)), (4, .ref ao)] := hl
  have htab := vx_table (x := y_L_sign) B (hts _ List.mem_cons_self)
  have hL : ∀ q ∈ ([] : List Loc), lF ad ao q.base := fun q hq => nomatch hq
  refine lv_aload hx hb d_L_sign_0 (lv_at hl 4 rfl) ?_
  refine lv_iconst hx hb d_L_sign_2 (v := (nI 0)) rfl ?_
  refine lv_aload_n hx hb d_L_sign_3 rfl (lv_at hl 0 rfl) ?_
  refine lv_iload_n hx hb d_L_sign_4 rfl (lv_at hl 1 rfl) ?_
  refine lv_iload_n hx hb d_L_sign_5 rfl (lv_at hl 2 rfl) ?_
  refine lv_iload_n hx hb d_L_sign_6 rfl (lv_at hl 3 rfl) ?_
  refine tl_V (F2 := lF ad ao) (fun _ h => Or.inl h) ⟨hx, hb, hml, hown, hts⟩ hT (c_X_sign l D ci ad g tc td tn D2 cB sz0 hd hk hj) lk_L_59 wXL_mv ⟨⟨hK, hg, hX, hD, hCI⟩, hKB, hKC, hsz⟩ (wXW_rc hK hX) rfl hl.1 rfl (Nat.le_of_ble_eq_true rfl) d_L_sign_7 ⟨rfl, rfl, Nat.le_of_ble_eq_true rfl, Nat.le_of_ble_eq_true rfl⟩ ⟨Nat.le_of_ble_eq_true rfl, Nat.le_of_ble_eq_true rfl⟩ hL (fun v9 H1 locs1 hF9 hL => ?_)
  obtain ⟨rfl, tc1, tn1, hX, hC, hG⟩ := hF9
  have hCI : tt_CI g tc1 (nI dd) tn1 := Or.inr ⟨dd, hd, rfl, hC⟩
  have hA := lP_keep hne hA hG
  refine lv_i2l hx hb d_L_sign_10 (v := (nI ((tt_line g dd k).getD j 0)).toInt64) rfl ?_
  refine tq_last (F := lF ad ao) hx hb hK 1 hA rfl (j := 0) (by decide) (by decide) (Or.inr rfl) hL d_L_sign_11 (fun H2 locs2 hP2 hz2 hq2 hL => ?_)
  refine lv_goto hx hb d_L_sign_12 (tgt := 19) (by decide) ?_
  refine lv_iconst hx hb d_L_sign_19 (v := (nI 0)) rfl ?_
  have hX := tx_keep hX (fun k hk => hq2 _ (hne k hk))
  refine W.widen (k := 22) (n := 672) (Nat.le_of_ble_eq_true rfl) (Nat.le_of_ble_eq_true rfl) ?_
  exact W.iret hx hb hr (fun t ht hW => ⟨_, rfl, rfl, tc1, nI dd, tn1, _, by rw [ht]; exact hX, hg, hCI, by rw [ht]; exact hP2, fun _ => updL_0, by rw [ht]; exact lO.ofG hG hz2 hq2⟩) hL d_L_sign_20
set_option maxHeartbeats 4000000 in
set_option maxRecDepth 100000 in
theorem w_sign_B (l : Launch) (htr : l.stackTraces = false) (D : va_G) (ci : Nat → ClassId) (ad : Nat → Nat) (g : TS) (tc td : Int32) (tn : Nat → Int32) (D2 : va_G) (cB : ClassId) (sz0 : Nat) (ao : Nat) (o : Nat → Int64) (u v : Int32) (hv : ¬ ((0 ≤ u.toInt ∧ u.toInt < (tt_db (tt_day g) 10 : Nat)) ∧ 0 ≤ v.toInt)) (x : Int32) : Met l y_L_sign (wH y_L_sign b_L_sign 6 (some .int) [(0, 12, 15, 19)]) ({ frames := 10, cells := 22, slots := 672, locals := 260 }) (tb (wl D ci ad g tc td tn D2 cB sz0 ao o) [.ref (ad 0), .int u, .int v, .int x, .ref ao]) (lQ D ci ad ao (nI 1, 0, g)) 22 672 (lF ad ao) := by
  refine va_MetW (cc := b_L_sign) (maxL := 6) (ret := (some .int)) (hh := [(0, 12, 15, 19)]) (by decide) rfl ?_
  intro p e s m args below meth c s₁ B hml hv
  obtain ⟨rfl, ⟨⟨⟨hK, hg, hX, hD, hCI⟩, hKB, hKC, hsz⟩, hE⟩, hA, hne⟩ := hv
  have hx := B.exec
  have hb := B.bytes
  have hr := B.returns
  have hts := atoms_spec (ws := wH y_L_sign b_L_sign 6 (some .int) [(0, 12, 15, 19)]) B.pre
  have hT : ∀ w ∈ TT, w ∈ wH y_L_sign b_L_sign 6 (some .int) [(0, 12, 15, 19)] := wH_T
  have hown : s.vm.findClass RL = some m.cls := findClass_of_methodNamed B.named
  have hlocks := B.notSynchronized
  have hl := lv_entry ([.ref (ad 0), .int u, .int v, .int x, .ref ao]) (n := 6) (Nat.le_of_ble_eq_true rfl)
  rw [lg_entry_eq]
  generalize (lg_sl ([.ref (ad 0), .int u, .int v, .int x, .ref ao]) ++ List.replicate (6 - (lg_sl ([.ref (ad 0), .int u, .int v, .int x, .ref ao])).length) Slot.unset).toArray = ls at hl ⊢
  have hl : lv_has ls 6 [(0, .ref (ad 0)), (1, .int u), (2, .int v), (3, .int x), (4, .ref ao)] := hl
  have htab := vx_table (x := y_L_sign) B (hts _ List.mem_cons_self)
  have hL : ∀ q ∈ ([] : List Loc), lF ad ao q.base := fun q hq => nomatch hq
  refine lv_aload hx hb d_L_sign_0 (lv_at hl 4 rfl) ?_
  refine lv_iconst hx hb d_L_sign_2 (v := (nI 0)) rfl ?_
  refine lv_aload_n hx hb d_L_sign_3 rfl (lv_at hl 0 rfl) ?_
  refine lv_iload_n hx hb d_L_sign_4 rfl (lv_at hl 1 rfl) ?_
  refine lv_iload_n hx hb d_L_sign_5 rfl (lv_at hl 2 rfl) ?_
  refine lv_iload_n hx hb d_L_sign_6 rfl (lv_at hl 3 rfl) ?_
  refine tl_X (F2 := lF ad ao) (fun _ h => Or.inl h) ⟨hx, hb, hml, hown, hts⟩ hT (x_X_signI0 l htr D ci ad g tc td tn u v hv x) lk_L_59 wXCE_mv ⟨⟨hK, hg, hX, hD, hCI⟩, hE⟩ (wXW_rc hK hX) rfl hl.1 rfl (Nat.le_of_ble_eq_true rfl) d_L_sign_7 ⟨rfl, rfl, Nat.le_of_ble_eq_true rfl, Nat.le_of_ble_eq_true rfl⟩ ⟨Nat.le_of_ble_eq_true rfl, Nat.le_of_ble_eq_true rfl⟩ hL (fun E9 ce q9 st t locs1 hst hX9 hL h4 h5 h6 => ?_)
  obtain ⟨u9, hu9, hB9, hF9⟩ := hX9
  obtain ⟨rfl, hX1⟩ := hB9
  have hG : txG ad s.heap t.heap := by have h := txG.ofF hF9; rw [hst] at h; exact h
  refine vx_catch (own := RL) (name := eI) hown [] ⟨0, 12, 15, 19⟩ [] (htab.trans rfl) (fun z hz => nomatch hz) (by decide) (by decide) (hts _ (hT _ k_L_19)) (eB_use hE.2.2.1 _ (List.mem_of_getElem? (i := 4) rfl)) h4 h5 h6 ?_
  show W p l e _ s m _ below meth c _ _ _ _ _ (F0 m 15 ls [.ref q9])
  refine lv_astore hx hb d_L_sign_15 hl (by decide) (lv' := [(5, .ref q9), (0, .ref (ad 0)), (1, .int u), (2, .int v), (3, .int x), (4, .ref ao)]) rfl (fun ls hl => ?_)
  refine lv_iconst hx hb d_L_sign_17 (v := (nI 1)) rfl ?_
  refine W.widen (k := 22) (n := 672) (Nat.le_of_ble_eq_true rfl) (Nat.le_of_ble_eq_true rfl) ?_
  exact W.iret hx hb hr (fun t9 ht hW => ⟨_, rfl, rfl, u9.1, u9.2.1, u9.2.2, o, by rw [ht]; exact hX1, hg, hu9, by rw [ht]; exact lP_keep hne hA hG, fun z => absurd (show (nI 1 : Int32) = nI 0 from z) (by decide), by rw [ht]; exact lO.ofG0 hG⟩) hL d_L_sign_18
set_option maxHeartbeats 4000000 in
set_option maxRecDepth 100000 in
theorem w_sign_D (l : Launch) (htr : l.stackTraces = false) (D : va_G) (ci : Nat → ClassId) (ad : Nat → Nat) (g : TS) (tc td : Int32) (tn : Nat → Int32) (D2 : va_G) (cB : ClassId) (sz0 : Nat) (ao : Nat) (o : Nat → Int64) {dd : Nat} (hd : dd < tt_db (tt_day g) 10) (v : Int32) (hv : 0 ≤ v.toInt) (hv2 : ¬ v.toInt < ((tt_L (tt_dh g dd) 1440).length : Nat)) (x : Int32) : Met l y_L_sign (wH y_L_sign b_L_sign 6 (some .int) [(0, 12, 15, 19)]) ({ frames := 10, cells := 22, slots := 672, locals := 260 }) (tb (wl D ci ad g tc td tn D2 cB sz0 ao o) [.ref (ad 0), .int (nI dd), .int v, .int x, .ref ao]) (lQ D ci ad ao (nI 1, 0, g)) 22 672 (lF ad ao) := by
  refine va_MetW (cc := b_L_sign) (maxL := 6) (ret := (some .int)) (hh := [(0, 12, 15, 19)]) (by decide) rfl ?_
  intro p e s m args below meth c s₁ B hml hv
  obtain ⟨rfl, ⟨⟨⟨hK, hg, hX, hD, hCI⟩, hKB, hKC, hsz⟩, hE⟩, hA, hne⟩ := hv
  have hx := B.exec
  have hb := B.bytes
  have hr := B.returns
  have hts := atoms_spec (ws := wH y_L_sign b_L_sign 6 (some .int) [(0, 12, 15, 19)]) B.pre
  have hT : ∀ w ∈ TT, w ∈ wH y_L_sign b_L_sign 6 (some .int) [(0, 12, 15, 19)] := wH_T
  have hown : s.vm.findClass RL = some m.cls := findClass_of_methodNamed B.named
  have hlocks := B.notSynchronized
  have hl := lv_entry ([.ref (ad 0), .int (nI dd), .int v, .int x, .ref ao]) (n := 6) (Nat.le_of_ble_eq_true rfl)
  rw [lg_entry_eq]
  generalize (lg_sl ([.ref (ad 0), .int (nI dd), .int v, .int x, .ref ao]) ++ List.replicate (6 - (lg_sl ([.ref (ad 0), .int (nI dd), .int v, .int x, .ref ao])).length) Slot.unset).toArray = ls at hl ⊢
  have hl : lv_has ls 6 [(0, .ref (ad 0)), (1, .int (nI dd)), (2, .int v), (3, .int x), (4, .ref ao)] := hl
  have htab := vx_table (x := y_L_sign) B (hts _ List.mem_cons_self)
  have hL : ∀ q ∈ ([] : List Loc), lF ad ao q.base := fun q hq => nomatch hq
  refine lv_aload hx hb d_L_sign_0 (lv_at hl 4 rfl) ?_
  refine lv_iconst hx hb d_L_sign_2 (v := (nI 0)) rfl ?_
  refine lv_aload_n hx hb d_L_sign_3 rfl (lv_at hl 0 rfl) ?_
  refine lv_iload_n hx hb d_L_sign_4 rfl (lv_at hl 1 rfl) ?_
  refine lv_iload_n hx hb d_L_sign_5 rfl (lv_at hl 2 rfl) ?_
  refine lv_iload_n hx hb d_L_sign_6 rfl (lv_at hl 3 rfl) ?_
  refine tl_X (F2 := lF ad ao) (fun _ h => Or.inl h) ⟨hx, hb, hml, hown, hts⟩ hT (x_X_signI1 l htr D ci ad g tc td tn hd v hv hv2 x) lk_L_59 wXCE_mv ⟨⟨hK, hg, hX, hD, hCI⟩, hE⟩ (wXW_rc hK hX) rfl hl.1 rfl (Nat.le_of_ble_eq_true rfl) d_L_sign_7 ⟨rfl, rfl, Nat.le_of_ble_eq_true rfl, Nat.le_of_ble_eq_true rfl⟩ ⟨Nat.le_of_ble_eq_true rfl, Nat.le_of_ble_eq_true rfl⟩ hL (fun E9 ce q9 st t locs1 hst hX9 hL h4 h5 h6 => ?_)
  obtain ⟨u9, hu9, hB9, hF9⟩ := hX9
  obtain ⟨rfl, hX1⟩ := hB9
  have hG : txG ad s.heap t.heap := by have h := txG.ofF hF9; rw [hst] at h; exact h
  refine vx_catch (own := RL) (name := eI) hown [] ⟨0, 12, 15, 19⟩ [] (htab.trans rfl) (fun z hz => nomatch hz) (by decide) (by decide) (hts _ (hT _ k_L_19)) (eB_use hE.2.2.1 _ (List.mem_of_getElem? (i := 4) rfl)) h4 h5 h6 ?_
  show W p l e _ s m _ below meth c _ _ _ _ _ (F0 m 15 ls [.ref q9])
  refine lv_astore hx hb d_L_sign_15 hl (by decide) (lv' := [(5, .ref q9), (0, .ref (ad 0)), (1, .int (nI dd)), (2, .int v), (3, .int x), (4, .ref ao)]) rfl (fun ls hl => ?_)
  refine lv_iconst hx hb d_L_sign_17 (v := (nI 1)) rfl ?_
  refine W.widen (k := 22) (n := 672) (Nat.le_of_ble_eq_true rfl) (Nat.le_of_ble_eq_true rfl) ?_
  exact W.iret hx hb hr (fun t9 ht hW => ⟨_, rfl, rfl, u9.1, u9.2.1, u9.2.2, o, by rw [ht]; exact hX1, hg, hu9, by rw [ht]; exact lP_keep hne hA hG, fun z => absurd (show (nI 1 : Int32) = nI 0 from z) (by decide), by rw [ht]; exact lO.ofG0 hG⟩) hL d_L_sign_18
set_option maxHeartbeats 4000000 in
set_option maxRecDepth 100000 in
theorem w_sign_C (l : Launch) (htr : l.stackTraces = false) (D : va_G) (ci : Nat → ClassId) (ad : Nat → Nat) (g : TS) (tc td : Int32) (tn : Nat → Int32) (D2 : va_G) (cB : ClassId) (sz0 : Nat) (ao : Nat) (o : Nat → Int64) {dd k : Nat} (hd : dd < tt_db (tt_day g) 10) (hk : k < (tt_L (tt_dh g dd) 1440).length) (x : Int32) (hx9 : ¬ (0 ≤ x.toInt ∧ x.toInt < ((tt_line g dd k).length : Nat))) : Met l y_L_sign (wH y_L_sign b_L_sign 6 (some .int) [(0, 12, 15, 19)]) ({ frames := 10, cells := 22, slots := 672, locals := 260 }) (tb (wl D ci ad g tc td tn D2 cB sz0 ao o) [.ref (ad 0), .int (nI dd), .int (nI k), .int x, .ref ao]) (lQ D ci ad ao (nI 1, 0, g)) 22 672 (lF ad ao) := by
  refine va_MetW (cc := b_L_sign) (maxL := 6) (ret := (some .int)) (hh := [(0, 12, 15, 19)]) (by decide) rfl ?_
  intro p e s m args below meth c s₁ B hml hv
  obtain ⟨rfl, ⟨⟨⟨hK, hg, hX, hD, hCI⟩, hKB, hKC, hsz⟩, hE⟩, hA, hne⟩ := hv
  have hx := B.exec
  have hb := B.bytes
  have hr := B.returns
  have hts := atoms_spec (ws := wH y_L_sign b_L_sign 6 (some .int) [(0, 12, 15, 19)]) B.pre
  have hT : ∀ w ∈ TT, w ∈ wH y_L_sign b_L_sign 6 (some .int) [(0, 12, 15, 19)] := wH_T
  have hown : s.vm.findClass RL = some m.cls := findClass_of_methodNamed B.named
  have hlocks := B.notSynchronized
  have hl := lv_entry ([.ref (ad 0), .int (nI dd), .int (nI k), .int x, .ref ao]) (n := 6) (Nat.le_of_ble_eq_true rfl)
  rw [lg_entry_eq]
  generalize (lg_sl ([.ref (ad 0), .int (nI dd), .int (nI k), .int x, .ref ao]) ++ List.replicate (6 - (lg_sl ([.ref (ad 0), .int (nI dd), .int (nI k), .int x, .ref ao])).length) Slot.unset).toArray = ls at hl ⊢
  have hl : lv_has ls 6 [(0, .ref (ad 0)), (1, .int (nI dd)), (2, .int (nI k)), (3, .int x), (4, .ref ao)] := hl
  have htab := vx_table (x := y_L_sign) B (hts _ List.mem_cons_self)
  have hL : ∀ q ∈ ([] : List Loc), lF ad ao q.base := fun q hq => nomatch hq
  refine lv_aload hx hb d_L_sign_0 (lv_at hl 4 rfl) ?_
  refine lv_iconst hx hb d_L_sign_2 (v := (nI 0)) rfl ?_
  refine lv_aload_n hx hb d_L_sign_3 rfl (lv_at hl 0 rfl) ?_
  refine lv_iload_n hx hb d_L_sign_4 rfl (lv_at hl 1 rfl) ?_
  refine lv_iload_n hx hb d_L_sign_5 rfl (lv_at hl 2 rfl) ?_
  refine lv_iload_n hx hb d_L_sign_6 rfl (lv_at hl 3 rfl) ?_
  refine tl_X (F2 := lF ad ao) (fun _ h => Or.inl h) ⟨hx, hb, hml, hown, hts⟩ hT (x_X_signI2 l htr D ci ad g tc td tn D2 cB sz0 hd hk x hx9) lk_L_59 wXLE_mv ⟨⟨⟨hK, hg, hX, hD, hCI⟩, hKB, hKC, hsz⟩, hE⟩ (wXW_rc hK hX) rfl hl.1 rfl (Nat.le_of_ble_eq_true rfl) d_L_sign_7 ⟨rfl, rfl, Nat.le_of_ble_eq_true rfl, Nat.le_of_ble_eq_true rfl⟩ ⟨Nat.le_of_ble_eq_true rfl, Nat.le_of_ble_eq_true rfl⟩ hL (fun E9 ce q9 st t locs1 hst hX9 hL h4 h5 h6 => ?_)
  obtain ⟨u9, hu9, hB9, hF9⟩ := hX9
  obtain ⟨rfl, hX1⟩ := hB9
  have hG : txG ad s.heap t.heap := by have h := txG.ofF hF9; rw [hst] at h; exact h
  refine vx_catch (own := RL) (name := eI) hown [] ⟨0, 12, 15, 19⟩ [] (htab.trans rfl) (fun z hz => nomatch hz) (by decide) (by decide) (hts _ (hT _ k_L_19)) (eB_use hE.2.2.1 _ (List.mem_of_getElem? (i := 4) rfl)) h4 h5 h6 ?_
  show W p l e _ s m _ below meth c _ _ _ _ _ (F0 m 15 ls [.ref q9])
  refine lv_astore hx hb d_L_sign_15 hl (by decide) (lv' := [(5, .ref q9), (0, .ref (ad 0)), (1, .int (nI dd)), (2, .int (nI k)), (3, .int x), (4, .ref ao)]) rfl (fun ls hl => ?_)
  refine lv_iconst hx hb d_L_sign_17 (v := (nI 1)) rfl ?_
  refine W.widen (k := 22) (n := 672) (Nat.le_of_ble_eq_true rfl) (Nat.le_of_ble_eq_true rfl) ?_
  exact W.iret hx hb hr (fun t9 ht hW => ⟨_, rfl, rfl, u9.1, u9.2.1, u9.2.2, o, by rw [ht]; exact hX1, hg, hu9, by rw [ht]; exact lP_keep hne hA hG, fun z => absurd (show (nI 1 : Int32) = nI 0 from z) (by decide), by rw [ht]; exact lO.ofG0 hG⟩) hL d_L_sign_18
set_option maxHeartbeats 4000000 in
set_option maxRecDepth 100000 in
theorem w_above_A (l : Launch) (htr : l.stackTraces = false) (D : va_G) (ci : Nat → ClassId) (ad : Nat → Nat) (g : TS) (tc td : Int32) (tn : Nat → Int32) (D2 : va_G) (cB : ClassId) (sz0 : Nat) (ao : Nat) (o : Nat → Int64) {mm sp : Nat} (v : Int32) (hs1 : 1 ≤ sp) (hs2 : sp ≤ 1000) (hm : mm < tt_fst g 10) : Met l y_L_above (wH y_L_above b_L_above 6 (some .int) [(0, 12, 15, 13), (0, 12, 19, 19)]) ({ frames := 10, cells := 22, slots := 672, locals := 260 }) (tb (wl D ci ad g tc td tn D2 cB sz0 ao o) [.ref (ad 0), .int (nI mm), .int v, .int (nI sp), .ref ao]) (lQ D ci ad ao (nI 0, (tt_abv (tt_ab (tt_hgt g) v.toInt sp (tt_abn g mm sp) mm 0)).toInt64, g)) 22 672 (lF ad ao) := by
  refine va_MetW (cc := b_L_above) (maxL := 6) (ret := (some .int)) (hh := [(0, 12, 15, 13), (0, 12, 19, 19)]) (by decide) rfl ?_
  intro p e s m args below meth c s₁ B hml hv
  obtain ⟨rfl, ⟨⟨⟨hK, hg, hX, hD, hCI⟩, hKB, hKC, hsz⟩, hE⟩, hA, hne⟩ := hv
  have hx := B.exec
  have hb := B.bytes
  have hr := B.returns
  have hts := atoms_spec (ws := wH y_L_above b_L_above 6 (some .int) [(0, 12, 15, 13), (0, 12, 19, 19)]) B.pre
  have hT : ∀ w ∈ TT, w ∈ wH y_L_above b_L_above 6 (some .int) [(0, 12, 15, 13), (0, 12, 19, 19)] := wH_T
  have hown : s.vm.findClass RL = some m.cls := findClass_of_methodNamed B.named
  have hlocks := B.notSynchronized
  have hl := lv_entry ([.ref (ad 0), .int (nI mm), .int v, .int (nI sp), .ref ao]) (n := 6) (Nat.le_of_ble_eq_true rfl)
  rw [lg_entry_eq]
  generalize (lg_sl ([.ref (ad 0), .int (nI mm), .int v, .int (nI sp), .ref ao]) ++ List.replicate (6 - (lg_sl ([.ref (ad 0), .int (nI mm), .int v, .int (nI sp), .ref ao])).length) Slot.unset).toArray = ls at hl ⊢
  have hl : lv_has ls 6 [(0, .ref (ad 0)), (1, .int (nI mm)), (2, .int v), (3, .int (nI sp)), (4, .ref ao)] := hl
  have htab := vx_table (x := y_L_above) B (hts _ List.mem_cons_self)
  have hL : ∀ q ∈ ([] : List Loc), lF ad ao q.base := fun q hq => nomatch hq
  refine lv_aload hx hb d_L_above_0 (lv_at hl 4 rfl) ?_
  refine lv_iconst hx hb d_L_above_2 (v := (nI 0)) rfl ?_
  refine lv_aload_n hx hb d_L_above_3 rfl (lv_at hl 0 rfl) ?_
  refine lv_iload_n hx hb d_L_above_4 rfl (lv_at hl 1 rfl) ?_
  refine lv_iload_n hx hb d_L_above_5 rfl (lv_at hl 2 rfl) ?_
  refine lv_iload_n hx hb d_L_above_6 rfl (lv_at hl 3 rfl) ?_
  refine tq_V ⟨hx, hb, hml, hown, hts⟩ hT (c_X_above l D ci ad g tc td tn v hs1 hs2 hm) lk_L_62 wX_mv ⟨hK, hg, hX⟩ (wXW_rc hK hX) rfl hl.1 rfl (Nat.le_of_ble_eq_true rfl) d_L_above_7 ⟨rfl, rfl, Nat.le_of_ble_eq_true rfl, Nat.le_of_ble_eq_true rfl⟩ ⟨Nat.zero_le _, Nat.zero_le _⟩ ?_
  have hG : txG ad s.heap s.heap := txG.rf
  have hA := lP_keep hne hA hG
  refine lv_i2l hx hb d_L_above_10 (v := (tt_abv (tt_ab (tt_hgt g) v.toInt sp (tt_abn g mm sp) mm 0)).toInt64) rfl ?_
  refine tq_last (F := lF ad ao) hx hb hK 1 hA rfl (j := 0) (by decide) (by decide) (Or.inr rfl) hL d_L_above_11 (fun H2 locs2 hP2 hz2 hq2 hL => ?_)
  refine lv_goto hx hb d_L_above_12 (tgt := 23) (by decide) ?_
  refine lv_iconst hx hb d_L_above_23 (v := (nI 0)) rfl ?_
  have hX := tx_keep hX (fun k hk => hq2 _ (hne k hk))
  refine W.widen (k := 22) (n := 672) (Nat.le_of_ble_eq_true rfl) (Nat.le_of_ble_eq_true rfl) ?_
  exact W.iret hx hb hr (fun t ht hW => ⟨_, rfl, rfl, tc, td, tn, _, by rw [ht]; exact hX, hg, hCI, by rw [ht]; exact hP2, fun _ => updL_0, by rw [ht]; exact lO.ofG hG hz2 hq2⟩) hL d_L_above_24
set_option maxHeartbeats 4000000 in
set_option maxRecDepth 100000 in
theorem w_above_B (l : Launch) (htr : l.stackTraces = false) (D : va_G) (ci : Nat → ClassId) (ad : Nat → Nat) (g : TS) (tc td : Int32) (tn : Nat → Int32) (D2 : va_G) (cB : ClassId) (sz0 : Nat) (ao : Nat) (o : Nat → Int64) (u v z : Int32) (hv0 : ¬ (1 ≤ z.toInt ∧ z.toInt ≤ 1000)) : Met l y_L_above (wH y_L_above b_L_above 6 (some .int) [(0, 12, 15, 13), (0, 12, 19, 19)]) ({ frames := 10, cells := 22, slots := 672, locals := 260 }) (tb (wl D ci ad g tc td tn D2 cB sz0 ao o) [.ref (ad 0), .int u, .int v, .int z, .ref ao]) (lQ D ci ad ao (nI 1, 0, g)) 22 672 (lF ad ao) := by
  refine va_MetW (cc := b_L_above) (maxL := 6) (ret := (some .int)) (hh := [(0, 12, 15, 13), (0, 12, 19, 19)]) (by decide) rfl ?_
  intro p e s m args below meth c s₁ B hml hv
  obtain ⟨rfl, ⟨⟨⟨hK, hg, hX, hD, hCI⟩, hKB, hKC, hsz⟩, hE⟩, hA, hne⟩ := hv
  have hx := B.exec
  have hb := B.bytes
  have hr := B.returns
  have hts := atoms_spec (ws := wH y_L_above b_L_above 6 (some .int) [(0, 12, 15, 13), (0, 12, 19, 19)]) B.pre
  have hT : ∀ w ∈ TT, w ∈ wH y_L_above b_L_above 6 (some .int) [(0, 12, 15, 13), (0, 12, 19, 19)] := wH_T
  have hown : s.vm.findClass RL = some m.cls := findClass_of_methodNamed B.named
  have hlocks := B.notSynchronized
  have hl := lv_entry ([.ref (ad 0), .int u, .int v, .int z, .ref ao]) (n := 6) (Nat.le_of_ble_eq_true rfl)
  rw [lg_entry_eq]
  generalize (lg_sl ([.ref (ad 0), .int u, .int v, .int z, .ref ao]) ++ List.replicate (6 - (lg_sl ([.ref (ad 0), .int u, .int v, .int z, .ref ao])).length) Slot.unset).toArray = ls at hl ⊢
  have hl : lv_has ls 6 [(0, .ref (ad 0)), (1, .int u), (2, .int v), (3, .int z), (4, .ref ao)] := hl
  have htab := vx_table (x := y_L_above) B (hts _ List.mem_cons_self)
  have hL : ∀ q ∈ ([] : List Loc), lF ad ao q.base := fun q hq => nomatch hq
  refine lv_aload hx hb d_L_above_0 (lv_at hl 4 rfl) ?_
  refine lv_iconst hx hb d_L_above_2 (v := (nI 0)) rfl ?_
  refine lv_aload_n hx hb d_L_above_3 rfl (lv_at hl 0 rfl) ?_
  refine lv_iload_n hx hb d_L_above_4 rfl (lv_at hl 1 rfl) ?_
  refine lv_iload_n hx hb d_L_above_5 rfl (lv_at hl 2 rfl) ?_
  refine lv_iload_n hx hb d_L_above_6 rfl (lv_at hl 3 rfl) ?_
  refine tl_X (F2 := lF ad ao) (fun _ h => h.elim) ⟨hx, hb, hml, hown, hts⟩ hT (x_X_aboveA l htr D ci ad g tc td tn u v z hv0) lk_L_62 wXE_mv ⟨⟨hK, hg, hX⟩, hE⟩ (wXW_rc hK hX) rfl hl.1 rfl (Nat.le_of_ble_eq_true rfl) d_L_above_7 ⟨rfl, rfl, Nat.le_of_ble_eq_true rfl, Nat.le_of_ble_eq_true rfl⟩ ⟨Nat.le_of_ble_eq_true rfl, Nat.le_of_ble_eq_true rfl⟩ hL (fun E9 ce q9 st t locs1 hst hX9 hL h4 h5 h6 => ?_)
  obtain ⟨u9, hu9, hB9, hF9⟩ := hX9
  subst hB9
  have hG : txG ad s.heap t.heap := by have h := txG.ofF0 (ad := ad) hF9; rw [hst] at h; exact h
  have hX1 := tx_keep hX (fun k hk => (hF9.2 _ (by rw [hst]; exact tx_lt hX hk) (fun z => z)).trans (by rw [hst]))
  refine vx_catch (own := RL) (name := eA) hown [] ⟨0, 12, 15, 13⟩ [⟨0, 12, 19, 19⟩] (htab.trans rfl) (fun z hz => nomatch hz) (by decide) (by decide) (hts _ (hT _ k_L_13)) (eB_use hE.2.2.1 _ (List.mem_of_getElem? (i := 3) rfl)) h4 h5 h6 ?_
  show W p l e _ s m _ below meth c _ _ _ _ _ (F0 m 15 ls [.ref q9])
  refine lv_astore hx hb d_L_above_15 hl (by decide) (lv' := [(5, .ref q9), (0, .ref (ad 0)), (1, .int u), (2, .int v), (3, .int z), (4, .ref ao)]) rfl (fun ls hl => ?_)
  refine lv_iconst hx hb d_L_above_17 (v := (nI 1)) rfl ?_
  refine W.widen (k := 22) (n := 672) (Nat.le_of_ble_eq_true rfl) (Nat.le_of_ble_eq_true rfl) ?_
  exact W.iret hx hb hr (fun t9 ht hW => ⟨_, rfl, rfl, tc, td, tn, o, by rw [ht]; exact hX1, hg, hCI, by rw [ht]; exact lP_keep hne hA hG, fun z => absurd (show (nI 1 : Int32) = nI 0 from z) (by decide), by rw [ht]; exact lO.ofG0 hG⟩) hL d_L_above_18
set_option maxHeartbeats 4000000 in
set_option maxRecDepth 100000 in
theorem w_above_C (l : Launch) (htr : l.stackTraces = false) (D : va_G) (ci : Nat → ClassId) (ad : Nat → Nat) (g : TS) (tc td : Int32) (tn : Nat → Int32) (D2 : va_G) (cB : ClassId) (sz0 : Nat) (ao : Nat) (o : Nat → Int64) (u v z : Int32) (hv1 : 1 ≤ z.toInt ∧ z.toInt ≤ 1000) (hv0 : ¬ (0 ≤ u.toInt ∧ u.toInt < (tt_fst g 10 : Nat))) : Met l y_L_above (wH y_L_above b_L_above 6 (some .int) [(0, 12, 15, 13), (0, 12, 19, 19)]) ({ frames := 10, cells := 22, slots := 672, locals := 260 }) (tb (wl D ci ad g tc td tn D2 cB sz0 ao o) [.ref (ad 0), .int u, .int v, .int z, .ref ao]) (lQ D ci ad ao (nI 2, 0, g)) 22 672 (lF ad ao) := by
  refine va_MetW (cc := b_L_above) (maxL := 6) (ret := (some .int)) (hh := [(0, 12, 15, 13), (0, 12, 19, 19)]) (by decide) rfl ?_
  intro p e s m args below meth c s₁ B hml hv
  obtain ⟨rfl, ⟨⟨⟨hK, hg, hX, hD, hCI⟩, hKB, hKC, hsz⟩, hE⟩, hA, hne⟩ := hv
  have hx := B.exec
  have hb := B.bytes
  have hr := B.returns
  have hts := atoms_spec (ws := wH y_L_above b_L_above 6 (some .int) [(0, 12, 15, 13), (0, 12, 19, 19)]) B.pre
  have hT : ∀ w ∈ TT, w ∈ wH y_L_above b_L_above 6 (some .int) [(0, 12, 15, 13), (0, 12, 19, 19)] := wH_T
  have hown : s.vm.findClass RL = some m.cls := findClass_of_methodNamed B.named
  have hlocks := B.notSynchronized
  have hl := lv_entry ([.ref (ad 0), .int u, .int v, .int z, .ref ao]) (n := 6) (Nat.le_of_ble_eq_true rfl)
  rw [lg_entry_eq]
  generalize (lg_sl ([.ref (ad 0), .int u, .int v, .int z, .ref ao]) ++ List.replicate (6 - (lg_sl ([.ref (ad 0), .int u, .int v, .int z, .ref ao])).length) Slot.unset).toArray = ls at hl ⊢
  have hl : lv_has ls 6 [(0, .ref (ad 0)), (1, .int u), (2, .int v), (3, .int z), (4, .ref ao)] := hl
  have htab := vx_table (x := y_L_above) B (hts _ List.mem_cons_self)
  have hL : ∀ q ∈ ([] : List Loc), lF ad ao q.base := fun q hq => nomatch hq
  refine lv_aload hx hb d_L_above_0 (lv_at hl 4 rfl) ?_
  refine lv_iconst hx hb d_L_above_2 (v := (nI 0)) rfl ?_
  refine lv_aload_n hx hb d_L_above_3 rfl (lv_at hl 0 rfl) ?_
  refine lv_iload_n hx hb d_L_above_4 rfl (lv_at hl 1 rfl) ?_
  refine lv_iload_n hx hb d_L_above_5 rfl (lv_at hl 2 rfl) ?_
  refine lv_iload_n hx hb d_L_above_6 rfl (lv_at hl 3 rfl) ?_
  refine tl_X (F2 := lF ad ao) (fun _ h => h.elim) ⟨hx, hb, hml, hown, hts⟩ hT (x_X_aboveI l htr D ci ad g tc td tn u v z hv1 hv0) lk_L_62 wXE_mv ⟨⟨hK, hg, hX⟩, hE⟩ (wXW_rc hK hX) rfl hl.1 rfl (Nat.le_of_ble_eq_true rfl) d_L_above_7 ⟨rfl, rfl, Nat.le_of_ble_eq_true rfl, Nat.le_of_ble_eq_true rfl⟩ ⟨Nat.le_of_ble_eq_true rfl, Nat.le_of_ble_eq_true rfl⟩ hL (fun E9 ce q9 st t locs1 hst hX9 hL h4 h5 h6 => ?_)
  obtain ⟨u9, hu9, hB9, hF9⟩ := hX9
  subst hB9
  have hG : txG ad s.heap t.heap := by have h := txG.ofF0 (ad := ad) hF9; rw [hst] at h; exact h
  have hX1 := tx_keep hX (fun k hk => (hF9.2 _ (by rw [hst]; exact tx_lt hX hk) (fun z => z)).trans (by rw [hst]))
  refine vx_catch (own := RL) (name := eI) hown [⟨0, 12, 15, 13⟩] ⟨0, 12, 19, 19⟩ [] (htab.trans rfl) (fun z hz => by rw [List.mem_singleton.mp hz]; exact Or.inr ⟨by decide, _, hts _ (hT _ k_L_13), hE.2.2.2.2.2⟩) (by decide) (by decide) (hts _ (hT _ k_L_19)) (eB_use hE.2.2.1 _ (List.mem_of_getElem? (i := 4) rfl)) h4 h5 h6 ?_
  show W p l e _ s m _ below meth c _ _ _ _ _ (F0 m 19 ls [.ref q9])
  refine lv_astore hx hb d_L_above_19 hl (by decide) (lv' := [(5, .ref q9), (0, .ref (ad 0)), (1, .int u), (2, .int v), (3, .int z), (4, .ref ao)]) rfl (fun ls hl => ?_)
  refine lv_iconst hx hb d_L_above_21 (v := (nI 2)) rfl ?_
  refine W.widen (k := 22) (n := 672) (Nat.le_of_ble_eq_true rfl) (Nat.le_of_ble_eq_true rfl) ?_
  exact W.iret hx hb hr (fun t9 ht hW => ⟨_, rfl, rfl, tc, td, tn, o, by rw [ht]; exact hX1, hg, hCI, by rw [ht]; exact lP_keep hne hA hG, fun z => absurd (show (nI 2 : Int32) = nI 0 from z) (by decide), by rw [ht]; exact lO.ofG0 hG⟩) hL d_L_above_22
