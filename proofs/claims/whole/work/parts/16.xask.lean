/-! the class's questions: what they answer, when they throw. Written by wip/whole/gen.py -/
theorem zb_t {c : Prop} [Decidable c] (h : ¬ zb c = 0) : c := by
  by_cases q : c
  · exact q
  · exact absurd (by rw [zb, if_neg q]) h
theorem zb_f {c : Prop} [Decidable c] (h : zb c = 0) : ¬ c := by
  intro q
  rw [zb, if_pos q] at h
  exact absurd h (by decide)
theorem iv_ge0 {v : Int32} : 0 ≤ v ↔ 0 ≤ v.toInt := by rw [Int32.le_iff_toInt_le, Int32.toInt_zero]
theorem iv_eq0 {v : Int32} : v = 0 ↔ v.toInt = 0 := by rw [← Int32.toInt_inj, Int32.toInt_zero]
def wXE (D : va_G) (ci : Nat → ClassId) (ad : Nat → Nat) (g : TS) (tc td : Int32) (tn : Nat → Int32) (U : State) (H : Heap) : Prop := wX D ci ad g tc td tn U H ∧ wE U H
theorem wXE_mv {D : va_G} {ci : Nat → ClassId} {ad : Nat → Nat} {g : TS} {tc td : Int32} {tn : Nat → Int32} : tmov (wXE D ci ad g tc td tn) := fun _ _ _ hW h => ⟨wX_mv _ _ _ hW h.1, wE_mv _ _ _ hW h.2⟩
set_option maxHeartbeats 4000000 in
set_option maxRecDepth 100000 in
theorem c_X_first (l : Launch) (D : va_G) (ci : Nat → ClassId) (ad : Nat → Nat) (g : TS) (tc td : Int32) (tn : Nat → Int32) {y : Nat} (hy : y ≤ 10) : Met l y_X_first (wT y_X_first b_X_first 2 (some .int)) (rP 1 20) (tb (wX D ci ad g tc td tn) [.ref (ad 0), .int (nI y)]) (tq_P (some (.int (nI (tt_fst g y))))) 0 0 tq_n := by
  refine Met.ofW (cc := b_X_first) (maxL := 2) (ret := (some .int)) (by decide) rfl ?_
  intro p e s m args below meth c s₁ B hml hv
  obtain ⟨rfl, hK, hg, hX⟩ := hv
  have hx := B.exec
  have hb := B.bytes
  have hr := B.returns
  have hts := atoms_spec (ws := wT y_X_first b_X_first 2 (some .int)) B.pre
  have hT : ∀ w ∈ TT, w ∈ wT y_X_first b_X_first 2 (some .int) := wT_T
  have hown : s.vm.findClass RX = some m.cls := findClass_of_methodNamed B.named
  have hlocks := B.notSynchronized
  have hl := lv_entry ([.ref (ad 0), .int (nI y)]) (n := 2) (Nat.le_of_ble_eq_true rfl)
  rw [lg_entry_eq]
  generalize (lg_sl ([.ref (ad 0), .int (nI y)]) ++ List.replicate (2 - (lg_sl ([.ref (ad 0), .int (nI y)])).length) Slot.unset).toArray = ls at hl ⊢
  have hl : lv_has ls 2 [(0, .ref (ad 0)), (1, .int (nI y))] := hl
  have ev : (nI y).toInt = y := nI_toInt (by omega)
  refine lv_iload_n hx hb d_X_first_0 rfl (lv_at hl 1 rfl) ?_
  refine tq_S ⟨hx, hb, hml, hown, hts⟩ hT (c_X_isYear l (nI y)) lk_X_84 wN_mv trivial rfl hl.1 rfl (Nat.le_of_ble_eq_true rfl) d_X_first_1 ⟨rfl, rfl, Nat.le_of_ble_eq_true rfl, Nat.le_of_ble_eq_true rfl⟩ ⟨Nat.zero_le _, Nat.zero_le _⟩ ?_
  refine lv_if_ne hx hb d_X_first_4 (tgt := 23) (by decide) (fun q1 => ?_) (fun q1 => ?_)
  · have q1 := zb_t q1
    refine lv_aload_n hx hb d_X_first_23 rfl (lv_at hl 0 rfl) ?_
    refine va_get hx hb hts (fun w h => hT w (uX_in w h)) hown hK hX.1 0 rfl rfl 6 (by decide) (hts _ (hT _ k_X_30)) (fun _ h => h) rfl d_X_first_24 ?_
    refine lv_iload_n hx hb d_X_first_27 rfl (lv_at hl 1 rfl) ?_
    refine tq_iald hx hb hK hX.1 6 0 rfl rfl (by omega) (by decide) d_X_first_28 ?_
    exact W.iret hx hb hr (fun t ht hW => ⟨_, rfl, ⟨rfl, ht⟩⟩) (fun q hq => nomatch hq) d_X_first_29
  · have q1 := zb_f q1
    refine lv_iload_n hx hb d_X_first_7 rfl (lv_at hl 1 rfl) ?_
    refine lv_bipush hx hb d_X_first_8 (v := (nI 10)) rfl ?_
    refine lv_icmp_eq hx hb d_X_first_10 (tgt := 23) (by decide) (fun q2 => ?_) (fun q2 => ?_)
    · have q2 := Int32.toInt_inj.symm.mp q2
      rw [nI_toInt (n := 10) (by decide)] at q2
      refine lv_aload_n hx hb d_X_first_23 rfl (lv_at hl 0 rfl) ?_
      refine va_get hx hb hts (fun w h => hT w (uX_in w h)) hown hK hX.1 0 rfl rfl 6 (by decide) (hts _ (hT _ k_X_30)) (fun _ h => h) rfl d_X_first_24 ?_
      refine lv_iload_n hx hb d_X_first_27 rfl (lv_at hl 1 rfl) ?_
      refine tq_iald hx hb hK hX.1 6 0 rfl rfl (by omega) (by decide) d_X_first_28 ?_
      exact W.iret hx hb hr (fun t ht hW => ⟨_, rfl, ⟨rfl, ht⟩⟩) (fun q hq => nomatch hq) d_X_first_29
    · have q2 := mt Int32.toInt_inj.symm.mpr q2
      rw [nI_toInt (n := 10) (by decide)] at q2
      exfalso
      omega
set_option maxHeartbeats 4000000 in
set_option maxRecDepth 100000 in
theorem x_X_first (l : Launch) (htr : l.stackTraces = false) (D : va_G) (ci : Nat → ClassId) (ad : Nat → Nat) (g : TS) (tc td : Int32) (tn : Nat → Int32) (v : Int32) (hv0 : ¬ (0 ≤ v.toInt ∧ v.toInt ≤ 10)) : vx_Met l y_X_first (wT y_X_first b_X_first 2 (some .int)) ({ frames := 6, cells := 1, slots := 6, locals := 82 }) (tb (wXE D ci ad g tc td tn) [.ref (ad 0), .int v]) tw_N (vx_X (fun _ : Unit => True) (fun E _ _ => E = eI) (fun _ => False)) 1 6 tq_n := by
  refine vx_ofW (cc := b_X_first) (maxL := 2) (ret := (some .int)) (by decide) rfl ?_
  intro p e s m args below meth c s₁ B hml hno hv
  obtain ⟨rfl, ⟨hK, hg, hX⟩, hE⟩ := hv
  have hx := B.exec
  have hb := B.bytes
  have hr := B.returns
  have hts := atoms_spec (ws := wT y_X_first b_X_first 2 (some .int)) B.pre
  have hT : ∀ w ∈ TT, w ∈ wT y_X_first b_X_first 2 (some .int) := wT_T
  have hown : s.vm.findClass RX = some m.cls := findClass_of_methodNamed B.named
  have hlocks := B.notSynchronized
  have hl := lv_entry ([.ref (ad 0), .int v]) (n := 2) (Nat.le_of_ble_eq_true rfl)
  rw [lg_entry_eq]
  generalize (lg_sl ([.ref (ad 0), .int v]) ++ List.replicate (2 - (lg_sl ([.ref (ad 0), .int v])).length) Slot.unset).toArray = ls at hl ⊢
  have hl : lv_has ls 2 [(0, .ref (ad 0)), (1, .int v)] := hl
  refine lv_iload_n hx hb d_X_first_0 rfl (lv_at hl 1 rfl) ?_
  refine tq_S ⟨hx, hb, hml, hown, hts⟩ hT (c_X_isYear l v) lk_X_84 wN_mv trivial rfl hl.1 rfl (Nat.le_of_ble_eq_true rfl) d_X_first_1 ⟨rfl, rfl, Nat.le_of_ble_eq_true rfl, Nat.le_of_ble_eq_true rfl⟩ ⟨Nat.zero_le _, Nat.zero_le _⟩ ?_
  refine lv_if_ne hx hb d_X_first_4 (tgt := 23) (by decide) (fun q1 => ?_) (fun q1 => ?_)
  · have q1 := zb_t q1
    exfalso
    omega
  · have q1 := zb_f q1
    refine lv_iload_n hx hb d_X_first_7 rfl (lv_at hl 1 rfl) ?_
    refine lv_bipush hx hb d_X_first_8 (v := (nI 10)) rfl ?_
    refine lv_icmp_eq hx hb d_X_first_10 (tgt := 23) (by decide) (fun q2 => ?_) (fun q2 => ?_)
    · have q2 := Int32.toInt_inj.symm.mp q2
      rw [nI_toInt (n := 10) (by decide)] at q2
      exfalso
      omega
    · have q2 := mt Int32.toInt_inj.symm.mpr q2
      rw [nI_toInt (n := 10) (by decide)] at q2
      exact tw_I hx hb htr hown (fun w h => hts w (hT w h)) hE (fun _ _ _ h => h) (is := 94) (text := "no such year") (by decide) va_S.rf (hl.1.trans hml.symm) d_X_first_13 d_X_first_16 d_X_first_17 d_X_first_19 d_X_first_22 hno ⟨by decide, by decide, by decide, by decide⟩ hlocks (fun t ha h1 h2 => ⟨(), trivial, rfl, h1, fun q hq _ => h2 q hq⟩) (fun z hz => nomatch hz) (Nat.le_refl _) (Nat.le_refl _)
set_option maxHeartbeats 4000000 in
set_option maxRecDepth 100000 in
theorem c_X_year (l : Launch) (D : va_G) (ci : Nat → ClassId) (ad : Nat → Nat) (g : TS) (tc td : Int32) (tn : Nat → Int32) {mm : Nat} (hm : mm < tt_fst g 10) : Met l y_X_year (wT y_X_year b_X_year 2 (some .int)) (rP 1 22) (tb (wX D ci ad g tc td tn) [.ref (ad 0), .int (nI mm)]) (tq_P (some (.int (nI (tt_yr g mm))))) 0 0 tq_n := by
  refine Met.ofW (cc := b_X_year) (maxL := 2) (ret := (some .int)) (by decide) rfl ?_
  intro p e s m args below meth c s₁ B hml hv
  obtain ⟨rfl, hK, hg, hX⟩ := hv
  have hx := B.exec
  have hb := B.bytes
  have hr := B.returns
  have hts := atoms_spec (ws := wT y_X_year b_X_year 2 (some .int)) B.pre
  have hT : ∀ w ∈ TT, w ∈ wT y_X_year b_X_year 2 (some .int) := wT_T
  have hown : s.vm.findClass RX = some m.cls := findClass_of_methodNamed B.named
  have hlocks := B.notSynchronized
  have hl := lv_entry ([.ref (ad 0), .int (nI mm)]) (n := 2) (Nat.le_of_ble_eq_true rfl)
  rw [lg_entry_eq]
  generalize (lg_sl ([.ref (ad 0), .int (nI mm)]) ++ List.replicate (2 - (lg_sl ([.ref (ad 0), .int (nI mm)])).length) Slot.unset).toArray = ls at hl ⊢
  have hl : lv_has ls 2 [(0, .ref (ad 0)), (1, .int (nI mm))] := hl
  have hdb := tt_db_in hg.2.2.2 10 (Nat.le_refl _)
  have hf10 : tt_fst g 10 = 1440 * tt_db (tt_day g) 10 := rfl
  have ev : (nI mm).toInt = mm := nI_toInt (by omega)
  refine lv_aload_n hx hb d_X_year_0 rfl (lv_at hl 0 rfl) ?_
  refine lv_iload_n hx hb d_X_year_1 rfl (lv_at hl 1 rfl) ?_
  refine tq_V ⟨hx, hb, hml, hown, hts⟩ hT (c_X_isMinute l D ci ad g tc td tn (nI mm)) lk_X_98 wX_mv ⟨hK, hg, hX⟩ (wX_rc ⟨hK, hg, hX⟩) rfl hl.1 rfl (Nat.le_of_ble_eq_true rfl) d_X_year_2 ⟨rfl, rfl, Nat.le_of_ble_eq_true rfl, Nat.le_of_ble_eq_true rfl⟩ ⟨Nat.zero_le _, Nat.zero_le _⟩ ?_
  refine lv_if_ne hx hb d_X_year_5 (tgt := 18) (by decide) (fun q1 => ?_) (fun q1 => ?_)
  · have q1 := zb_t q1
    refine lv_aload_n hx hb d_X_year_18 rfl (lv_at hl 0 rfl) ?_
    refine lv_iload_n hx hb d_X_year_19 rfl (lv_at hl 1 rfl) ?_
    refine tq_V ⟨hx, hb, hml, hown, hts⟩ hT (c_X_yearOf l D ci ad g tc td tn (mm := mm) (by omega)) lk_X_103 wX_mv ⟨hK, hg, hX⟩ (wX_rc ⟨hK, hg, hX⟩) rfl hl.1 rfl (Nat.le_of_ble_eq_true rfl) d_X_year_20 ⟨rfl, rfl, Nat.le_of_ble_eq_true rfl, Nat.le_of_ble_eq_true rfl⟩ ⟨Nat.zero_le _, Nat.zero_le _⟩ ?_
    exact W.iret hx hb hr (fun t ht hW => ⟨_, rfl, ⟨rfl, ht⟩⟩) (fun q hq => nomatch hq) d_X_year_23
  · have q1 := zb_f q1
    exfalso
    omega
set_option maxHeartbeats 4000000 in
set_option maxRecDepth 100000 in
theorem x_X_year (l : Launch) (htr : l.stackTraces = false) (D : va_G) (ci : Nat → ClassId) (ad : Nat → Nat) (g : TS) (tc td : Int32) (tn : Nat → Int32) (v : Int32) (hv0 : ¬ (0 ≤ v.toInt ∧ v.toInt < (tt_fst g 10 : Nat))) : vx_Met l y_X_year (wT y_X_year b_X_year 2 (some .int)) ({ frames := 6, cells := 1, slots := 6, locals := 82 }) (tb (wXE D ci ad g tc td tn) [.ref (ad 0), .int v]) tw_N (vx_X (fun _ : Unit => True) (fun E _ _ => E = eI) (fun _ => False)) 1 6 tq_n := by
  refine vx_ofW (cc := b_X_year) (maxL := 2) (ret := (some .int)) (by decide) rfl ?_
  intro p e s m args below meth c s₁ B hml hno hv
  obtain ⟨rfl, ⟨hK, hg, hX⟩, hE⟩ := hv
  have hx := B.exec
  have hb := B.bytes
  have hr := B.returns
  have hts := atoms_spec (ws := wT y_X_year b_X_year 2 (some .int)) B.pre
  have hT : ∀ w ∈ TT, w ∈ wT y_X_year b_X_year 2 (some .int) := wT_T
  have hown : s.vm.findClass RX = some m.cls := findClass_of_methodNamed B.named
  have hlocks := B.notSynchronized
  have hl := lv_entry ([.ref (ad 0), .int v]) (n := 2) (Nat.le_of_ble_eq_true rfl)
  rw [lg_entry_eq]
  generalize (lg_sl ([.ref (ad 0), .int v]) ++ List.replicate (2 - (lg_sl ([.ref (ad 0), .int v])).length) Slot.unset).toArray = ls at hl ⊢
  have hl : lv_has ls 2 [(0, .ref (ad 0)), (1, .int v)] := hl
  refine lv_aload_n hx hb d_X_year_0 rfl (lv_at hl 0 rfl) ?_
  refine lv_iload_n hx hb d_X_year_1 rfl (lv_at hl 1 rfl) ?_
  refine tq_V ⟨hx, hb, hml, hown, hts⟩ hT (c_X_isMinute l D ci ad g tc td tn v) lk_X_98 wX_mv ⟨hK, hg, hX⟩ (wX_rc ⟨hK, hg, hX⟩) rfl hl.1 rfl (Nat.le_of_ble_eq_true rfl) d_X_year_2 ⟨rfl, rfl, Nat.le_of_ble_eq_true rfl, Nat.le_of_ble_eq_true rfl⟩ ⟨Nat.zero_le _, Nat.zero_le _⟩ ?_
  refine lv_if_ne hx hb d_X_year_5 (tgt := 18) (by decide) (fun q1 => ?_) (fun q1 => ?_)
  · have q1 := zb_t q1
    exfalso
    omega
  · have q1 := zb_f q1
    exact tw_I hx hb htr hown (fun w h => hts w (hT w h)) hE (fun _ _ _ h => h) (is := 101) (text := "no such minute") (by decide) va_S.rf (hl.1.trans hml.symm) d_X_year_8 d_X_year_11 d_X_year_12 d_X_year_14 d_X_year_17 hno ⟨by decide, by decide, by decide, by decide⟩ hlocks (fun t ha h1 h2 => ⟨(), trivial, rfl, h1, fun q hq _ => h2 q hq⟩) (fun z hz => nomatch hz) (Nat.le_refl _) (Nat.le_refl _)
set_option maxHeartbeats 4000000 in
set_option maxRecDepth 100000 in
theorem c_X_position (l : Launch) (D : va_G) (ci : Nat → ClassId) (ad : Nat → Nat) (g : TS) (tc td : Int32) (tn : Nat → Int32) {i mm : Nat} (hi : i < 8) (hm : mm < tt_fst g 10) : Met l y_X_position (wT y_X_position b_X_position 3 (some .long)) (rP 1 23) (tb (wX D ci ad g tc td tn) [.ref (ad 0), .int (nI i), .int (nI mm)]) (tq_P (some (.long (lN (tt_pos g i mm (tt_yr g mm)))))) 0 0 tq_n := by
  refine Met.ofW (cc := b_X_position) (maxL := 3) (ret := (some .long)) (by decide) rfl ?_
  intro p e s m args below meth c s₁ B hml hv
  obtain ⟨rfl, hK, hg, hX⟩ := hv
  have hx := B.exec
  have hb := B.bytes
  have hr := B.returns
  have hts := atoms_spec (ws := wT y_X_position b_X_position 3 (some .long)) B.pre
  have hT : ∀ w ∈ TT, w ∈ wT y_X_position b_X_position 3 (some .long) := wT_T
  have hown : s.vm.findClass RX = some m.cls := findClass_of_methodNamed B.named
  have hlocks := B.notSynchronized
  have hl := lv_entry ([.ref (ad 0), .int (nI i), .int (nI mm)]) (n := 3) (Nat.le_of_ble_eq_true rfl)
  rw [lg_entry_eq]
  generalize (lg_sl ([.ref (ad 0), .int (nI i), .int (nI mm)]) ++ List.replicate (3 - (lg_sl ([.ref (ad 0), .int (nI i), .int (nI mm)])).length) Slot.unset).toArray = ls at hl ⊢
  have hl : lv_has ls 3 [(0, .ref (ad 0)), (1, .int (nI i)), (2, .int (nI mm))] := hl
  have hdb := tt_db_in hg.2.2.2 10 (Nat.le_refl _)
  have hf10 : tt_fst g 10 = 1440 * tt_db (tt_day g) 10 := rfl
  have ev : (nI mm).toInt = mm := nI_toInt (by omega)
  have ei : (nI i).toInt = i := nI_toInt (by omega)
  refine lv_iload_n hx hb d_X_position_0 rfl (lv_at hl 1 rfl) ?_
  refine tq_S ⟨hx, hb, hml, hown, hts⟩ hT (c_X_isConstituent l (nI i)) lk_X_59 wN_mv trivial rfl hl.1 rfl (Nat.le_of_ble_eq_true rfl) d_X_position_1 ⟨rfl, rfl, Nat.le_of_ble_eq_true rfl, Nat.le_of_ble_eq_true rfl⟩ ⟨Nat.zero_le _, Nat.zero_le _⟩ ?_
  refine lv_if_eq hx hb d_X_position_4 (tgt := 15) (by decide) (fun q1 => ?_) (fun q1 => ?_)
  · have q1 := zb_f q1
    exfalso
    omega
  · have q1 := zb_t q1
    refine lv_aload_n hx hb d_X_position_7 rfl (lv_at hl 0 rfl) ?_
    refine lv_iload_n hx hb d_X_position_8 rfl (lv_at hl 2 rfl) ?_
    refine tq_V ⟨hx, hb, hml, hown, hts⟩ hT (c_X_isMinute l D ci ad g tc td tn (nI mm)) lk_X_98 wX_mv ⟨hK, hg, hX⟩ (wX_rc ⟨hK, hg, hX⟩) rfl hl.1 rfl (Nat.le_of_ble_eq_true rfl) d_X_position_9 ⟨rfl, rfl, Nat.le_of_ble_eq_true rfl, Nat.le_of_ble_eq_true rfl⟩ ⟨Nat.zero_le _, Nat.zero_le _⟩ ?_
    refine lv_if_ne hx hb d_X_position_12 (tgt := 25) (by decide) (fun q2 => ?_) (fun q2 => ?_)
    · have q2 := zb_t q2
      refine lv_aload_n hx hb d_X_position_25 rfl (lv_at hl 0 rfl) ?_
      refine lv_iload_n hx hb d_X_position_26 rfl (lv_at hl 1 rfl) ?_
      refine lv_iload_n hx hb d_X_position_27 rfl (lv_at hl 2 rfl) ?_
      refine lv_aload_n hx hb d_X_position_28 rfl (lv_at hl 0 rfl) ?_
      refine lv_iload_n hx hb d_X_position_29 rfl (lv_at hl 2 rfl) ?_
      refine tq_V ⟨hx, hb, hml, hown, hts⟩ hT (c_X_yearOf l D ci ad g tc td tn (mm := mm) (by omega)) lk_X_103 wX_mv ⟨hK, hg, hX⟩ (wX_rc ⟨hK, hg, hX⟩) rfl hl.1 rfl (Nat.le_of_ble_eq_true rfl) d_X_position_30 ⟨rfl, rfl, Nat.le_of_ble_eq_true rfl, Nat.le_of_ble_eq_true rfl⟩ ⟨Nat.zero_le _, Nat.zero_le _⟩ ?_
      refine tq_V ⟨hx, hb, hml, hown, hts⟩ hT (c_X_positionAt l D ci ad g tc td tn (mm := mm) hi (by omega) (tt_yr_lt g mm)) lk_X_109 wX_mv ⟨hK, hg, hX⟩ (wX_rc ⟨hK, hg, hX⟩) rfl hl.1 rfl (Nat.le_of_ble_eq_true rfl) d_X_position_33 ⟨rfl, rfl, Nat.le_of_ble_eq_true rfl, Nat.le_of_ble_eq_true rfl⟩ ⟨Nat.zero_le _, Nat.zero_le _⟩ ?_
      exact W.lret hx hb hr (fun t ht hW => ⟨_, rfl, ⟨rfl, ht⟩⟩) (fun q hq => nomatch hq) d_X_position_36
    · have q2 := zb_f q2
      exfalso
      omega
set_option maxHeartbeats 4000000 in
set_option maxRecDepth 100000 in
theorem x_X_position (l : Launch) (htr : l.stackTraces = false) (D : va_G) (ci : Nat → ClassId) (ad : Nat → Nat) (g : TS) (tc td : Int32) (tn : Nat → Int32) (u v : Int32) (hv0 : ¬ ((0 ≤ u.toInt ∧ u.toInt < 8) ∧ 0 ≤ v.toInt ∧ v.toInt < (tt_fst g 10 : Nat))) : vx_Met l y_X_position (wT y_X_position b_X_position 3 (some .long)) ({ frames := 6, cells := 1, slots := 6, locals := 82 }) (tb (wXE D ci ad g tc td tn) [.ref (ad 0), .int u, .int v]) tw_N (vx_X (fun _ : Unit => True) (fun E _ _ => E = eI) (fun _ => False)) 1 6 tq_n := by
  refine vx_ofW (cc := b_X_position) (maxL := 3) (ret := (some .long)) (by decide) rfl ?_
  intro p e s m args below meth c s₁ B hml hno hv
  obtain ⟨rfl, ⟨hK, hg, hX⟩, hE⟩ := hv
  have hx := B.exec
  have hb := B.bytes
  have hr := B.returns
  have hts := atoms_spec (ws := wT y_X_position b_X_position 3 (some .long)) B.pre
  have hT : ∀ w ∈ TT, w ∈ wT y_X_position b_X_position 3 (some .long) := wT_T
  have hown : s.vm.findClass RX = some m.cls := findClass_of_methodNamed B.named
  have hlocks := B.notSynchronized
  have hl := lv_entry ([.ref (ad 0), .int u, .int v]) (n := 3) (Nat.le_of_ble_eq_true rfl)
  rw [lg_entry_eq]
  generalize (lg_sl ([.ref (ad 0), .int u, .int v]) ++ List.replicate (3 - (lg_sl ([.ref (ad 0), .int u, .int v])).length) Slot.unset).toArray = ls at hl ⊢
  have hl : lv_has ls 3 [(0, .ref (ad 0)), (1, .int u), (2, .int v)] := hl
  refine lv_iload_n hx hb d_X_position_0 rfl (lv_at hl 1 rfl) ?_
  refine tq_S ⟨hx, hb, hml, hown, hts⟩ hT (c_X_isConstituent l u) lk_X_59 wN_mv trivial rfl hl.1 rfl (Nat.le_of_ble_eq_true rfl) d_X_position_1 ⟨rfl, rfl, Nat.le_of_ble_eq_true rfl, Nat.le_of_ble_eq_true rfl⟩ ⟨Nat.zero_le _, Nat.zero_le _⟩ ?_
  refine lv_if_eq hx hb d_X_position_4 (tgt := 15) (by decide) (fun q1 => ?_) (fun q1 => ?_)
  · have q1 := zb_f q1
    exact tw_I hx hb htr hown (fun w h => hts w (hT w h)) hE (fun _ _ _ h => h) (is := 107) (text := "no such constituent or minute") (by decide) va_S.rf (hl.1.trans hml.symm) d_X_position_15 d_X_position_18 d_X_position_19 d_X_position_21 d_X_position_24 hno ⟨by decide, by decide, by decide, by decide⟩ hlocks (fun t ha h1 h2 => ⟨(), trivial, rfl, h1, fun q hq _ => h2 q hq⟩) (fun z hz => nomatch hz) (Nat.le_refl _) (Nat.le_refl _)
  · have q1 := zb_t q1
    refine lv_aload_n hx hb d_X_position_7 rfl (lv_at hl 0 rfl) ?_
    refine lv_iload_n hx hb d_X_position_8 rfl (lv_at hl 2 rfl) ?_
    refine tq_V ⟨hx, hb, hml, hown, hts⟩ hT (c_X_isMinute l D ci ad g tc td tn v) lk_X_98 wX_mv ⟨hK, hg, hX⟩ (wX_rc ⟨hK, hg, hX⟩) rfl hl.1 rfl (Nat.le_of_ble_eq_true rfl) d_X_position_9 ⟨rfl, rfl, Nat.le_of_ble_eq_true rfl, Nat.le_of_ble_eq_true rfl⟩ ⟨Nat.zero_le _, Nat.zero_le _⟩ ?_
    refine lv_if_ne hx hb d_X_position_12 (tgt := 25) (by decide) (fun q2 => ?_) (fun q2 => ?_)
    · have q2 := zb_t q2
      exfalso
      omega
    · have q2 := zb_f q2
      exact tw_I hx hb htr hown (fun w h => hts w (hT w h)) hE (fun _ _ _ h => h) (is := 107) (text := "no such constituent or minute") (by decide) va_S.rf (hl.1.trans hml.symm) d_X_position_15 d_X_position_18 d_X_position_19 d_X_position_21 d_X_position_24 hno ⟨by decide, by decide, by decide, by decide⟩ hlocks (fun t ha h1 h2 => ⟨(), trivial, rfl, h1, fun q hq _ => h2 q hq⟩) (fun z hz => nomatch hz) (Nat.le_refl _) (Nat.le_refl _)
set_option maxHeartbeats 4000000 in
set_option maxRecDepth 100000 in
theorem c_X_cosine (l : Launch) (D : va_G) (ci : Nat → ClassId) (ad : Nat → Nat) (g : TS) (tc td : Int32) (tn : Nat → Int32) {n : Nat} (hn : n < 281474976710656) : Met l y_X_cosine (wT y_X_cosine b_X_cosine 3 (some .int)) (rP 1 34) (tb (wX D ci ad g tc td tn) [.ref (ad 0), .long (lN n)]) (tq_P (some (.int (iZ (tt_cos n))))) 0 0 tq_n := by
  refine Met.ofW (cc := b_X_cosine) (maxL := 3) (ret := (some .int)) (by decide) rfl ?_
  intro p e s m args below meth c s₁ B hml hv
  obtain ⟨rfl, hK, hg, hX⟩ := hv
  have hx := B.exec
  have hb := B.bytes
  have hr := B.returns
  have hts := atoms_spec (ws := wT y_X_cosine b_X_cosine 3 (some .int)) B.pre
  have hT : ∀ w ∈ TT, w ∈ wT y_X_cosine b_X_cosine 3 (some .int) := wT_T
  have hown : s.vm.findClass RX = some m.cls := findClass_of_methodNamed B.named
  have hlocks := B.notSynchronized
  have hl := lv_entry ([.ref (ad 0), .long (lN n)]) (n := 3) (Nat.le_of_ble_eq_true rfl)
  rw [lg_entry_eq]
  generalize (lg_sl ([.ref (ad 0), .long (lN n)]) ++ List.replicate (3 - (lg_sl ([.ref (ad 0), .long (lN n)])).length) Slot.unset).toArray = ls at hl ⊢
  have hl : lv_has ls 3 [(0, .ref (ad 0)), (1, .long (lN n))] := hl
  have ev : (lN n).toInt = n := pk_lT (by omega)
  refine lv_lload_n hx hb d_X_cosine_0 rfl (lv_at hl 1 rfl) ?_
  refine tq_S ⟨hx, hb, hml, hown, hts⟩ hT (c_X_isPosition l (lN n)) lk_X_75 wN_mv trivial rfl hl.1 rfl (Nat.le_of_ble_eq_true rfl) d_X_cosine_1 ⟨rfl, rfl, Nat.le_of_ble_eq_true rfl, Nat.le_of_ble_eq_true rfl⟩ ⟨Nat.zero_le _, Nat.zero_le _⟩ ?_
  refine lv_if_ne hx hb d_X_cosine_4 (tgt := 17) (by decide) (fun q1 => ?_) (fun q1 => ?_)
  · have q1 := zb_t q1
    refine lv_lload_n hx hb d_X_cosine_17 rfl (lv_at hl 1 rfl) ?_
    refine tq_S ⟨hx, hb, hml, hown, hts⟩ hT (c_X_cosineOf l hn) lk_X_115 wN_mv trivial rfl hl.1 rfl (Nat.le_of_ble_eq_true rfl) d_X_cosine_18 ⟨rfl, rfl, Nat.le_of_ble_eq_true rfl, Nat.le_of_ble_eq_true rfl⟩ ⟨Nat.zero_le _, Nat.zero_le _⟩ ?_
    exact W.iret hx hb hr (fun t ht hW => ⟨_, rfl, ⟨rfl, ht⟩⟩) (fun q hq => nomatch hq) d_X_cosine_21
  · have q1 := zb_f q1
    exfalso
    omega
set_option maxHeartbeats 4000000 in
set_option maxRecDepth 100000 in
theorem x_X_cosine (l : Launch) (htr : l.stackTraces = false) (D : va_G) (ci : Nat → ClassId) (ad : Nat → Nat) (g : TS) (tc td : Int32) (tn : Nat → Int32) (v : Int64) (hv0 : ¬ (0 ≤ v.toInt ∧ v.toInt < 281474976710656)) : vx_Met l y_X_cosine (wT y_X_cosine b_X_cosine 3 (some .int)) ({ frames := 6, cells := 1, slots := 6, locals := 82 }) (tb (wXE D ci ad g tc td tn) [.ref (ad 0), .long v]) tw_N (vx_X (fun _ : Unit => True) (fun E _ _ => E = eA) (fun _ => False)) 1 6 tq_n := by
  refine vx_ofW (cc := b_X_cosine) (maxL := 3) (ret := (some .int)) (by decide) rfl ?_
  intro p e s m args below meth c s₁ B hml hno hv
  obtain ⟨rfl, ⟨hK, hg, hX⟩, hE⟩ := hv
  have hx := B.exec
  have hb := B.bytes
  have hr := B.returns
  have hts := atoms_spec (ws := wT y_X_cosine b_X_cosine 3 (some .int)) B.pre
  have hT : ∀ w ∈ TT, w ∈ wT y_X_cosine b_X_cosine 3 (some .int) := wT_T
  have hown : s.vm.findClass RX = some m.cls := findClass_of_methodNamed B.named
  have hlocks := B.notSynchronized
  have hl := lv_entry ([.ref (ad 0), .long v]) (n := 3) (Nat.le_of_ble_eq_true rfl)
  rw [lg_entry_eq]
  generalize (lg_sl ([.ref (ad 0), .long v]) ++ List.replicate (3 - (lg_sl ([.ref (ad 0), .long v])).length) Slot.unset).toArray = ls at hl ⊢
  have hl : lv_has ls 3 [(0, .ref (ad 0)), (1, .long v)] := hl
  refine lv_lload_n hx hb d_X_cosine_0 rfl (lv_at hl 1 rfl) ?_
  refine tq_S ⟨hx, hb, hml, hown, hts⟩ hT (c_X_isPosition l v) lk_X_75 wN_mv trivial rfl hl.1 rfl (Nat.le_of_ble_eq_true rfl) d_X_cosine_1 ⟨rfl, rfl, Nat.le_of_ble_eq_true rfl, Nat.le_of_ble_eq_true rfl⟩ ⟨Nat.zero_le _, Nat.zero_le _⟩ ?_
  refine lv_if_ne hx hb d_X_cosine_4 (tgt := 17) (by decide) (fun q1 => ?_) (fun q1 => ?_)
  · have q1 := zb_t q1
    exfalso
    omega
  · have q1 := zb_f q1
    exact tw_A hx hb htr hown (fun w h => hts w (hT w h)) hE (fun _ _ _ h => h) (is := 113) (text := "no such position") (by decide) va_S.rf (hl.1.trans hml.symm) d_X_cosine_7 d_X_cosine_10 d_X_cosine_11 d_X_cosine_13 d_X_cosine_16 hno ⟨by decide, by decide, by decide, by decide⟩ hlocks (fun t ha h1 h2 => ⟨(), trivial, rfl, h1, fun q hq _ => h2 q hq⟩) (fun z hz => nomatch hz) (Nat.le_refl _) (Nat.le_refl _)
set_option maxHeartbeats 4000000 in
set_option maxRecDepth 100000 in
theorem c_X_height (l : Launch) (D : va_G) (ci : Nat → ClassId) (ad : Nat → Nat) (g : TS) (tc td : Int32) (tn : Nat → Int32) {mm : Nat} (hm : mm < tt_fst g 10) : Met l y_X_height (wT y_X_height b_X_height 2 (some .int)) (rP 3 84) (tb (wX D ci ad g tc td tn) [.ref (ad 0), .int (nI mm)]) (tq_P (some (.int (iZ (tt_hgt g mm))))) 0 0 tq_n := by
  refine Met.ofW (cc := b_X_height) (maxL := 2) (ret := (some .int)) (by decide) rfl ?_
  intro p e s m args below meth c s₁ B hml hv
  obtain ⟨rfl, hK, hg, hX⟩ := hv
  have hx := B.exec
  have hb := B.bytes
  have hr := B.returns
  have hts := atoms_spec (ws := wT y_X_height b_X_height 2 (some .int)) B.pre
  have hT : ∀ w ∈ TT, w ∈ wT y_X_height b_X_height 2 (some .int) := wT_T
  have hown : s.vm.findClass RX = some m.cls := findClass_of_methodNamed B.named
  have hlocks := B.notSynchronized
  have hl := lv_entry ([.ref (ad 0), .int (nI mm)]) (n := 2) (Nat.le_of_ble_eq_true rfl)
  rw [lg_entry_eq]
  generalize (lg_sl ([.ref (ad 0), .int (nI mm)]) ++ List.replicate (2 - (lg_sl ([.ref (ad 0), .int (nI mm)])).length) Slot.unset).toArray = ls at hl ⊢
  have hl : lv_has ls 2 [(0, .ref (ad 0)), (1, .int (nI mm))] := hl
  have hdb := tt_db_in hg.2.2.2 10 (Nat.le_refl _)
  have hf10 : tt_fst g 10 = 1440 * tt_db (tt_day g) 10 := rfl
  have ev : (nI mm).toInt = mm := nI_toInt (by omega)
  refine lv_aload_n hx hb d_X_height_0 rfl (lv_at hl 0 rfl) ?_
  refine lv_iload_n hx hb d_X_height_1 rfl (lv_at hl 1 rfl) ?_
  refine tq_V ⟨hx, hb, hml, hown, hts⟩ hT (c_X_isMinute l D ci ad g tc td tn (nI mm)) lk_X_98 wX_mv ⟨hK, hg, hX⟩ (wX_rc ⟨hK, hg, hX⟩) rfl hl.1 rfl (Nat.le_of_ble_eq_true rfl) d_X_height_2 ⟨rfl, rfl, Nat.le_of_ble_eq_true rfl, Nat.le_of_ble_eq_true rfl⟩ ⟨Nat.zero_le _, Nat.zero_le _⟩ ?_
  refine lv_if_ne hx hb d_X_height_5 (tgt := 18) (by decide) (fun q1 => ?_) (fun q1 => ?_)
  · have q1 := zb_t q1
    refine lv_aload_n hx hb d_X_height_18 rfl (lv_at hl 0 rfl) ?_
    refine lv_iload_n hx hb d_X_height_19 rfl (lv_at hl 1 rfl) ?_
    refine tq_V ⟨hx, hb, hml, hown, hts⟩ hT (c_X_heightAt l D ci ad g tc td tn (mm := mm) (by omega)) lk_X_119 wX_mv ⟨hK, hg, hX⟩ (wX_rc ⟨hK, hg, hX⟩) rfl hl.1 rfl (Nat.le_of_ble_eq_true rfl) d_X_height_20 ⟨rfl, rfl, Nat.le_of_ble_eq_true rfl, Nat.le_of_ble_eq_true rfl⟩ ⟨Nat.zero_le _, Nat.zero_le _⟩ ?_
    exact W.iret hx hb hr (fun t ht hW => ⟨_, rfl, ⟨rfl, ht⟩⟩) (fun q hq => nomatch hq) d_X_height_23
  · have q1 := zb_f q1
    exfalso
    omega
set_option maxHeartbeats 4000000 in
set_option maxRecDepth 100000 in
theorem x_X_height (l : Launch) (htr : l.stackTraces = false) (D : va_G) (ci : Nat → ClassId) (ad : Nat → Nat) (g : TS) (tc td : Int32) (tn : Nat → Int32) (v : Int32) (hv0 : ¬ (0 ≤ v.toInt ∧ v.toInt < (tt_fst g 10 : Nat))) : vx_Met l y_X_height (wT y_X_height b_X_height 2 (some .int)) ({ frames := 6, cells := 1, slots := 6, locals := 82 }) (tb (wXE D ci ad g tc td tn) [.ref (ad 0), .int v]) tw_N (vx_X (fun _ : Unit => True) (fun E _ _ => E = eI) (fun _ => False)) 1 6 tq_n := by
  refine vx_ofW (cc := b_X_height) (maxL := 2) (ret := (some .int)) (by decide) rfl ?_
  intro p e s m args below meth c s₁ B hml hno hv
  obtain ⟨rfl, ⟨hK, hg, hX⟩, hE⟩ := hv
  have hx := B.exec
  have hb := B.bytes
  have hr := B.returns
  have hts := atoms_spec (ws := wT y_X_height b_X_height 2 (some .int)) B.pre
  have hT : ∀ w ∈ TT, w ∈ wT y_X_height b_X_height 2 (some .int) := wT_T
  have hown : s.vm.findClass RX = some m.cls := findClass_of_methodNamed B.named
  have hlocks := B.notSynchronized
  have hl := lv_entry ([.ref (ad 0), .int v]) (n := 2) (Nat.le_of_ble_eq_true rfl)
  rw [lg_entry_eq]
  generalize (lg_sl ([.ref (ad 0), .int v]) ++ List.replicate (2 - (lg_sl ([.ref (ad 0), .int v])).length) Slot.unset).toArray = ls at hl ⊢
  have hl : lv_has ls 2 [(0, .ref (ad 0)), (1, .int v)] := hl
  refine lv_aload_n hx hb d_X_height_0 rfl (lv_at hl 0 rfl) ?_
  refine lv_iload_n hx hb d_X_height_1 rfl (lv_at hl 1 rfl) ?_
  refine tq_V ⟨hx, hb, hml, hown, hts⟩ hT (c_X_isMinute l D ci ad g tc td tn v) lk_X_98 wX_mv ⟨hK, hg, hX⟩ (wX_rc ⟨hK, hg, hX⟩) rfl hl.1 rfl (Nat.le_of_ble_eq_true rfl) d_X_height_2 ⟨rfl, rfl, Nat.le_of_ble_eq_true rfl, Nat.le_of_ble_eq_true rfl⟩ ⟨Nat.zero_le _, Nat.zero_le _⟩ ?_
  refine lv_if_ne hx hb d_X_height_5 (tgt := 18) (by decide) (fun q1 => ?_) (fun q1 => ?_)
  · have q1 := zb_t q1
    exfalso
    omega
  · have q1 := zb_f q1
    exact tw_I hx hb htr hown (fun w h => hts w (hT w h)) hE (fun _ _ _ h => h) (is := 101) (text := "no such minute") (by decide) va_S.rf (hl.1.trans hml.symm) d_X_height_8 d_X_height_11 d_X_height_12 d_X_height_14 d_X_height_17 hno ⟨by decide, by decide, by decide, by decide⟩ hlocks (fun t ha h1 h2 => ⟨(), trivial, rfl, h1, fun q hq _ => h2 q hq⟩) (fun z hz => nomatch hz) (Nat.le_refl _) (Nat.le_refl _)
