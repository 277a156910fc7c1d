/-! the class's leaves: what they answer. Written by wip/whole/gen.py -/
def zb (c : Prop) [Decidable c] : Int32 := if c then 1 else 0
theorem zb_1 {c : Prop} [Decidable c] (h : c) : some (Value.int 1) = some (Value.int (zb c)) := by rw [zb, if_pos h]
theorem zb_0 {c : Prop} [Decidable c] (h : ¬ c) : some (Value.int 0) = some (Value.int (zb c)) := by rw [zb, if_neg h]
theorem iv_lt0 {v : Int32} : v < 0 ↔ v.toInt < 0 := by rw [Int32.lt_iff_toInt_lt, Int32.toInt_zero]
theorem iv_le {v : Int32} {n : Nat} (h : n < 2 ^ 31) : nI n ≤ v ↔ (n : Int) ≤ v.toInt := by rw [Int32.le_iff_toInt_le, nI_toInt h]
theorem lv_lt0 {x : Int64} : lg_cmp x (lN 0) < 0 ↔ x.toInt < 0 := by rw [lg_cmp_lt, Int64.lt_iff_toInt_lt]; rfl
theorem lv_geN {x : Int64} {n : Nat} (h : n < 2 ^ 63) : 0 ≤ lg_cmp x (lN n) ↔ (n : Int) ≤ x.toInt := by rw [lg_cmp_ge, Int64.le_iff_toInt_le, pk_lT h]
set_option maxHeartbeats 4000000 in
set_option maxRecDepth 100000 in
theorem c_X_isConstituent (l : Launch) (v : Int32) : Met l y_X_isConstituent (wT y_X_isConstituent b_X_isConstituent 1 (some .boolean)) (rP 0 0) (tb (wN) [.int v]) (tq_P (some (.int (zb (0 ≤ v.toInt ∧ v.toInt < 8))))) 0 0 tq_n := by
  refine Met.ofW (cc := b_X_isConstituent) (maxL := 1) (ret := (some .boolean)) (by decide) rfl ?_
  intro p e s m args below meth c s₁ B hml hv
  obtain ⟨rfl, hv⟩ := hv
  have hx := B.exec
  have hb := B.bytes
  have hr := B.returns
  have hts := atoms_spec (ws := wT y_X_isConstituent b_X_isConstituent 1 (some .boolean)) B.pre
  have hT : ∀ w ∈ TT, w ∈ wT y_X_isConstituent b_X_isConstituent 1 (some .boolean) := wT_T
  have hown : s.vm.findClass RX = some m.cls := findClass_of_methodNamed B.named
  have hlocks := B.notSynchronized
  have hl := lv_entry ([.int v]) (n := 1) (Nat.le_of_ble_eq_true rfl)
  rw [lg_entry_eq]
  generalize (lg_sl ([.int v]) ++ List.replicate (1 - (lg_sl ([.int v])).length) Slot.unset).toArray = ls at hl ⊢
  have hl : lv_has ls 1 [(0, .int v)] := hl
  refine lv_iload_n hx hb d_X_isConstituent_0 rfl (lv_at hl 0 rfl) ?_
  refine lv_if_lt hx hb d_X_isConstituent_1 (tgt := 14) (by decide) (fun h1 => ?_) (fun h1 => ?_)
  · have h1 := iv_lt0.mp h1
    refine lv_iconst hx hb d_X_isConstituent_14 (v := (nI 0)) rfl ?_
    exact W.zret hx hb hr narrow_b0 (fun t ht hW => ⟨_, rfl, ⟨zb_0 (by omega), ht⟩⟩) (fun q hq => nomatch hq) d_X_isConstituent_15
  · have h1 := mt iv_lt0.mpr h1
    refine lv_iload_n hx hb d_X_isConstituent_4 rfl (lv_at hl 0 rfl) ?_
    refine lv_bipush hx hb d_X_isConstituent_5 (v := (nI 8)) rfl ?_
    refine lv_icmp_ge hx hb d_X_isConstituent_7 (tgt := 14) (by decide) (fun h2 => ?_) (fun h2 => ?_)
    · have h2 := (iv_le (by decide)).mp h2
      refine lv_iconst hx hb d_X_isConstituent_14 (v := (nI 0)) rfl ?_
      exact W.zret hx hb hr narrow_b0 (fun t ht hW => ⟨_, rfl, ⟨zb_0 (by omega), ht⟩⟩) (fun q hq => nomatch hq) d_X_isConstituent_15
    · have h2 := mt (iv_le (by decide)).mpr h2
      refine lv_iconst hx hb d_X_isConstituent_10 (v := (nI 1)) rfl ?_
      refine lv_goto hx hb d_X_isConstituent_11 (tgt := 15) (by decide) ?_
      exact W.zret hx hb hr narrow_b1 (fun t ht hW => ⟨_, rfl, ⟨zb_1 (by omega), ht⟩⟩) (fun q hq => nomatch hq) d_X_isConstituent_15
set_option maxHeartbeats 4000000 in
set_option maxRecDepth 100000 in
theorem c_X_isYear (l : Launch) (v : Int32) : Met l y_X_isYear (wT y_X_isYear b_X_isYear 1 (some .boolean)) (rP 0 0) (tb (wN) [.int v]) (tq_P (some (.int (zb (0 ≤ v.toInt ∧ v.toInt < 10))))) 0 0 tq_n := by
  refine Met.ofW (cc := b_X_isYear) (maxL := 1) (ret := (some .boolean)) (by decide) rfl ?_
  intro p e s m args below meth c s₁ B hml hv
  obtain ⟨rfl, hv⟩ := hv
  have hx := B.exec
  have hb := B.bytes
  have hr := B.returns
  have hts := atoms_spec (ws := wT y_X_isYear b_X_isYear 1 (some .boolean)) B.pre
  have hT : ∀ w ∈ TT, w ∈ wT y_X_isYear b_X_isYear 1 (some .boolean) := wT_T
  have hown : s.vm.findClass RX = some m.cls := findClass_of_methodNamed B.named
  have hlocks := B.notSynchronized
  have hl := lv_entry ([.int v]) (n := 1) (Nat.le_of_ble_eq_true rfl)
  rw [lg_entry_eq]
  generalize (lg_sl ([.int v]) ++ List.replicate (1 - (lg_sl ([.int v])).length) Slot.unset).toArray = ls at hl ⊢
  have hl : lv_has ls 1 [(0, .int v)] := hl
  refine lv_iload_n hx hb d_X_isYear_0 rfl (lv_at hl 0 rfl) ?_
  refine lv_if_lt hx hb d_X_isYear_1 (tgt := 14) (by decide) (fun h1 => ?_) (fun h1 => ?_)
  · have h1 := iv_lt0.mp h1
    refine lv_iconst hx hb d_X_isYear_14 (v := (nI 0)) rfl ?_
    exact W.zret hx hb hr narrow_b0 (fun t ht hW => ⟨_, rfl, ⟨zb_0 (by omega), ht⟩⟩) (fun q hq => nomatch hq) d_X_isYear_15
  · have h1 := mt iv_lt0.mpr h1
    refine lv_iload_n hx hb d_X_isYear_4 rfl (lv_at hl 0 rfl) ?_
    refine lv_bipush hx hb d_X_isYear_5 (v := (nI 10)) rfl ?_
    refine lv_icmp_ge hx hb d_X_isYear_7 (tgt := 14) (by decide) (fun h2 => ?_) (fun h2 => ?_)
    · have h2 := (iv_le (by decide)).mp h2
      refine lv_iconst hx hb d_X_isYear_14 (v := (nI 0)) rfl ?_
      exact W.zret hx hb hr narrow_b0 (fun t ht hW => ⟨_, rfl, ⟨zb_0 (by omega), ht⟩⟩) (fun q hq => nomatch hq) d_X_isYear_15
    · have h2 := mt (iv_le (by decide)).mpr h2
      refine lv_iconst hx hb d_X_isYear_10 (v := (nI 1)) rfl ?_
      refine lv_goto hx hb d_X_isYear_11 (tgt := 15) (by decide) ?_
      exact W.zret hx hb hr narrow_b1 (fun t ht hW => ⟨_, rfl, ⟨zb_1 (by omega), ht⟩⟩) (fun q hq => nomatch hq) d_X_isYear_15
set_option maxHeartbeats 4000000 in
set_option maxRecDepth 100000 in
theorem c_X_isPosition (l : Launch) (v : Int64) : Met l y_X_isPosition (wT y_X_isPosition b_X_isPosition 2 (some .boolean)) (rP 0 0) (tb (wN) [.long v]) (tq_P (some (.int (zb (0 ≤ v.toInt ∧ v.toInt < 281474976710656))))) 0 0 tq_n := by
  refine Met.ofW (cc := b_X_isPosition) (maxL := 2) (ret := (some .boolean)) (by decide) rfl ?_
  intro p e s m args below meth c s₁ B hml hv
  obtain ⟨rfl, hv⟩ := hv
  have hx := B.exec
  have hb := B.bytes
  have hr := B.returns
  have hts := atoms_spec (ws := wT y_X_isPosition b_X_isPosition 2 (some .boolean)) B.pre
  have hT : ∀ w ∈ TT, w ∈ wT y_X_isPosition b_X_isPosition 2 (some .boolean) := wT_T
  have hown : s.vm.findClass RX = some m.cls := findClass_of_methodNamed B.named
  have hlocks := B.notSynchronized
  have hl := lv_entry ([.long v]) (n := 2) (Nat.le_of_ble_eq_true rfl)
  rw [lg_entry_eq]
  generalize (lg_sl ([.long v]) ++ List.replicate (2 - (lg_sl ([.long v])).length) Slot.unset).toArray = ls at hl ⊢
  have hl : lv_has ls 2 [(0, .long v)] := hl
  refine lv_lload_n hx hb d_X_isPosition_0 rfl (lv_at hl 0 rfl) ?_
  refine lv_lconst hx hb d_X_isPosition_1 (v := (lN 0)) rfl ?_
  refine W.lcmp hx hb d_X_isPosition_2 ?_
  refine lv_if_lt hx hb d_X_isPosition_3 (tgt := 18) (by decide) (fun h1 => ?_) (fun h1 => ?_)
  · have h1 := lv_lt0.mp h1
    refine lv_iconst hx hb d_X_isPosition_18 (v := (nI 0)) rfl ?_
    exact W.zret hx hb hr narrow_b0 (fun t ht hW => ⟨_, rfl, ⟨zb_0 (by omega), ht⟩⟩) (fun q hq => nomatch hq) d_X_isPosition_19
  · have h1 := mt lv_lt0.mpr h1
    refine lv_lload_n hx hb d_X_isPosition_6 rfl (lv_at hl 0 rfl) ?_
    refine lv_ldc2 hx hb (v := (lN 281474976710656)) hown (hts _ (hT _ k_X_171)) d_X_isPosition_7 ?_
    refine W.lcmp hx hb d_X_isPosition_10 ?_
    refine lv_if_ge hx hb d_X_isPosition_11 (tgt := 18) (by decide) (fun h2 => ?_) (fun h2 => ?_)
    · have h2 := (lv_geN (by decide)).mp h2
      refine lv_iconst hx hb d_X_isPosition_18 (v := (nI 0)) rfl ?_
      exact W.zret hx hb hr narrow_b0 (fun t ht hW => ⟨_, rfl, ⟨zb_0 (by omega), ht⟩⟩) (fun q hq => nomatch hq) d_X_isPosition_19
    · have h2 := mt (lv_geN (by decide)).mpr h2
      refine lv_iconst hx hb d_X_isPosition_14 (v := (nI 1)) rfl ?_
      refine lv_goto hx hb d_X_isPosition_15 (tgt := 19) (by decide) ?_
      exact W.zret hx hb hr narrow_b1 (fun t ht hW => ⟨_, rfl, ⟨zb_1 (by omega), ht⟩⟩) (fun q hq => nomatch hq) d_X_isPosition_19
set_option maxHeartbeats 4000000 in
set_option maxRecDepth 100000 in
theorem c_X_isMinute (l : Launch) (D : va_G) (ci : Nat → ClassId) (ad : Nat → Nat) (g : TS) (tc td : Int32) (tn : Nat → Int32) (v : Int32) : Met l y_X_isMinute (wT y_X_isMinute b_X_isMinute 2 (some .boolean)) (rP 0 0) (tb (wX D ci ad g tc td tn) [.ref (ad 0), .int v]) (tq_P (some (.int (zb (0 ≤ v.toInt ∧ v.toInt < (tt_fst g 10 : Nat)))))) 0 0 tq_n := by
  refine Met.ofW (cc := b_X_isMinute) (maxL := 2) (ret := (some .boolean)) (by decide) rfl ?_
  intro p e s m args below meth c s₁ B hml hv
  obtain ⟨rfl, hK, hg, hX⟩ := hv
  have hx := B.exec
  have hb := B.bytes
  have hr := B.returns
  have hts := atoms_spec (ws := wT y_X_isMinute b_X_isMinute 2 (some .boolean)) B.pre
  have hT : ∀ w ∈ TT, w ∈ wT y_X_isMinute b_X_isMinute 2 (some .boolean) := wT_T
  have hown : s.vm.findClass RX = some m.cls := findClass_of_methodNamed B.named
  have hlocks := B.notSynchronized
  have hl := lv_entry ([.ref (ad 0), .int v]) (n := 2) (Nat.le_of_ble_eq_true rfl)
  rw [lg_entry_eq]
  generalize (lg_sl ([.ref (ad 0), .int v]) ++ List.replicate (2 - (lg_sl ([.ref (ad 0), .int v])).length) Slot.unset).toArray = ls at hl ⊢
  have hl : lv_has ls 2 [(0, .ref (ad 0)), (1, .int v)] := hl
  have hdb := tt_db_in hg.2.2.2 10 (Nat.le_refl _)
  refine lv_iload_n hx hb d_X_isMinute_0 rfl (lv_at hl 1 rfl) ?_
  refine lv_if_lt hx hb d_X_isMinute_1 (tgt := 19) (by decide) (fun h1 => ?_) (fun h1 => ?_)
  · have h1 := iv_lt0.mp h1
    refine lv_iconst hx hb d_X_isMinute_19 (v := (nI 0)) rfl ?_
    exact W.zret hx hb hr narrow_b0 (fun t ht hW => ⟨_, rfl, ⟨zb_0 (by omega), ht⟩⟩) (fun q hq => nomatch hq) d_X_isMinute_20
  · have h1 := mt iv_lt0.mpr h1
    refine lv_iload_n hx hb d_X_isMinute_4 rfl (lv_at hl 1 rfl) ?_
    refine lv_aload_n hx hb d_X_isMinute_5 rfl (lv_at hl 0 rfl) ?_
    refine va_get hx hb hts (fun w h => hT w (uX_in w h)) hown hK hX.1 0 rfl rfl 6 (by decide) (hts _ (hT _ k_X_30)) (fun _ h => h) rfl d_X_isMinute_6 ?_
    refine lv_bipush hx hb d_X_isMinute_9 (v := (nI 10)) rfl ?_
    refine tq_iald hx hb hK hX.1 6 0 rfl rfl (by decide) (by decide) d_X_isMinute_11 ?_
    refine lv_icmp_ge hx hb d_X_isMinute_12 (tgt := 19) (by decide) (fun h2 => ?_) (fun h2 => ?_)
    · have h2 := (iv_le (by unfold tt_fst; omega)).mp h2
      refine lv_iconst hx hb d_X_isMinute_19 (v := (nI 0)) rfl ?_
      exact W.zret hx hb hr narrow_b0 (fun t ht hW => ⟨_, rfl, ⟨zb_0 (by omega), ht⟩⟩) (fun q hq => nomatch hq) d_X_isMinute_20
    · have h2 := mt (iv_le (by unfold tt_fst; omega)).mpr h2
      refine lv_iconst hx hb d_X_isMinute_15 (v := (nI 1)) rfl ?_
      refine lv_goto hx hb d_X_isMinute_16 (tgt := 20) (by decide) ?_
      exact W.zret hx hb hr narrow_b1 (fun t ht hW => ⟨_, rfl, ⟨zb_1 (by omega), ht⟩⟩) (fun q hq => nomatch hq) d_X_isMinute_20
set_option maxHeartbeats 4000000 in
set_option maxRecDepth 100000 in
theorem c_X_isDay (l : Launch) (D : va_G) (ci : Nat → ClassId) (ad : Nat → Nat) (g : TS) (tc td : Int32) (tn : Nat → Int32) (v : Int32) : Met l y_X_isDay (wT y_X_isDay b_X_isDay 2 (some .boolean)) (rP 0 0) (tb (wX D ci ad g tc td tn) [.ref (ad 0), .int v]) (tq_P (some (.int (zb (0 ≤ v.toInt ∧ v.toInt < (tt_db (tt_day g) 10 : Nat)))))) 0 0 tq_n := by
  refine Met.ofW (cc := b_X_isDay) (maxL := 2) (ret := (some .boolean)) (by decide) rfl ?_
  intro p e s m args below meth c s₁ B hml hv
  obtain ⟨rfl, hK, hg, hX⟩ := hv
  have hx := B.exec
  have hb := B.bytes
  have hr := B.returns
  have hts := atoms_spec (ws := wT y_X_isDay b_X_isDay 2 (some .boolean)) B.pre
  have hT : ∀ w ∈ TT, w ∈ wT y_X_isDay b_X_isDay 2 (some .boolean) := wT_T
  have hown : s.vm.findClass RX = some m.cls := findClass_of_methodNamed B.named
  have hlocks := B.notSynchronized
  have hl := lv_entry ([.ref (ad 0), .int v]) (n := 2) (Nat.le_of_ble_eq_true rfl)
  rw [lg_entry_eq]
  generalize (lg_sl ([.ref (ad 0), .int v]) ++ List.replicate (2 - (lg_sl ([.ref (ad 0), .int v])).length) Slot.unset).toArray = ls at hl ⊢
  have hl : lv_has ls 2 [(0, .ref (ad 0)), (1, .int v)] := hl
  have hdb := tt_db_in hg.2.2.2 10 (Nat.le_refl _)
  refine lv_iload_n hx hb d_X_isDay_0 rfl (lv_at hl 1 rfl) ?_
  refine lv_if_lt hx hb d_X_isDay_1 (tgt := 23) (by decide) (fun h1 => ?_) (fun h1 => ?_)
  · have h1 := iv_lt0.mp h1
    refine lv_iconst hx hb d_X_isDay_23 (v := (nI 0)) rfl ?_
    exact W.zret hx hb hr narrow_b0 (fun t ht hW => ⟨_, rfl, ⟨zb_0 (by omega), ht⟩⟩) (fun q hq => nomatch hq) d_X_isDay_24
  · have h1 := mt iv_lt0.mpr h1
    refine lv_iload_n hx hb d_X_isDay_4 rfl (lv_at hl 1 rfl) ?_
    refine lv_aload_n hx hb d_X_isDay_5 rfl (lv_at hl 0 rfl) ?_
    refine va_get hx hb hts (fun w h => hT w (uX_in w h)) hown hK hX.1 0 rfl rfl 6 (by decide) (hts _ (hT _ k_X_30)) (fun _ h => h) rfl d_X_isDay_6 ?_
    refine lv_bipush hx hb d_X_isDay_9 (v := (nI 10)) rfl ?_
    refine tq_iald hx hb hK hX.1 6 0 rfl rfl (by decide) (by decide) d_X_isDay_11 ?_
    refine lv_sipush hx hb d_X_isDay_12 (v := (nI 1440)) rfl ?_
    refine lv_idiv hx hb d_X_isDay_15 (by decide) ?_
    refine tq_ti (show _ = (nI (tt_db (tt_day g) 10)) from (by rw [pk_div (by unfold tt_fst; omega) (by decide) (by decide)]; congr 1; unfold tt_fst; omega)) ?_
    refine lv_icmp_ge hx hb d_X_isDay_16 (tgt := 23) (by decide) (fun h2 => ?_) (fun h2 => ?_)
    · have h2 := (iv_le (by omega)).mp h2
      refine lv_iconst hx hb d_X_isDay_23 (v := (nI 0)) rfl ?_
      exact W.zret hx hb hr narrow_b0 (fun t ht hW => ⟨_, rfl, ⟨zb_0 (by omega), ht⟩⟩) (fun q hq => nomatch hq) d_X_isDay_24
    · have h2 := mt (iv_le (by omega)).mpr h2
      refine lv_iconst hx hb d_X_isDay_19 (v := (nI 1)) rfl ?_
      refine lv_goto hx hb d_X_isDay_20 (tgt := 24) (by decide) ?_
      exact W.zret hx hb hr narrow_b1 (fun t ht hW => ⟨_, rfl, ⟨zb_1 (by omega), ht⟩⟩) (fun q hq => nomatch hq) d_X_isDay_24
