/-! the class's heights. Written by wip/whole/gen.py -/
section G13
variable {p : Program} {l : Launch} {e : Env} {R : Room} {s : State} {m : MethodId} {args : Array Value} {below : List Frame} {meth : Method} {c : Code} {H : Heap} {locs : List Loc} {cells slots : Nat} {Q : State → Prop} {Ts : List Cond}
variable {D : va_G} {ci : Nat → ClassId} {ad : Nat → Nat} {g : TS} {tc td : Int32} {tn : Nat → Int32}
set_option maxHeartbeats 4000000 in
set_option maxRecDepth 100000 in
theorem l_X_yearOf (hx : p.tables.exec = Jvm.exec) (hb : c.code = b_X_yearOf) (hts : ∀ w ∈ Ts, w.before args s = true) (hT : ∀ w ∈ TT, w ∈ Ts) (hown : s.vm.findClass RX = some m.cls) (hK : tk D ci s) (hg : tt_ok g) (hX : tx D ci ad g tc td tn H) {mm : Nat} (hmm : mm < 2147483648)
    (kk : ∀ (ls : Array Slot), lv_has ls 3 [(2, .int (nI (tt_yr g mm))), (0, .ref (ad 0)), (1, .int (nI mm))] → W p l e R s m args below meth c H locs cells slots Q (F0 m 26 ls [])) :
    ∀ (n y : Nat) (ls : Array Slot), y + n = 9 → tt_fst g y ≤ mm → lv_has ls 3 [(2, .int (nI y)), (0, .ref (ad 0)), (1, .int (nI mm))] → W p l e R s m args below meth c H locs cells slots Q (F0 m 2 ls []) := by
  intro n
  induction n with
  | zero =>
    intro y ls hy hf hl
    obtain rfl : y = 9 := by omega
    refine lv_iload_n hx hb d_X_yearOf_2 rfl (lv_at hl 0 rfl) ?_
    refine lv_bipush hx hb d_X_yearOf_3 (v := (nI 9)) rfl ?_
    refine lv_icmp_ge hx hb d_X_yearOf_5 (tgt := 26) (by decide) (fun _ => ?_) (fun hno => absurd (nI_le (Nat.le_refl 9) (by decide)) hno)
    rw [← tt_yr_is (g := g) (m := mm) (y := 9) (by decide) hf (fun h => absurd h (by decide))] at hl
    exact kk ls hl
  | succ n ih =>
    intro y ls hy hf hl
    have hf1 : tt_fst g (y + 1) < 2147483648 := by
      have h9 := (tt_db_in hg.2.2.2 (y + 1) (by omega)).2
      unfold tt_fst
      omega
    refine lv_iload_n hx hb d_X_yearOf_2 rfl (lv_at hl 0 rfl) ?_
    refine lv_bipush hx hb d_X_yearOf_3 (v := (nI 9)) rfl ?_
    refine lv_icmp_ge hx hb d_X_yearOf_5 (tgt := 26) (by decide) (fun hyes => absurd hyes (nI_ge (show y < 9 by omega) (by decide))) (fun _ => ?_)
    refine lv_iload_n hx hb d_X_yearOf_8 rfl (lv_at hl 2 rfl) ?_
    refine lv_aload_n hx hb d_X_yearOf_9 rfl (lv_at hl 1 rfl) ?_
    refine va_get hx hb hts (fun w h => hT w (uX_in w h)) hown hK hX.1 0 rfl rfl 6 (by decide) (hts _ (hT _ k_X_30)) (fun _ h => h) rfl d_X_yearOf_10 ?_
    refine lv_iload_n hx hb d_X_yearOf_13 rfl (lv_at hl 0 rfl) ?_
    refine lv_iconst hx hb d_X_yearOf_14 (v := (nI 1)) rfl ?_
    refine lv_iadd hx hb d_X_yearOf_15 ?_
    refine tq_ti (show _ = (nI (y + 1)) from nI_add y 1) ?_
    refine tq_iald hx hb hK hX.1 6 0 rfl rfl (show y + 1 < 11 by omega) (by decide) d_X_yearOf_16 ?_
    refine lv_icmp_lt hx hb d_X_yearOf_17 (tgt := 26) (by decide) (fun h1 => ?_) (fun h1 => ?_)
    · have h1 := (nI_ltI hmm hf1).mp h1
      rw [← tt_yr_is (g := g) (m := mm) (y := y) (by omega) hf (fun _ => h1)] at hl
      exact kk ls hl
    · have h1 := mt (nI_ltI hmm hf1).mpr h1
      refine lv_iinc hx hb d_X_yearOf_20 hl (k := 0) rfl (v := (nI (y + 1))) (by rw [show Int32.ofInt 1 = 1 from rfl]; exact nI_1 y) (by decide) (lv' := [(2, .int (nI (y + 1))), (0, .ref (ad 0)), (1, .int (nI mm))]) rfl (fun ls hl => ?_)
      refine lv_goto hx hb d_X_yearOf_23 (tgt := 2) (by decide) ?_
      exact ih (y + 1) ls (by omega) (by omega) hl
end G13
set_option maxHeartbeats 4000000 in
set_option maxRecDepth 100000 in
theorem c_X_yearOf (l : Launch) (D : va_G) (ci : Nat → ClassId) (ad : Nat → Nat) (g : TS) (tc td : Int32) (tn : Nat → Int32) {mm : Nat} (hmm : mm < 2147483648) : Met l y_X_yearOf (wT y_X_yearOf b_X_yearOf 3 (some .int)) (rP 0 0) (tb (wX D ci ad g tc td tn) [.ref (ad 0), .int (nI mm)]) (tq_P (some (.int (nI (tt_yr g mm))))) 0 0 tq_n := by
  refine Met.ofW (cc := b_X_yearOf) (maxL := 3) (ret := (some .int)) (by decide) rfl ?_
  intro p e s m args below meth c s₁ B hml hv
  obtain ⟨rfl, hK, hg, hX⟩ := hv
  have hx := B.exec
  have hb := B.bytes
  have hr := B.returns
  have hts := atoms_spec (ws := wT y_X_yearOf b_X_yearOf 3 (some .int)) B.pre
  have hT : ∀ w ∈ TT, w ∈ wT y_X_yearOf b_X_yearOf 3 (some .int) := wT_T
  have hown : s.vm.findClass RX = some m.cls := findClass_of_methodNamed B.named
  have hlocks := B.notSynchronized
  have hl := lv_entry ([.ref (ad 0), .int (nI mm)]) (n := 3) (Nat.le_of_ble_eq_true rfl)
  rw [lg_entry_eq]
  generalize (lg_sl ([.ref (ad 0), .int (nI mm)]) ++ List.replicate (3 - (lg_sl ([.ref (ad 0), .int (nI mm)])).length) Slot.unset).toArray = ls at hl ⊢
  have hl : lv_has ls 3 [(0, .ref (ad 0)), (1, .int (nI mm))] := hl
  refine lv_iconst hx hb d_X_yearOf_0 (v := (nI 0)) rfl ?_
  refine lv_istore_n hx hb d_X_yearOf_1 rfl hl (by decide) (lv' := [(2, .int (nI 0)), (0, .ref (ad 0)), (1, .int (nI mm))]) rfl (fun ls hl => ?_)
  refine l_X_yearOf hx hb hts hT hown hK hg hX hmm (fun ls hl => ?_) 9 0 ls rfl (Nat.zero_le _) hl
  refine lv_iload_n hx hb d_X_yearOf_26 rfl (lv_at hl 0 rfl) ?_
  exact W.iret hx hb hr (fun t ht hW => ⟨_, rfl, ⟨rfl, ht⟩⟩) (fun q hq => nomatch hq) d_X_yearOf_27
set_option maxHeartbeats 4000000 in
set_option maxRecDepth 100000 in
theorem c_X_positionAt (l : Launch) (D : va_G) (ci : Nat → ClassId) (ad : Nat → Nat) (g : TS) (tc td : Int32) (tn : Nat → Int32) {i mm y : Nat} (hi : i < 8) (hmm : mm < 2147483648) (hy : y < 10) : Met l y_X_positionAt (wT y_X_positionAt b_X_positionAt 4 (some .long)) (rP 0 0) (tb (wX D ci ad g tc td tn) [.ref (ad 0), .int (nI i), .int (nI mm), .int (nI y)]) (tq_P (some (.long (lN (tt_pos g i mm y))))) 0 0 tq_n := by
  refine Met.ofW (cc := b_X_positionAt) (maxL := 4) (ret := (some .long)) (by decide) rfl ?_
  intro p e s m args below meth c s₁ B hml hv
  obtain ⟨rfl, hK, hg, hX⟩ := hv
  have hx := B.exec
  have hb := B.bytes
  have hr := B.returns
  have hts := atoms_spec (ws := wT y_X_positionAt b_X_positionAt 4 (some .long)) B.pre
  have hT : ∀ w ∈ TT, w ∈ wT y_X_positionAt b_X_positionAt 4 (some .long) := wT_T
  have hown : s.vm.findClass RX = some m.cls := findClass_of_methodNamed B.named
  have hlocks := B.notSynchronized
  have hl := lv_entry ([.ref (ad 0), .int (nI i), .int (nI mm), .int (nI y)]) (n := 4) (Nat.le_of_ble_eq_true rfl)
  rw [lg_entry_eq]
  generalize (lg_sl ([.ref (ad 0), .int (nI i), .int (nI mm), .int (nI y)]) ++ List.replicate (4 - (lg_sl ([.ref (ad 0), .int (nI i), .int (nI mm), .int (nI y)])).length) Slot.unset).toArray = ls at hl ⊢
  have hl : lv_has ls 4 [(0, .ref (ad 0)), (1, .int (nI i)), (2, .int (nI mm)), (3, .int (nI y))] := hl
  refine lv_aload_n hx hb d_X_positionAt_0 rfl (lv_at hl 0 rfl) ?_
  refine va_get hx hb hts (fun w h => hT w (uX_in w h)) hown hK hX.1 0 rfl rfl 3 (by decide) (hts _ (hT _ k_X_17)) (fun _ h => h) rfl d_X_positionAt_1 ?_
  refine lv_iload_n hx hb d_X_positionAt_4 rfl (lv_at hl 1 rfl) ?_
  refine tq_lald hx hb hK hX.1 3 1 rfl rfl hi (by decide) d_X_positionAt_5 ?_
  refine lv_aload_n hx hb d_X_positionAt_6 rfl (lv_at hl 0 rfl) ?_
  refine va_get hx hb hts (fun w h => hT w (uX_in w h)) hown hK hX.1 0 rfl rfl 2 (by decide) (hts _ (hT _ k_X_13)) (fun _ h => h) rfl d_X_positionAt_7 ?_
  refine lv_iload_n hx hb d_X_positionAt_10 rfl (lv_at hl 1 rfl) ?_
  refine tq_lald hx hb hK hX.1 2 1 rfl rfl hi (by decide) d_X_positionAt_11 ?_
  refine lv_iload_n hx hb d_X_positionAt_12 rfl (lv_at hl 2 rfl) ?_
  refine lv_i2l hx hb d_X_positionAt_13 (v := (nI mm).toInt64) rfl ?_
  refine tq_tl (show _ = (lN mm) from nI_l hmm) ?_
  refine lv_lmul hx hb d_X_positionAt_14 ?_
  refine tq_tl (show _ = (lN (tt_spd g i * mm)) from lN_mul _ _) ?_
  refine lv_ladd hx hb d_X_positionAt_15 ?_
  refine tq_tl (show _ = (lN (tt_pha g i + tt_spd g i * mm)) from lN_add _ _) ?_
  refine lv_aload_n hx hb d_X_positionAt_16 rfl (lv_at hl 0 rfl) ?_
  refine va_get hx hb hts (fun w h => hT w (uX_in w h)) hown hK hX.1 0 rfl rfl 5 (by decide) (hts _ (hT _ k_X_27)) (fun _ h => h) rfl d_X_positionAt_17 ?_
  refine lv_iload_n hx hb d_X_positionAt_20 rfl (lv_at hl 1 rfl) ?_
  refine tq_aald hx hb hK hX.1 5 3 rfl rfl rfl hi (by decide) rfl d_X_positionAt_21 ?_
  refine lv_iload_n hx hb d_X_positionAt_22 rfl (lv_at hl 3 rfl) ?_
  refine tq_lald hx hb hK (hX.2.2 i hi) 0 1 rfl rfl hy (by decide) d_X_positionAt_23 ?_
  refine lv_ladd hx hb d_X_positionAt_24 ?_
  refine tq_tl (show _ = (lN (tt_pha g i + tt_spd g i * mm + tt_shf g i y)) from lN_add _ _) ?_
  refine lv_ldc2 hx hb (v := (lN 281474976710655)) hown (hts _ (hT _ k_X_173)) d_X_positionAt_25 ?_
  refine lv_land hx hb d_X_positionAt_28 ?_
  refine tq_tl (show _ = (lN (tt_pos g i mm y)) from lN_mask48 _) ?_
  exact W.lret hx hb hr (fun t ht hW => ⟨_, rfl, ⟨rfl, ht⟩⟩) (fun q hq => nomatch hq) d_X_positionAt_29
