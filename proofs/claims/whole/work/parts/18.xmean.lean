/-! Math.floorDiv; mean and above. Written by wip/whole/gen.py -/
theorem lx_neg {x y : Int64} (hy : 0 < y.toInt) : (x ^^^ y).toInt < 0 ↔ x.toInt < 0 := by
  have e1 : (x ^^^ y).toBitVec.msb = (x.toBitVec.msb ^^ y.toBitVec.msb) := by rw [Int64.toBitVec_xor, BitVec.msb_xor]
  rw [BitVec.msb_eq_toInt, BitVec.msb_eq_toInt, BitVec.msb_eq_toInt] at e1
  have e2 : decide (y.toBitVec.toInt < 0) = false := decide_eq_false (show ¬ y.toInt < 0 by omega)
  rw [e2, Bool.xor_false] at e1
  exact decide_eq_decide.mp e1
set_option maxHeartbeats 4000000 in
set_option maxRecDepth 100000 in
theorem c_J_floorDiv (l : Launch) {a b : Int} (ha1 : -9223372036854775808 ≤ a) (ha2 : a < 9223372036854775808) (hb1 : 0 < b) (hb2 : b < 9223372036854775808) : Met l y_J_floorDiv (wT y_J_floorDiv b_J_floorDiv 6 (some .long)) (rP 0 0) (tb (wN) [.long (lZ a), .long (lZ b)]) (tq_P (some (.long (lZ (a / b))))) 0 0 tq_n := by
  refine va_MetF (cc := b_J_floorDiv) (maxL := 6) (ret := (some .long)) (by decide +kernel) rfl ?_
  intro p e s m args below meth c s₁ B hml hv
  obtain ⟨rfl, hv⟩ := hv
  have hx := B.exec
  have hb := B.bytes
  have hr := B.returns
  have hts := atoms_spec (ws := wT y_J_floorDiv b_J_floorDiv 6 (some .long)) B.pre
  have hT : ∀ w ∈ TT, w ∈ wT y_J_floorDiv b_J_floorDiv 6 (some .long) := wT_T
  have hown : s.vm.findClass "java/lang/Math" = some m.cls := findClass_of_methodNamed B.named
  have hlocks := B.notSynchronized
  have hl := lv_entry ([.long (lZ a), .long (lZ b)]) (n := 6) (Nat.le_of_ble_eq_true rfl)
  rw [lg_entry_eq]
  generalize (lg_sl ([.long (lZ a), .long (lZ b)]) ++ List.replicate (6 - (lg_sl ([.long (lZ a), .long (lZ b)])).length) Slot.unset).toArray = ls at hl ⊢
  have hl : lv_has ls 6 [(0, .long (lZ a)), (2, .long (lZ b))] := hl
  have ea := lZ_toInt ha1 ha2
  have eb := lZ_toInt (z := b) (by omega) hb2
  have hq : (a.tdiv b).natAbs ≤ a.natAbs := by rw [Int.natAbs_tdiv]; exact Nat.div_le_self _ _
  have hmul := Int.mul_tdiv_add_tmod a b
  have hcm : a.tdiv b * b = b * a.tdiv b := Int.mul_comm _ _
  have hqb : (a.tdiv b * b).natAbs ≤ a.natAbs := by
    rw [Int.natAbs_mul, Int.natAbs_tdiv]
    exact Nat.div_mul_le_self _ _
  refine lv_lload_n hx hb d_J_floorDiv_0 rfl (lv_at hl 0 rfl) ?_
  refine lv_lload_n hx hb d_J_floorDiv_1 rfl (lv_at hl 1 rfl) ?_
  refine lv_ldiv hx hb d_J_floorDiv_2 (fun z => by rw [← Int64.toInt_inj, eb] at z; exact absurd z (by show ¬ b = 0; omega)) ?_
  refine tq_tl (show _ = (lZ (a.tdiv b)) from lZ_div ha1 ha2 hb1 hb2) ?_
  refine lv_lstore hx hb d_J_floorDiv_3 hl (by decide) (lv' := [(4, .long (lZ (a.tdiv b))), (0, .long (lZ a)), (2, .long (lZ b))]) rfl (fun ls hl => ?_)
  refine lv_lload_n hx hb d_J_floorDiv_5 rfl (lv_at hl 1 rfl) ?_
  refine lv_lload_n hx hb d_J_floorDiv_6 rfl (lv_at hl 2 rfl) ?_
  refine lv_lxor hx hb d_J_floorDiv_7 ?_
  refine lv_lconst hx hb d_J_floorDiv_8 (v := (lN 0)) rfl ?_
  refine W.lcmp hx hb d_J_floorDiv_9 ?_
  refine lv_if_ge hx hb d_J_floorDiv_10 (tgt := 27) (by decide) (fun h1 => ?_) (fun h1 => ?_)
  · have h1 : ¬ a < 0 := by
      have h2 := (lg_cmp_ge _ _).mp h1
      rw [Int64.le_iff_toInt_le] at h2
      have h3 := mt (lx_neg (x := lZ a) (y := lZ b) (by omega)).mpr (show ¬ (lZ a ^^^ lZ b).toInt < 0 by have : (lN 0).toInt = 0 := rfl; omega)
      omega
    refine lv_lload hx hb d_J_floorDiv_27 (lv_at hl 0 rfl) ?_
    exact W.lret hx hb hr (fun t ht hW => ⟨_, rfl, ⟨(by rw [← tt_floor2 hb1, if_neg (fun z => h1 z.1)]), ht⟩⟩) (fun q hq => nomatch hq) d_J_floorDiv_29
  · have h1 : a < 0 := by
      have h2 := mt (lg_cmp_ge _ _).mpr h1
      rw [Int64.le_iff_toInt_le] at h2
      have h3 := (lx_neg (x := lZ a) (y := lZ b) (by omega)).mp (by have : (lN 0).toInt = 0 := rfl; omega)
      omega
    refine lv_lload hx hb d_J_floorDiv_13 (lv_at hl 0 rfl) ?_
    refine lv_lload_n hx hb d_J_floorDiv_15 rfl (lv_at hl 2 rfl) ?_
    refine lv_lmul hx hb d_J_floorDiv_16 ?_
    refine tq_tl (show _ = (lZ (a.tdiv b * b)) from lZ_mul _ _) ?_
    refine lv_lload_n hx hb d_J_floorDiv_17 rfl (lv_at hl 1 rfl) ?_
    refine W.lcmp hx hb d_J_floorDiv_18 ?_
    refine lv_if_eq hx hb d_J_floorDiv_19 (tgt := 27) (by decide) (fun h4 => ?_) (fun h4 => ?_)
    · have h4 : a.tdiv b * b = a := by
        have h5 := congrArg Int64.toInt ((lg_cmp_eq _ _).mp h4)
        have htm := Int.lt_tmod_of_pos a hb1
        rw [lZ_toInt (by omega) (by omega), ea] at h5
        exact h5
      refine lv_lload hx hb d_J_floorDiv_27 (lv_at hl 0 rfl) ?_
      exact W.lret hx hb hr (fun t ht hW => ⟨_, rfl, ⟨(by rw [← tt_floor2 hb1, if_neg (fun z => z.2 h4)]), ht⟩⟩) (fun q hq => nomatch hq) d_J_floorDiv_29
    · have h4 : ¬ a.tdiv b * b = a := fun z => h4 ((lg_cmp_eq _ _).mpr (by rw [z]))
      refine lv_lload hx hb d_J_floorDiv_22 (lv_at hl 0 rfl) ?_
      refine lv_lconst hx hb d_J_floorDiv_24 (v := (lN 1)) rfl ?_
      refine lv_lsub hx hb d_J_floorDiv_25 ?_
      refine tq_tl (show _ = (lZ (a.tdiv b - 1)) from (by rw [lN_lZ, lZ_sub]; rfl)) ?_
      exact W.lret hx hb hr (fun t ht hW => ⟨_, rfl, ⟨(by rw [← tt_floor2 hb1, if_pos ⟨h1, h4⟩]), ht⟩⟩) (fun q hq => nomatch hq) d_J_floorDiv_26
section G18
variable {p : Program} {l : Launch} {e : Env} {R : Room} {s : State} {m : MethodId} {args : Array Value} {below : List Frame} {meth : Method} {c : Code} {H : Heap} {locs : List Loc} {cells slots : Nat} {Q : State → Prop} {Ts : List Cond}
variable {D : va_G} {ci : Nat → ClassId} {ad : Nat → Nat} {g : TS} {tc td : Int32} {tn : Nat → Int32}
set_option maxHeartbeats 4000000 in
set_option maxRecDepth 100000 in
theorem l_X_mean (hx : p.tables.exec = Jvm.exec) (hb : c.code = b_X_mean) (hts : ∀ w ∈ Ts, w.before args s = true) (hT : ∀ w ∈ TT, w ∈ Ts) (hown : s.vm.findClass RX = some m.cls) (hml : c.maxLocals = 6) (hK : tk D ci s) (hg : tt_ok g) (hX : tx D ci ad g tc td tn H) (hR : 2 + 1 ≤ R.frames ∧ 8 + (6 + 11) + 59 ≤ R.locals) (hf : cells ≤ R.cells ∧ slots ≤ R.slots) {mm n : Nat} (hn : n < 4000) (hmm : mm + n < 2147480000)
    (kk : ∀ (ls : Array Slot), lv_has ls 6 [(5, .int (nI n)), (3, .long (lZ (tt_sm (tt_hgt g) mm n))), (0, .ref (ad 0)), (1, .int (nI mm)), (2, .int (nI n))] → W p l e R s m args below meth c H locs cells slots Q (F0 m 78 ls [])) :
    ∀ (d k : Nat) (ls : Array Slot), k + d = n → lv_has ls 6 [(5, .int (nI k)), (3, .long (lZ (tt_sm (tt_hgt g) mm k))), (0, .ref (ad 0)), (1, .int (nI mm)), (2, .int (nI n))] → W p l e R s m args below meth c H locs cells slots Q (F0 m 54 ls []) := by
  intro d
  induction d with
  | zero =>
    intro k ls hk hl
    obtain rfl : k = n := by omega
    refine lv_iload hx hb d_X_mean_54 (lv_at hl 0 rfl) ?_
    refine lv_iload_n hx hb d_X_mean_56 rfl (lv_at hl 4 rfl) ?_
    refine lv_icmp_ge hx hb d_X_mean_57 (tgt := 78) (by decide) (fun _ => ?_) (fun hno => absurd (nI_le (Nat.le_refl k) (by omega)) hno)
    exact kk ls hl
  | succ d ih =>
    intro k ls hk hl
    have hh := tt_hgt_in hg (mm + k)
    refine lv_iload hx hb d_X_mean_54 (lv_at hl 0 rfl) ?_
    refine lv_iload_n hx hb d_X_mean_56 rfl (lv_at hl 4 rfl) ?_
    refine lv_icmp_ge hx hb d_X_mean_57 (tgt := 78) (by decide) (fun hyes => absurd hyes (nI_ge (show k < n by omega) (by omega))) (fun _ => ?_)
    refine lv_lload_n hx hb d_X_mean_60 rfl (lv_at hl 1 rfl) ?_
    refine lv_aload_n hx hb d_X_mean_61 rfl (lv_at hl 2 rfl) ?_
    refine lv_iload_n hx hb d_X_mean_62 rfl (lv_at hl 3 rfl) ?_
    refine lv_iload hx hb d_X_mean_63 (lv_at hl 0 rfl) ?_
    refine lv_iadd hx hb d_X_mean_65 ?_
    refine tq_ti (show _ = (nI (mm + k)) from nI_add _ _) ?_
    refine tq_V ⟨hx, hb, hml, hown, hts⟩ hT (c_X_heightAt l D ci ad g tc td tn (mm := mm + k) (by omega)) lk_X_119 wX_mv ⟨hK, hg, hX⟩ (wX_rc ⟨hK, hg, hX⟩) rfl hl.1 rfl (Nat.le_of_ble_eq_true rfl) d_X_mean_66 ⟨rfl, rfl, hR⟩ hf ?_
    refine lv_i2l hx hb d_X_mean_69 (v := (iZ (tt_hgt g (mm + k))).toInt64) rfl ?_
    refine tq_tl (show _ = (lZ (tt_hgt g (mm + k))) from iZ_l (by omega) (by omega)) ?_
    refine lv_ladd hx hb d_X_mean_70 ?_
    refine tq_tl (show _ = (lZ (tt_sm (tt_hgt g) mm (k + 1))) from lZ_add _ _) ?_
    refine lv_lstore_n hx hb d_X_mean_71 rfl hl (by decide) (lv' := [(3, .long (lZ (tt_sm (tt_hgt g) mm (k + 1)))), (5, .int (nI k)), (0, .ref (ad 0)), (1, .int (nI mm)), (2, .int (nI n))]) rfl (fun ls hl => ?_)
    refine lv_iinc hx hb d_X_mean_72 hl (k := 1) rfl (v := (nI (k + 1))) (by rw [show Int32.ofInt 1 = 1 from rfl]; exact nI_1 k) (by decide) (lv' := [(5, .int (nI (k + 1))), (3, .long (lZ (tt_sm (tt_hgt g) mm (k + 1)))), (0, .ref (ad 0)), (1, .int (nI mm)), (2, .int (nI n))]) rfl (fun ls hl => ?_)
    refine lv_goto hx hb d_X_mean_75 (tgt := 54) (by decide) ?_
    exact ih (k + 1) ls (by omega) hl
end G18
set_option maxHeartbeats 4000000 in
set_option maxRecDepth 100000 in
theorem c_X_mean (l : Launch) (D : va_G) (ci : Nat → ClassId) (ad : Nat → Nat) (g : TS) (tc td : Int32) (tn : Nat → Int32) {mm n : Nat} (hn0 : 1 ≤ n) (hn : n ≤ 2000) (hm : mm + n ≤ tt_fst g 10) : Met l y_X_mean (wT y_X_mean b_X_mean 6 (some .int)) (rP 3 84) (tb (wX D ci ad g tc td tn) [.ref (ad 0), .int (nI mm), .int (nI n)]) (tq_P (some (.int (iZ (tt_sm (tt_hgt g) mm n / n))))) 0 0 tq_n := by
  refine Met.ofW (cc := b_X_mean) (maxL := 6) (ret := (some .int)) (by decide) rfl ?_
  intro p e s m args below meth c s₁ B hml hv
  obtain ⟨rfl, hK, hg, hX⟩ := hv
  have hx := B.exec
  have hb := B.bytes
  have hr := B.returns
  have hts := atoms_spec (ws := wT y_X_mean b_X_mean 6 (some .int)) B.pre
  have hT : ∀ w ∈ TT, w ∈ wT y_X_mean b_X_mean 6 (some .int) := wT_T
  have hown : s.vm.findClass RX = some m.cls := findClass_of_methodNamed B.named
  have hlocks := B.notSynchronized
  have hl := lv_entry ([.ref (ad 0), .int (nI mm), .int (nI n)]) (n := 6) (Nat.le_of_ble_eq_true rfl)
  rw [lg_entry_eq]
  generalize (lg_sl ([.ref (ad 0), .int (nI mm), .int (nI n)]) ++ List.replicate (6 - (lg_sl ([.ref (ad 0), .int (nI mm), .int (nI n)])).length) Slot.unset).toArray = ls at hl ⊢
  have hl : lv_has ls 6 [(0, .ref (ad 0)), (1, .int (nI mm)), (2, .int (nI n))] := hl
  have hdb := tt_db_in hg.2.2.2 10 (Nat.le_refl _)
  have hf10 : tt_fst g 10 = 1440 * tt_db (tt_day g) 10 := rfl
  have ev : (nI mm).toInt = mm := nI_toInt (by omega)
  have en : (nI n).toInt = n := nI_toInt (by omega)
  have hsm := tt_sm_in (fun k => tt_hgt_in hg k) mm n
  refine lv_iload_n hx hb d_X_mean_0 rfl (lv_at hl 2 rfl) ?_
  refine lv_iconst hx hb d_X_mean_1 (v := (nI 1)) rfl ?_
  refine lv_icmp_lt hx hb d_X_mean_2 (tgt := 12) (by decide) (fun q1 => ?_) (fun q1 => ?_)
  · have q1 := Int32.lt_iff_toInt_lt.mp q1
    rw [nI_toInt (n := 1) (by decide)] at q1
    exfalso
    omega
  · have q1 := mt Int32.lt_iff_toInt_lt.mpr q1
    rw [nI_toInt (n := 1) (by decide)] at q1
    refine lv_iload_n hx hb d_X_mean_5 rfl (lv_at hl 2 rfl) ?_
    refine lv_sipush hx hb d_X_mean_6 (v := (nI 2000)) rfl ?_
    refine lv_icmp_le hx hb d_X_mean_9 (tgt := 22) (by decide) (fun q2 => ?_) (fun q2 => ?_)
    · have q2 := Int32.le_iff_toInt_le.mp q2
      rw [nI_toInt (n := 2000) (by decide)] at q2
      refine lv_iload_n hx hb d_X_mean_22 rfl (lv_at hl 1 rfl) ?_
      refine lv_if_lt hx hb d_X_mean_23 (tgt := 39) (by decide) (fun q3 => ?_) (fun q3 => ?_)
      · have q3 := iv_lt0.mp q3
        exfalso
        omega
      · have q3 := mt iv_lt0.mpr q3
        refine lv_iload_n hx hb d_X_mean_26 rfl (lv_at hl 1 rfl) ?_
        refine lv_aload_n hx hb d_X_mean_27 rfl (lv_at hl 0 rfl) ?_
        refine va_get hx hb hts (fun w h => hT w (uX_in w h)) hown hK hX.1 0 rfl rfl 6 (by decide) (hts _ (hT _ k_X_30)) (fun _ h => h) rfl d_X_mean_28 ?_
        refine lv_bipush hx hb d_X_mean_31 (v := (nI 10)) rfl ?_
        refine tq_iald hx hb hK hX.1 6 0 rfl rfl (by decide) (by decide) d_X_mean_33 ?_
        refine lv_iload_n hx hb d_X_mean_34 rfl (lv_at hl 2 rfl) ?_
        refine lv_isub hx hb d_X_mean_35 ?_
        refine tq_ti (show _ = (nI (tt_fst g 10 - n)) from pk_sub (by omega)) ?_
        refine lv_icmp_le hx hb d_X_mean_36 (tgt := 49) (by decide) (fun q4 => ?_) (fun q4 => ?_)
        · have q4 := Int32.le_iff_toInt_le.mp q4
          rw [nI_toInt (n := (tt_fst g 10 - n)) (by omega)] at q4
          refine lv_lconst hx hb d_X_mean_49 (v := (lN 0)) rfl ?_
          refine lv_lstore_n hx hb d_X_mean_50 rfl hl (by decide) (lv' := [(3, .long (lN 0)), (0, .ref (ad 0)), (1, .int (nI mm)), (2, .int (nI n))]) rfl (fun ls hl => ?_)
          refine lv_iconst hx hb d_X_mean_51 (v := (nI 0)) rfl ?_
          refine lv_istore hx hb d_X_mean_52 hl (by decide) (lv' := [(5, .int (nI 0)), (3, .long (lN 0)), (0, .ref (ad 0)), (1, .int (nI mm)), (2, .int (nI n))]) rfl (fun ls hl => ?_)
          refine l_X_mean hx hb hts hT hown hml hK hg hX ⟨Nat.le_of_ble_eq_true rfl, Nat.le_of_ble_eq_true rfl⟩ ⟨Nat.zero_le _, Nat.zero_le _⟩ (by omega) (by omega) (fun ls hl => ?_) n 0 ls (Nat.zero_add _) hl
          refine lv_lload_n hx hb d_X_mean_78 rfl (lv_at hl 1 rfl) ?_
          refine lv_iload_n hx hb d_X_mean_79 rfl (lv_at hl 4 rfl) ?_
          refine lv_i2l hx hb d_X_mean_80 (v := (nI n).toInt64) rfl ?_
          refine tq_tl (show _ = (lZ n) from ((nI_l (by omega)).trans (lN_lZ _))) ?_
          refine tq_S ⟨hx, hb, hml, hown, hts⟩ hT (c_J_floorDiv l (a := tt_sm (tt_hgt g) mm n) (b := n) (by omega) (by omega) (by omega) (by omega)) lk_X_124 wN_mv trivial rfl hl.1 rfl (Nat.le_of_ble_eq_true rfl) d_X_mean_81 ⟨rfl, rfl, Nat.le_of_ble_eq_true rfl, Nat.le_of_ble_eq_true rfl⟩ ⟨Nat.zero_le _, Nat.zero_le _⟩ ?_
          refine lv_l2i hx hb d_X_mean_84 (v := (lZ (tt_sm (tt_hgt g) mm n / n)).toInt32) rfl ?_
          refine tq_ti (show _ = (iZ (tt_sm (tt_hgt g) mm n / n)) from lZ_i _) ?_
          exact W.iret hx hb hr (fun t ht hW => ⟨_, rfl, ⟨rfl, ht⟩⟩) (fun q hq => nomatch hq) d_X_mean_85
        · have q4 := mt Int32.le_iff_toInt_le.mpr q4
          rw [nI_toInt (n := (tt_fst g 10 - n)) (by omega)] at q4
          exfalso
          omega
    · have q2 := mt Int32.le_iff_toInt_le.mpr q2
      rw [nI_toInt (n := 2000) (by decide)] at q2
      exfalso
      omega
set_option maxHeartbeats 4000000 in
set_option maxRecDepth 100000 in
theorem x_X_meanA (l : Launch) (htr : l.stackTraces = false) (D : va_G) (ci : Nat → ClassId) (ad : Nat → Nat) (g : TS) (tc td : Int32) (tn : Nat → Int32) (u v : Int32) (hv0 : ¬ (1 ≤ v.toInt ∧ v.toInt ≤ 2000)) : vx_Met l y_X_mean (wT y_X_mean b_X_mean 6 (some .int)) ({ frames := 6, cells := 1, slots := 6, locals := 82 }) (tb (wXE D ci ad g tc td tn) [.ref (ad 0), .int u, .int v]) tw_N (vx_X (fun _ : Unit => True) (fun E _ _ => E = eA) (fun _ => False)) 1 6 tq_n := by
  refine vx_ofW (cc := b_X_mean) (maxL := 6) (ret := (some .int)) (by decide) rfl ?_
  intro p e s m args below meth c s₁ B hml hno hv
  obtain ⟨rfl, ⟨hK, hg, hX⟩, hE⟩ := hv
  have hx := B.exec
  have hb := B.bytes
  have hr := B.returns
  have hts := atoms_spec (ws := wT y_X_mean b_X_mean 6 (some .int)) B.pre
  have hT : ∀ w ∈ TT, w ∈ wT y_X_mean b_X_mean 6 (some .int) := wT_T
  have hown : s.vm.findClass RX = some m.cls := findClass_of_methodNamed B.named
  have hlocks := B.notSynchronized
  have hl := lv_entry ([.ref (ad 0), .int u, .int v]) (n := 6) (Nat.le_of_ble_eq_true rfl)
  rw [lg_entry_eq]
  generalize (lg_sl ([.ref (ad 0), .int u, .int v]) ++ List.replicate (6 - (lg_sl ([.ref (ad 0), .int u, .int v])).length) Slot.unset).toArray = ls at hl ⊢
  have hl : lv_has ls 6 [(0, .ref (ad 0)), (1, .int u), (2, .int v)] := hl
  have hdb := tt_db_in hg.2.2.2 10 (Nat.le_refl _)
  have hf10 : tt_fst g 10 = 1440 * tt_db (tt_day g) 10 := rfl
  refine lv_iload_n hx hb d_X_mean_0 rfl (lv_at hl 2 rfl) ?_
  refine lv_iconst hx hb d_X_mean_1 (v := (nI 1)) rfl ?_
  refine lv_icmp_lt hx hb d_X_mean_2 (tgt := 12) (by decide) (fun q1 => ?_) (fun q1 => ?_)
  · have q1 := Int32.lt_iff_toInt_lt.mp q1
    rw [nI_toInt (n := 1) (by decide)] at q1
    exact tw_A hx hb htr hown (fun w h => hts w (hT w h)) hE (fun _ _ _ h => h) (is := 122) (text := "no such number of minutes") (by decide) va_S.rf (hl.1.trans hml.symm) d_X_mean_12 d_X_mean_15 d_X_mean_16 d_X_mean_18 d_X_mean_21 hno ⟨by decide, by decide, by decide, by decide⟩ hlocks (fun t ha h1 h2 => ⟨(), trivial, rfl, h1, fun q hq _ => h2 q hq⟩) (fun z hz => nomatch hz) (Nat.le_refl _) (Nat.le_refl _)
  · have q1 := mt Int32.lt_iff_toInt_lt.mpr q1
    rw [nI_toInt (n := 1) (by decide)] at q1
    refine lv_iload_n hx hb d_X_mean_5 rfl (lv_at hl 2 rfl) ?_
    refine lv_sipush hx hb d_X_mean_6 (v := (nI 2000)) rfl ?_
    refine lv_icmp_le hx hb d_X_mean_9 (tgt := 22) (by decide) (fun q2 => ?_) (fun q2 => ?_)
    · have q2 := Int32.le_iff_toInt_le.mp q2
      rw [nI_toInt (n := 2000) (by decide)] at q2
      exfalso
      omega
    · have q2 := mt Int32.le_iff_toInt_le.mpr q2
      rw [nI_toInt (n := 2000) (by decide)] at q2
      exact tw_A hx hb htr hown (fun w h => hts w (hT w h)) hE (fun _ _ _ h => h) (is := 122) (text := "no such number of minutes") (by decide) va_S.rf (hl.1.trans hml.symm) d_X_mean_12 d_X_mean_15 d_X_mean_16 d_X_mean_18 d_X_mean_21 hno ⟨by decide, by decide, by decide, by decide⟩ hlocks (fun t ha h1 h2 => ⟨(), trivial, rfl, h1, fun q hq _ => h2 q hq⟩) (fun z hz => nomatch hz) (Nat.le_refl _) (Nat.le_refl _)
set_option maxHeartbeats 4000000 in
set_option maxRecDepth 100000 in
theorem x_X_meanI (l : Launch) (htr : l.stackTraces = false) (D : va_G) (ci : Nat → ClassId) (ad : Nat → Nat) (g : TS) (tc td : Int32) (tn : Nat → Int32) (u v : Int32) (hv1 : 1 ≤ v.toInt ∧ v.toInt ≤ 2000) (hv0 : ¬ (0 ≤ u.toInt ∧ u.toInt + v.toInt ≤ (tt_fst g 10 : Nat))) : vx_Met l y_X_mean (wT y_X_mean b_X_mean 6 (some .int)) ({ frames := 6, cells := 1, slots := 6, locals := 82 }) (tb (wXE D ci ad g tc td tn) [.ref (ad 0), .int u, .int v]) tw_N (vx_X (fun _ : Unit => True) (fun E _ _ => E = eI) (fun _ => False)) 1 6 tq_n := by
  refine vx_ofW (cc := b_X_mean) (maxL := 6) (ret := (some .int)) (by decide) rfl ?_
  intro p e s m args below meth c s₁ B hml hno hv
  obtain ⟨rfl, ⟨hK, hg, hX⟩, hE⟩ := hv
  have hx := B.exec
  have hb := B.bytes
  have hr := B.returns
  have hts := atoms_spec (ws := wT y_X_mean b_X_mean 6 (some .int)) B.pre
  have hT : ∀ w ∈ TT, w ∈ wT y_X_mean b_X_mean 6 (some .int) := wT_T
  have hown : s.vm.findClass RX = some m.cls := findClass_of_methodNamed B.named
  have hlocks := B.notSynchronized
  have hl := lv_entry ([.ref (ad 0), .int u, .int v]) (n := 6) (Nat.le_of_ble_eq_true rfl)
  rw [lg_entry_eq]
  generalize (lg_sl ([.ref (ad 0), .int u, .int v]) ++ List.replicate (6 - (lg_sl ([.ref (ad 0), .int u, .int v])).length) Slot.unset).toArray = ls at hl ⊢
  have hl : lv_has ls 6 [(0, .ref (ad 0)), (1, .int u), (2, .int v)] := hl
  have hdb := tt_db_in hg.2.2.2 10 (Nat.le_refl _)
  have hf10 : tt_fst g 10 = 1440 * tt_db (tt_day g) 10 := rfl
  refine lv_iload_n hx hb d_X_mean_0 rfl (lv_at hl 2 rfl) ?_
  refine lv_iconst hx hb d_X_mean_1 (v := (nI 1)) rfl ?_
  refine lv_icmp_lt hx hb d_X_mean_2 (tgt := 12) (by decide) (fun q1 => ?_) (fun q1 => ?_)
  · have q1 := Int32.lt_iff_toInt_lt.mp q1
    rw [nI_toInt (n := 1) (by decide)] at q1
    exfalso
    omega
  · have q1 := mt Int32.lt_iff_toInt_lt.mpr q1
    rw [nI_toInt (n := 1) (by decide)] at q1
    refine lv_iload_n hx hb d_X_mean_5 rfl (lv_at hl 2 rfl) ?_
    refine lv_sipush hx hb d_X_mean_6 (v := (nI 2000)) rfl ?_
    refine lv_icmp_le hx hb d_X_mean_9 (tgt := 22) (by decide) (fun q2 => ?_) (fun q2 => ?_)
    · have q2 := Int32.le_iff_toInt_le.mp q2
      rw [nI_toInt (n := 2000) (by decide)] at q2
      refine lv_iload_n hx hb d_X_mean_22 rfl (lv_at hl 1 rfl) ?_
      refine lv_if_lt hx hb d_X_mean_23 (tgt := 39) (by decide) (fun q3 => ?_) (fun q3 => ?_)
      · have q3 := iv_lt0.mp q3
        exact tw_I hx hb htr hown (fun w h => hts w (hT w h)) hE (fun _ _ _ h => h) (is := 101) (text := "no such minute") (by decide) va_S.rf (hl.1.trans hml.symm) d_X_mean_39 d_X_mean_42 d_X_mean_43 d_X_mean_45 d_X_mean_48 hno ⟨by decide, by decide, by decide, by decide⟩ hlocks (fun t ha h1 h2 => ⟨(), trivial, rfl, h1, fun q hq _ => h2 q hq⟩) (fun z hz => nomatch hz) (Nat.le_refl _) (Nat.le_refl _)
      · have q3 := mt iv_lt0.mpr q3
        refine lv_iload_n hx hb d_X_mean_26 rfl (lv_at hl 1 rfl) ?_
        refine lv_aload_n hx hb d_X_mean_27 rfl (lv_at hl 0 rfl) ?_
        refine va_get hx hb hts (fun w h => hT w (uX_in w h)) hown hK hX.1 0 rfl rfl 6 (by decide) (hts _ (hT _ k_X_30)) (fun _ h => h) rfl d_X_mean_28 ?_
        refine lv_bipush hx hb d_X_mean_31 (v := (nI 10)) rfl ?_
        refine tq_iald hx hb hK hX.1 6 0 rfl rfl (by decide) (by decide) d_X_mean_33 ?_
        refine lv_iload_n hx hb d_X_mean_34 rfl (lv_at hl 2 rfl) ?_
        refine lv_isub hx hb d_X_mean_35 ?_
        have e5 : (nI (tt_fst g 10) - v).toInt = (tt_fst g 10 : Nat) - v.toInt := by rw [Jvm.Kit.i32_sub (by rw [nI_toInt (by omega)]; omega) (by rw [nI_toInt (by omega)]; omega), nI_toInt (by omega)]
        refine lv_icmp_le hx hb d_X_mean_36 (tgt := 49) (by decide) (fun q4 => ?_) (fun q4 => ?_)
        · have q4 := Int32.le_iff_toInt_le.mp q4
          exfalso
          omega
        · have q4 := mt Int32.le_iff_toInt_le.mpr q4
          exact tw_I hx hb htr hown (fun w h => hts w (hT w h)) hE (fun _ _ _ h => h) (is := 101) (text := "no such minute") (by decide) va_S.rf (hl.1.trans hml.symm) d_X_mean_39 d_X_mean_42 d_X_mean_43 d_X_mean_45 d_X_mean_48 hno ⟨by decide, by decide, by decide, by decide⟩ hlocks (fun t ha h1 h2 => ⟨(), trivial, rfl, h1, fun q hq _ => h2 q hq⟩) (fun z hz => nomatch hz) (Nat.le_refl _) (Nat.le_refl _)
    · have q2 := mt Int32.le_iff_toInt_le.mpr q2
      rw [nI_toInt (n := 2000) (by decide)] at q2
      exfalso
      omega
