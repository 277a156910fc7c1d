/-! the JDK's StringBuilder: append(int) of a number below 1000; length, charAt. Written by wip/whole/gen.py -/
theorem tt_wd1 {x : Nat} (h : x < 10) : tt_wd x = [tt_dg x 1] := by unfold tt_wd; rw [if_pos h]
theorem tt_wd2 {x : Nat} (h0 : ¬ x < 10) (h : x < 100) : tt_wd x = [tt_dg x 10, tt_dg x 1] := by unfold tt_wd; rw [if_neg h0, if_pos h]
theorem tt_wd3 {x : Nat} (h0 : ¬ x < 100) : tt_wd x = [tt_dg x 100, tt_dg x 10, tt_dg x 1] := by unfold tt_wd; rw [if_neg (by omega), if_neg h0]
set_option maxHeartbeats 4000000 in
set_option maxRecDepth 100000 in
theorem c_I_size (l : Launch) {x : Nat} (hx9 : x < 1000) : Met l y_I_size (wT y_I_size b_I_size 4 (some .int)) (rP 0 0) (tb (wN) [.int (nI x)]) (tq_P (some (.int (nI (tt_wd x).length)))) 0 0 tq_n := by
  refine va_MetF (cc := b_I_size) (maxL := 4) (ret := (some .int)) (by decide +kernel) rfl ?_
  intro p e s m args below meth c s₁ B hml hv
  obtain ⟨rfl, hv⟩ := hv
  have hx := B.exec
  have hb := B.bytes
  have hr := B.returns
  have hts := atoms_spec (ws := wT y_I_size b_I_size 4 (some .int)) B.pre
  have hT : ∀ w ∈ TT, w ∈ wT y_I_size b_I_size 4 (some .int) := wT_T
  have hown : s.vm.findClass RI = some m.cls := findClass_of_methodNamed B.named
  have hlocks := B.notSynchronized
  have hl := lv_entry ([.int (nI x)]) (n := 4) (Nat.le_of_ble_eq_true rfl)
  rw [lg_entry_eq]
  generalize (lg_sl ([.int (nI x)]) ++ List.replicate (4 - (lg_sl ([.int (nI x)])).length) Slot.unset).toArray = ls at hl ⊢
  have hl : lv_has ls 4 [(0, .int (nI x))] := hl
  refine lv_iconst hx hb d_I_size_0 (v := (nI 1)) rfl ?_
  refine lv_istore_n hx hb d_I_size_1 rfl hl (by decide) (lv' := [(1, .int (nI 1)), (0, .int (nI x))]) rfl (fun ls hl => ?_)
  refine lv_iload_n hx hb d_I_size_2 rfl (lv_at hl 1 rfl) ?_
  refine lv_if_lt hx hb d_I_size_3 (tgt := 11) (by decide) (fun hyes => absurd hyes (fun z => absurd ((iv_lt0).mp z) (by rw [nI_toInt (by omega)]; omega))) (fun _ => ?_)
  refine lv_iconst hx hb d_I_size_6 (v := (nI 0)) rfl ?_
  refine lv_istore_n hx hb d_I_size_7 rfl hl (by decide) (lv' := [(1, .int (nI 0)), (0, .int (nI x))]) rfl (fun ls hl => ?_)
  refine lv_iload_n hx hb d_I_size_8 rfl (lv_at hl 1 rfl) ?_
  refine lv_ineg hx hb d_I_size_9 ?_
  refine tq_ti (show _ = (iZ (-(x : Int))) from (by rw [nI_iZ, iZ_neg])) ?_
  refine lv_istore_n hx hb d_I_size_10 rfl hl (by decide) (lv' := [(0, .int (iZ (-(x : Int)))), (1, .int (nI 0))]) rfl (fun ls hl => ?_)
  refine lv_bipush hx hb d_I_size_11 (v := (-10)) rfl ?_
  refine lv_istore_n hx hb d_I_size_13 rfl hl (by decide) (lv' := [(2, .int (-10)), (0, .int (iZ (-(x : Int)))), (1, .int (nI 0))]) rfl (fun ls hl => ?_)
  refine lv_iconst hx hb d_I_size_14 (v := (nI 1)) rfl ?_
  refine lv_istore_n hx hb d_I_size_15 rfl hl (by decide) (lv' := [(3, .int (nI 1)), (2, .int (-10)), (0, .int (iZ (-(x : Int)))), (1, .int (nI 0))]) rfl (fun ls hl => ?_)
  refine lv_iload_n hx hb d_I_size_16 rfl (lv_at hl 0 rfl) ?_
  refine lv_bipush hx hb d_I_size_17 (v := (nI 10)) rfl ?_
  refine lv_icmp_ge hx hb d_I_size_19 (tgt := 42) (by decide) (fun hyes => absurd hyes (by decide)) (fun _ => ?_)
  refine lv_iload_n hx hb d_I_size_22 rfl (lv_at hl 2 rfl) ?_
  refine lv_iload_n hx hb d_I_size_23 rfl (lv_at hl 1 rfl) ?_
  refine lv_icmp_le hx hb d_I_size_24 (tgt := 31) (by decide) (fun h1 => ?_) (fun h1 => ?_)
  · have h1 : 10 ≤ x := by rw [Int32.le_iff_toInt_le, iZ_toInt (by omega) (by omega), show (-10 : Int32).toInt = -10 from rfl] at h1; omega
    refine lv_bipush hx hb d_I_size_31 (v := (nI 10)) rfl ?_
    refine lv_iload_n hx hb d_I_size_33 rfl (lv_at hl 1 rfl) ?_
    refine lv_imul hx hb d_I_size_34 ?_
    refine tq_ti (show _ = (-100) from rfl) ?_
    refine lv_istore_n hx hb d_I_size_35 rfl hl (by decide) (lv' := [(2, .int (-100)), (3, .int (nI 1)), (0, .int (iZ (-(x : Int)))), (1, .int (nI 0))]) rfl (fun ls hl => ?_)
    refine lv_iinc hx hb d_I_size_36 hl (k := 1) rfl (v := (nI 2)) rfl (by decide) (lv' := [(3, .int (nI 2)), (2, .int (-100)), (0, .int (iZ (-(x : Int)))), (1, .int (nI 0))]) rfl (fun ls hl => ?_)
    refine lv_goto hx hb d_I_size_39 (tgt := 16) (by decide) ?_
    refine lv_iload_n hx hb d_I_size_16 rfl (lv_at hl 0 rfl) ?_
    refine lv_bipush hx hb d_I_size_17 (v := (nI 10)) rfl ?_
    refine lv_icmp_ge hx hb d_I_size_19 (tgt := 42) (by decide) (fun hyes => absurd hyes (by decide)) (fun _ => ?_)
    refine lv_iload_n hx hb d_I_size_22 rfl (lv_at hl 2 rfl) ?_
    refine lv_iload_n hx hb d_I_size_23 rfl (lv_at hl 1 rfl) ?_
    refine lv_icmp_le hx hb d_I_size_24 (tgt := 31) (by decide) (fun h2 => ?_) (fun h2 => ?_)
    · have h2 : 100 ≤ x := by rw [Int32.le_iff_toInt_le, iZ_toInt (by omega) (by omega), show (-100 : Int32).toInt = -100 from rfl] at h2; omega
      refine lv_bipush hx hb d_I_size_31 (v := (nI 10)) rfl ?_
      refine lv_iload_n hx hb d_I_size_33 rfl (lv_at hl 1 rfl) ?_
      refine lv_imul hx hb d_I_size_34 ?_
      refine tq_ti (show _ = (-1000) from rfl) ?_
      refine lv_istore_n hx hb d_I_size_35 rfl hl (by decide) (lv' := [(2, .int (-1000)), (3, .int (nI 2)), (0, .int (iZ (-(x : Int)))), (1, .int (nI 0))]) rfl (fun ls hl => ?_)
      refine lv_iinc hx hb d_I_size_36 hl (k := 1) rfl (v := (nI 3)) rfl (by decide) (lv' := [(3, .int (nI 3)), (2, .int (-1000)), (0, .int (iZ (-(x : Int)))), (1, .int (nI 0))]) rfl (fun ls hl => ?_)
      refine lv_goto hx hb d_I_size_39 (tgt := 16) (by decide) ?_
      refine lv_iload_n hx hb d_I_size_16 rfl (lv_at hl 0 rfl) ?_
      refine lv_bipush hx hb d_I_size_17 (v := (nI 10)) rfl ?_
      refine lv_icmp_ge hx hb d_I_size_19 (tgt := 42) (by decide) (fun hyes => absurd hyes (by decide)) (fun _ => ?_)
      refine lv_iload_n hx hb d_I_size_22 rfl (lv_at hl 2 rfl) ?_
      refine lv_iload_n hx hb d_I_size_23 rfl (lv_at hl 1 rfl) ?_
      refine lv_icmp_le hx hb d_I_size_24 (tgt := 31) (by decide) (fun h3 => ?_) (fun h3 => ?_)
      · have h3 : 1000 ≤ x := by rw [Int32.le_iff_toInt_le, iZ_toInt (by omega) (by omega), show (-1000 : Int32).toInt = -1000 from rfl] at h3; omega
        exfalso
        omega
      · have h3 : ¬ 1000 ≤ x := by intro h9; apply h3; rw [Int32.le_iff_toInt_le, iZ_toInt (by omega) (by omega), show (-1000 : Int32).toInt = -1000 from rfl]; omega
        refine lv_iload_n hx hb d_I_size_27 rfl (lv_at hl 0 rfl) ?_
        refine lv_iload_n hx hb d_I_size_28 rfl (lv_at hl 3 rfl) ?_
        refine lv_iadd hx hb d_I_size_29 ?_
        exact W.iret hx hb hr (fun t ht hW => ⟨_, rfl, ⟨(by rw [tt_wd3 (by omega)]; rfl), ht⟩⟩) (fun q hq => nomatch hq) d_I_size_30
    · have h2 : ¬ 100 ≤ x := by intro h9; apply h2; rw [Int32.le_iff_toInt_le, iZ_toInt (by omega) (by omega), show (-100 : Int32).toInt = -100 from rfl]; omega
      refine lv_iload_n hx hb d_I_size_27 rfl (lv_at hl 0 rfl) ?_
      refine lv_iload_n hx hb d_I_size_28 rfl (lv_at hl 3 rfl) ?_
      refine lv_iadd hx hb d_I_size_29 ?_
      exact W.iret hx hb hr (fun t ht hW => ⟨_, rfl, ⟨(by rw [tt_wd2 (by omega) (by omega)]; rfl), ht⟩⟩) (fun q hq => nomatch hq) d_I_size_30
  · have h1 : ¬ 10 ≤ x := by intro h9; apply h1; rw [Int32.le_iff_toInt_le, iZ_toInt (by omega) (by omega), show (-10 : Int32).toInt = -10 from rfl]; omega
    refine lv_iload_n hx hb d_I_size_27 rfl (lv_at hl 0 rfl) ?_
    refine lv_iload_n hx hb d_I_size_28 rfl (lv_at hl 3 rfl) ?_
    refine lv_iadd hx hb d_I_size_29 ?_
    exact W.iret hx hb hr (fun t ht hW => ⟨_, rfl, ⟨(by rw [tt_wd1 (by omega)]; rfl), ht⟩⟩) (fun q hq => nomatch hq) d_I_size_30
set_option maxHeartbeats 4000000 in
set_option maxRecDepth 100000 in
theorem c_I_chars (l : Launch) (D : va_G) (cB : ClassId) (sz b v n cap : Nat) (f : Nat → Int32) {x : Nat} (hx9 : x < 1000) (hn9 : n + (tt_wd x).length ≤ cap) (hcap : cap ≤ 34) (hA9 : sb_A f) : Met l y_I_chars (wT y_I_chars b_I_chars 7 (some .int)) (rP 0 0) (tb (wBA D cB sz b v n cap f) [.int (nI x), .int (nI (n + (tt_wd x).length)), .ref v]) (tq_Q (fun o9 H H1 => o9 = some (.int (nI n)) ∧ ∃ f1, va_P D scl (sb_w cB b v n cap f1) H1 ∧ (∀ j, j < n → f1 j = f j) ∧ (∀ j, j < (tt_wd x).length → f1 (n + j) = nI ((tt_wd x).getD j 0)) ∧ sb_A f1 ∧ sO sz H H1)) 0 0 (aSz sz) := by
  refine va_MetF (cc := b_I_chars) (maxL := 7) (ret := (some .int)) (by decide +kernel) rfl ?_
  intro p e s m args below meth c s₁ B hml hv
  obtain ⟨rfl, hK, hC, hP, hD⟩ := hv
  have hx := B.exec
  have hb := B.bytes
  have hr := B.returns
  have hts := atoms_spec (ws := wT y_I_chars b_I_chars 7 (some .int)) B.pre
  have hT : ∀ w ∈ TT, w ∈ wT y_I_chars b_I_chars 7 (some .int) := wT_T
  have hown : s.vm.findClass RI = some m.cls := findClass_of_methodNamed B.named
  have hlocks := B.notSynchronized
  have hl := lv_entry ([.int (nI x), .int (nI (n + (tt_wd x).length)), .ref v]) (n := 7) (Nat.le_of_ble_eq_true rfl)
  rw [lg_entry_eq]
  generalize (lg_sl ([.int (nI x), .int (nI (n + (tt_wd x).length)), .ref v]) ++ List.replicate (7 - (lg_sl ([.int (nI x), .int (nI (n + (tt_wd x).length)), .ref v])).length) Slot.unset).toArray = ls at hl ⊢
  have hl : lv_has ls 7 [(0, .int (nI x)), (1, .int (nI (n + (tt_wd x).length))), (2, .ref v)] := hl
  have hS : va_S (aSz sz) s.heap s.heap [] := va_S.rf
  obtain ⟨t1, hZ1, hT1⟩ := hC.2.1
  obtain ⟨t2, hZ2, hT2⟩ := hC.2.2.1
  refine lv_iload_n hx hb d_I_chars_0 rfl (lv_at hl 1 rfl) ?_
  refine lv_istore hx hb d_I_chars_1 hl (by decide) (lv' := [(5, .int (nI (n + (tt_wd x).length))), (0, .int (nI x)), (1, .int (nI (n + (tt_wd x).length))), (2, .ref v)]) rfl (fun ls hl => ?_)
  refine lv_iload_n hx hb d_I_chars_3 rfl (lv_at hl 1 rfl) ?_
  refine lv_if_ge hx hb d_I_chars_4 (tgt := 11) (by decide) (fun _ => ?_) (fun hno => absurd (by rw [iv_ge0, nI_toInt (by omega)]; omega) hno)
  refine lv_iconst hx hb d_I_chars_11 (v := (nI 0)) rfl ?_
  refine lv_istore hx hb d_I_chars_12 hl (by decide) (lv' := [(6, .int (nI 0)), (5, .int (nI (n + (tt_wd x).length))), (0, .int (nI x)), (1, .int (nI (n + (tt_wd x).length))), (2, .ref v)]) rfl (fun ls hl => ?_)
  refine lv_iload hx hb d_I_chars_14 (lv_at hl 0 rfl) ?_
  refine lv_if_ne hx hb d_I_chars_16 (tgt := 22) (by decide) (fun hyes => absurd rfl hyes) (fun _ => ?_)
  refine lv_iload_n hx hb d_I_chars_19 rfl (lv_at hl 2 rfl) ?_
  refine lv_ineg hx hb d_I_chars_20 ?_
  refine tq_ti (show _ = (iZ (-(x : Int))) from (by rw [nI_iZ, iZ_neg])) ?_
  refine lv_istore_n hx hb d_I_chars_21 rfl hl (by decide) (lv' := [(0, .int (iZ (-(x : Int)))), (6, .int (nI 0)), (5, .int (nI (n + (tt_wd x).length))), (1, .int (nI (n + (tt_wd x).length))), (2, .ref v)]) rfl (fun ls hl => ?_)
  refine lv_iload_n hx hb d_I_chars_22 rfl (lv_at hl 0 rfl) ?_
  refine lv_bipush hx hb d_I_chars_23 (v := (-100)) rfl ?_
  by_cases h10 : x < 10
  · have e9 := tt_wd1 h10
    rw [e9] at hl hn9
    have hn9 : n + 1 ≤ cap := hn9
    refine lv_icmp_gt hx hb d_I_chars_25 (tgt := 72) (by decide) (fun _ => ?_) (fun hno => absurd (by rw [Int32.lt_iff_toInt_lt, iZ_toInt (by omega) (by omega), show (-100 : Int32).toInt = -100 from rfl]; omega) hno)
    refine lv_aload_n hx hb d_I_chars_72 rfl (lv_at hl 4 rfl) ?_
    refine lv_iinc hx hb d_I_chars_73 hl (k := 2) rfl (v := (nI (n + 0))) (by rw [show Int32.ofInt (-1) = -1 from rfl]; exact sb_m1 (p := n + 1) (by omega)) (by decide) (lv' := [(5, .int (nI (n + 0))), (0, .int (iZ (-(x : Int)))), (6, .int (nI 0)), (1, .int (nI (n + 1))), (2, .ref v)]) rfl (fun ls hl => ?_)
    refine lv_iload hx hb d_I_chars_76 (lv_at hl 0 rfl) ?_
    refine va_gets hx hb hZ1 hS hown (hts _ (hT _ k_I_83)) (fun _ h => h) d_I_chars_78 ?_
    refine lv_iload_n hx hb d_I_chars_81 rfl (lv_at hl 1 rfl) ?_
    refine lv_ineg hx hb d_I_chars_82 ?_
    refine tq_ti (show _ = (nI x) from (by rw [iZ_neg, nI_iZ]; congr 1; omega)) ?_
    refine va_tb hx hb hT1 hS (vp_in_nI (show x < 100 by omega) (by decide)) (v := .int (nI (tt_dg x 1))) (by rw [nI_clamp (by omega)]; show Value.int (nI (48 + x % 10)) = _; congr 2 <;> (unfold tt_dg; omega)) d_I_chars_83 ?_
    have hdg9 : (tt_dg x 1) < 128 := by unfold tt_dg; omega
    refine va_bast hx hb hK hP hD hS 1 0 rfl rfl (vp_in_nI (show n + 0 < cap by omega) (by omega)) d_I_chars_84 (fun H1 locs1 hP hD hS => ?_)
    rw [nI_clamp (by omega), (sb_nar (tt_dg x 1) hdg9).1] at hP hD
    have hP : va_P D scl (sb_w cB b v n cap (upd f (n + 0) (nI (tt_dg x 1)))) H1 := hP
    have hD : va_D (aSz sz) (sb_w cB b v n cap (upd f (n + 0) (nI (tt_dg x 1)))) := hD
    have hA9 := sb_Au (k := n + 0) hA9 hdg9
    refine lv_iload_n hx hb d_I_chars_85 rfl (lv_at hl 1 rfl) ?_
    refine lv_bipush hx hb d_I_chars_86 (v := (-9)) rfl ?_
    refine lv_icmp_ge hx hb d_I_chars_88 (tgt := 104) (by decide) (fun _ => ?_) (fun hno => absurd (by rw [Int32.le_iff_toInt_le, iZ_toInt (by omega) (by omega), show (-9 : Int32).toInt = -9 from rfl]; omega) hno)
    refine lv_iload hx hb d_I_chars_104 (lv_at hl 2 rfl) ?_
    refine lv_if_eq hx hb d_I_chars_106 (tgt := 118) (by decide) (fun _ => ?_) (fun hno => absurd rfl hno)
    refine lv_iload hx hb d_I_chars_118 (lv_at hl 0 rfl) ?_
    have q1 : ∀ j, j < n → (upd f (n + 0) (nI (tt_dg x 1))) j = f j := fun j hj => by unfold upd; simp only [if_neg (show ¬ j = n + 0 by omega)]
    have q2 : ∀ j, j < (tt_wd x).length → (upd f (n + 0) (nI (tt_dg x 1))) (n + j) = nI ((tt_wd x).getD j 0) := by
      rw [e9]
      intro j hj
      match j, hj with
      | 0, _ => simp [upd]
    exact W.iret hx hb hr (fun t ht hW => ⟨_, rfl, rfl, (upd f (n + 0) (nI (tt_dg x 1))), by rw [ht]; exact hP, q1, q2, hA9, by rw [ht]; exact sO.of hC.2.2.2.2.2.2 hS⟩) hS.2.2 d_I_chars_120
  · by_cases h100 : x < 100
    · have e9 := tt_wd2 h10 h100
      rw [e9] at hl hn9
      have hn9 : n + 2 ≤ cap := hn9
      refine lv_icmp_gt hx hb d_I_chars_25 (tgt := 72) (by decide) (fun _ => ?_) (fun hno => absurd (by rw [Int32.lt_iff_toInt_lt, iZ_toInt (by omega) (by omega), show (-100 : Int32).toInt = -100 from rfl]; omega) hno)
      refine lv_aload_n hx hb d_I_chars_72 rfl (lv_at hl 4 rfl) ?_
      refine lv_iinc hx hb d_I_chars_73 hl (k := 2) rfl (v := (nI (n + 1))) (by rw [show Int32.ofInt (-1) = -1 from rfl]; exact sb_m1 (p := n + 2) (by omega)) (by decide) (lv' := [(5, .int (nI (n + 1))), (0, .int (iZ (-(x : Int)))), (6, .int (nI 0)), (1, .int (nI (n + 2))), (2, .ref v)]) rfl (fun ls hl => ?_)
      refine lv_iload hx hb d_I_chars_76 (lv_at hl 0 rfl) ?_
      refine va_gets hx hb hZ1 hS hown (hts _ (hT _ k_I_83)) (fun _ h => h) d_I_chars_78 ?_
      refine lv_iload_n hx hb d_I_chars_81 rfl (lv_at hl 1 rfl) ?_
      refine lv_ineg hx hb d_I_chars_82 ?_
      refine tq_ti (show _ = (nI x) from (by rw [iZ_neg, nI_iZ]; congr 1; omega)) ?_
      refine va_tb hx hb hT1 hS (vp_in_nI (show x < 100 by omega) (by decide)) (v := .int (nI (tt_dg x 1))) (by rw [nI_clamp (by omega)]; show Value.int (nI (48 + x % 10)) = _; congr 2 <;> (unfold tt_dg; omega)) d_I_chars_83 ?_
      have hdg9 : (tt_dg x 1) < 128 := by unfold tt_dg; omega
      refine va_bast hx hb hK hP hD hS 1 0 rfl rfl (vp_in_nI (show n + 1 < cap by omega) (by omega)) d_I_chars_84 (fun H1 locs1 hP hD hS => ?_)
      rw [nI_clamp (by omega), (sb_nar (tt_dg x 1) hdg9).1] at hP hD
      have hP : va_P D scl (sb_w cB b v n cap (upd f (n + 1) (nI (tt_dg x 1)))) H1 := hP
      have hD : va_D (aSz sz) (sb_w cB b v n cap (upd f (n + 1) (nI (tt_dg x 1)))) := hD
      have hA9 := sb_Au (k := n + 1) hA9 hdg9
      refine lv_iload_n hx hb d_I_chars_85 rfl (lv_at hl 1 rfl) ?_
      refine lv_bipush hx hb d_I_chars_86 (v := (-9)) rfl ?_
      refine lv_icmp_ge hx hb d_I_chars_88 (tgt := 104) (by decide) (fun hyes => absurd hyes (by rw [Int32.le_iff_toInt_le, iZ_toInt (by omega) (by omega), show (-9 : Int32).toInt = -9 from rfl]; omega)) (fun _ => ?_)
      refine lv_aload_n hx hb d_I_chars_91 rfl (lv_at hl 4 rfl) ?_
      refine lv_iinc hx hb d_I_chars_92 hl (k := 0) rfl (v := (nI (n + 0))) (by rw [show Int32.ofInt (-1) = -1 from rfl]; exact sb_m1 (p := n + 1) (by omega)) (by decide) (lv' := [(5, .int (nI (n + 0))), (0, .int (iZ (-(x : Int)))), (6, .int (nI 0)), (1, .int (nI (n + 2))), (2, .ref v)]) rfl (fun ls hl => ?_)
      refine lv_iload hx hb d_I_chars_95 (lv_at hl 0 rfl) ?_
      refine va_gets hx hb hZ2 hS hown (hts _ (hT _ k_I_87)) (fun _ h => h) d_I_chars_97 ?_
      refine lv_iload_n hx hb d_I_chars_100 rfl (lv_at hl 1 rfl) ?_
      refine lv_ineg hx hb d_I_chars_101 ?_
      refine tq_ti (show _ = (nI x) from (by rw [iZ_neg, nI_iZ]; congr 1; omega)) ?_
      refine va_tb hx hb hT2 hS (vp_in_nI (show x < 100 by omega) (by decide)) (v := .int (nI (tt_dg x 10))) (by rw [nI_clamp (by omega)]; show Value.int (nI (48 + x / 10)) = _; congr 2 <;> (unfold tt_dg; omega)) d_I_chars_102 ?_
      have hdg9 : (tt_dg x 10) < 128 := by unfold tt_dg; omega
      refine va_bast hx hb hK hP hD hS 1 0 rfl rfl (vp_in_nI (show n + 0 < cap by omega) (by omega)) d_I_chars_103 (fun H1 locs1 hP hD hS => ?_)
      rw [nI_clamp (by omega), (sb_nar (tt_dg x 10) hdg9).1] at hP hD
      have hP : va_P D scl (sb_w cB b v n cap (upd (upd f (n + 1) (nI (tt_dg x 1))) (n + 0) (nI (tt_dg x 10)))) H1 := hP
      have hD : va_D (aSz sz) (sb_w cB b v n cap (upd (upd f (n + 1) (nI (tt_dg x 1))) (n + 0) (nI (tt_dg x 10)))) := hD
      have hA9 := sb_Au (k := n + 0) hA9 hdg9
      refine lv_iload hx hb d_I_chars_104 (lv_at hl 2 rfl) ?_
      refine lv_if_eq hx hb d_I_chars_106 (tgt := 118) (by decide) (fun _ => ?_) (fun hno => absurd rfl hno)
      refine lv_iload hx hb d_I_chars_118 (lv_at hl 0 rfl) ?_
      have q1 : ∀ j, j < n → (upd (upd f (n + 1) (nI (tt_dg x 1))) (n + 0) (nI (tt_dg x 10))) j = f j := fun j hj => by unfold upd; simp only [if_neg (show ¬ j = n + 0 by omega), if_neg (show ¬ j = n + 1 by omega)]
      have q2 : ∀ j, j < (tt_wd x).length → (upd (upd f (n + 1) (nI (tt_dg x 1))) (n + 0) (nI (tt_dg x 10))) (n + j) = nI ((tt_wd x).getD j 0) := by
        rw [e9]
        intro j hj
        match j, hj with
        | 0, _ => simp [upd]
        | 1, _ => simp [upd]
      exact W.iret hx hb hr (fun t ht hW => ⟨_, rfl, rfl, (upd (upd f (n + 1) (nI (tt_dg x 1))) (n + 0) (nI (tt_dg x 10))), by rw [ht]; exact hP, q1, q2, hA9, by rw [ht]; exact sO.of hC.2.2.2.2.2.2 hS⟩) hS.2.2 d_I_chars_120
    · have e9 := tt_wd3 h100
      rw [e9] at hl hn9
      have hn9 : n + 3 ≤ cap := hn9
      refine lv_icmp_gt hx hb d_I_chars_25 (tgt := 72) (by decide) (fun hyes => absurd hyes (by rw [Int32.lt_iff_toInt_lt, iZ_toInt (by omega) (by omega), show (-100 : Int32).toInt = -100 from rfl]; omega)) (fun _ => ?_)
      refine lv_iload_n hx hb d_I_chars_28 rfl (lv_at hl 0 rfl) ?_
      refine lv_bipush hx hb d_I_chars_29 (v := (nI 100)) rfl ?_
      refine lv_idiv hx hb d_I_chars_31 (by decide) ?_
      refine tq_ti (show _ = (iZ (-((x / 100 : Nat) : Int))) from (by rw [← iZ_neg, ← nI_iZ, show nI 100 = 100 from rfl, sb_ndiv (by omega), nI_iZ, iZ_neg])) ?_
      refine lv_istore_n hx hb d_I_chars_32 rfl hl (by decide) (lv' := [(3, .int (iZ (-((x / 100 : Nat) : Int)))), (0, .int (iZ (-(x : Int)))), (6, .int (nI 0)), (5, .int (nI (n + 3))), (1, .int (nI (n + 3))), (2, .ref v)]) rfl (fun ls hl => ?_)
      refine lv_iload_n hx hb d_I_chars_33 rfl (lv_at hl 0 rfl) ?_
      refine lv_bipush hx hb d_I_chars_34 (v := (nI 100)) rfl ?_
      refine lv_imul hx hb d_I_chars_36 ?_
      refine lv_iload_n hx hb d_I_chars_37 rfl (lv_at hl 1 rfl) ?_
      refine lv_isub hx hb d_I_chars_38 ?_
      refine tq_ti (show _ = (nI (x % 100)) from (by rw [show nI 100 = iZ 100 from rfl, iZ_mul, iZ_sub, nI_iZ]; congr 1; omega)) ?_
      refine lv_istore hx hb d_I_chars_39 hl (by decide) (lv' := [(4, .int (nI (x % 100))), (3, .int (iZ (-((x / 100 : Nat) : Int)))), (0, .int (iZ (-(x : Int)))), (6, .int (nI 0)), (5, .int (nI (n + 3))), (1, .int (nI (n + 3))), (2, .ref v)]) rfl (fun ls hl => ?_)
      refine lv_iload_n hx hb d_I_chars_41 rfl (lv_at hl 1 rfl) ?_
      refine lv_istore_n hx hb d_I_chars_42 rfl hl (by decide) (lv' := [(0, .int (iZ (-((x / 100 : Nat) : Int)))), (4, .int (nI (x % 100))), (3, .int (iZ (-((x / 100 : Nat) : Int)))), (6, .int (nI 0)), (5, .int (nI (n + 3))), (1, .int (nI (n + 3))), (2, .ref v)]) rfl (fun ls hl => ?_)
      refine lv_aload_n hx hb d_I_chars_43 rfl (lv_at hl 6 rfl) ?_
      refine lv_iinc hx hb d_I_chars_44 hl (k := 4) rfl (v := (nI (n + 2))) (by rw [show Int32.ofInt (-1) = -1 from rfl]; exact sb_m1 (p := n + 3) (by omega)) (by decide) (lv' := [(5, .int (nI (n + 2))), (0, .int (iZ (-((x / 100 : Nat) : Int)))), (4, .int (nI (x % 100))), (3, .int (iZ (-((x / 100 : Nat) : Int)))), (6, .int (nI 0)), (1, .int (nI (n + 3))), (2, .ref v)]) rfl (fun ls hl => ?_)
      refine lv_iload hx hb d_I_chars_47 (lv_at hl 0 rfl) ?_
      refine va_gets hx hb hZ1 hS hown (hts _ (hT _ k_I_83)) (fun _ h => h) d_I_chars_49 ?_
      refine lv_iload hx hb d_I_chars_52 (lv_at hl 2 rfl) ?_
      refine va_tb hx hb hT1 hS (vp_in_nI (show (x % 100) < 100 by omega) (by decide)) (v := .int (nI (tt_dg x 1))) (by rw [nI_clamp (by omega)]; show Value.int (nI (48 + (x % 100) % 10)) = _; congr 2 <;> (unfold tt_dg; omega)) d_I_chars_54 ?_
      have hdg9 : (tt_dg x 1) < 128 := by unfold tt_dg; omega
      refine va_bast hx hb hK hP hD hS 1 0 rfl rfl (vp_in_nI (show n + 2 < cap by omega) (by omega)) d_I_chars_55 (fun H1 locs1 hP hD hS => ?_)
      rw [nI_clamp (by omega), (sb_nar (tt_dg x 1) hdg9).1] at hP hD
      have hP : va_P D scl (sb_w cB b v n cap (upd f (n + 2) (nI (tt_dg x 1)))) H1 := hP
      have hD : va_D (aSz sz) (sb_w cB b v n cap (upd f (n + 2) (nI (tt_dg x 1)))) := hD
      have hA9 := sb_Au (k := n + 2) hA9 hdg9
      refine lv_aload_n hx hb d_I_chars_56 rfl (lv_at hl 6 rfl) ?_
      refine lv_iinc hx hb d_I_chars_57 hl (k := 0) rfl (v := (nI (n + 1))) (by rw [show Int32.ofInt (-1) = -1 from rfl]; exact sb_m1 (p := n + 2) (by omega)) (by decide) (lv' := [(5, .int (nI (n + 1))), (0, .int (iZ (-((x / 100 : Nat) : Int)))), (4, .int (nI (x % 100))), (3, .int (iZ (-((x / 100 : Nat) : Int)))), (6, .int (nI 0)), (1, .int (nI (n + 3))), (2, .ref v)]) rfl (fun ls hl => ?_)
      refine lv_iload hx hb d_I_chars_60 (lv_at hl 0 rfl) ?_
      refine va_gets hx hb hZ2 hS hown (hts _ (hT _ k_I_87)) (fun _ h => h) d_I_chars_62 ?_
      refine lv_iload hx hb d_I_chars_65 (lv_at hl 2 rfl) ?_
      refine va_tb hx hb hT2 hS (vp_in_nI (show (x % 100) < 100 by omega) (by decide)) (v := .int (nI (tt_dg x 10))) (by rw [nI_clamp (by omega)]; show Value.int (nI (48 + (x % 100) / 10)) = _; congr 2 <;> (unfold tt_dg; omega)) d_I_chars_67 ?_
      have hdg9 : (tt_dg x 10) < 128 := by unfold tt_dg; omega
      refine va_bast hx hb hK hP hD hS 1 0 rfl rfl (vp_in_nI (show n + 1 < cap by omega) (by omega)) d_I_chars_68 (fun H1 locs1 hP hD hS => ?_)
      rw [nI_clamp (by omega), (sb_nar (tt_dg x 10) hdg9).1] at hP hD
      have hP : va_P D scl (sb_w cB b v n cap (upd (upd f (n + 2) (nI (tt_dg x 1))) (n + 1) (nI (tt_dg x 10)))) H1 := hP
      have hD : va_D (aSz sz) (sb_w cB b v n cap (upd (upd f (n + 2) (nI (tt_dg x 1))) (n + 1) (nI (tt_dg x 10)))) := hD
      have hA9 := sb_Au (k := n + 1) hA9 hdg9
      refine lv_goto hx hb d_I_chars_69 (tgt := 22) (by decide) ?_
      refine lv_iload_n hx hb d_I_chars_22 rfl (lv_at hl 1 rfl) ?_
      refine lv_bipush hx hb d_I_chars_23 (v := (-100)) rfl ?_
      refine lv_icmp_gt hx hb d_I_chars_25 (tgt := 72) (by decide) (fun _ => ?_) (fun hno => absurd (by rw [Int32.lt_iff_toInt_lt, iZ_toInt (by omega) (by omega), show (-100 : Int32).toInt = -100 from rfl]; omega) hno)
      refine lv_aload_n hx hb d_I_chars_72 rfl (lv_at hl 6 rfl) ?_
      refine lv_iinc hx hb d_I_chars_73 hl (k := 0) rfl (v := (nI (n + 0))) (by rw [show Int32.ofInt (-1) = -1 from rfl]; exact sb_m1 (p := n + 1) (by omega)) (by decide) (lv' := [(5, .int (nI (n + 0))), (0, .int (iZ (-((x / 100 : Nat) : Int)))), (4, .int (nI (x % 100))), (3, .int (iZ (-((x / 100 : Nat) : Int)))), (6, .int (nI 0)), (1, .int (nI (n + 3))), (2, .ref v)]) rfl (fun ls hl => ?_)
      refine lv_iload hx hb d_I_chars_76 (lv_at hl 0 rfl) ?_
      refine va_gets hx hb hZ1 hS hown (hts _ (hT _ k_I_83)) (fun _ h => h) d_I_chars_78 ?_
      refine lv_iload_n hx hb d_I_chars_81 rfl (lv_at hl 1 rfl) ?_
      refine lv_ineg hx hb d_I_chars_82 ?_
      refine tq_ti (show _ = (nI (x / 100)) from (by rw [iZ_neg, nI_iZ]; congr 1; omega)) ?_
      refine va_tb hx hb hT1 hS (vp_in_nI (show (x / 100) < 100 by omega) (by decide)) (v := .int (nI (tt_dg x 100))) (by rw [nI_clamp (by omega)]; show Value.int (nI (48 + (x / 100) % 10)) = _; congr 2 <;> (unfold tt_dg; omega)) d_I_chars_83 ?_
      have hdg9 : (tt_dg x 100) < 128 := by unfold tt_dg; omega
      refine va_bast hx hb hK hP hD hS 1 0 rfl rfl (vp_in_nI (show n + 0 < cap by omega) (by omega)) d_I_chars_84 (fun H1 locs1 hP hD hS => ?_)
      rw [nI_clamp (by omega), (sb_nar (tt_dg x 100) hdg9).1] at hP hD
      have hP : va_P D scl (sb_w cB b v n cap (upd (upd (upd f (n + 2) (nI (tt_dg x 1))) (n + 1) (nI (tt_dg x 10))) (n + 0) (nI (tt_dg x 100)))) H1 := hP
      have hD : va_D (aSz sz) (sb_w cB b v n cap (upd (upd (upd f (n + 2) (nI (tt_dg x 1))) (n + 1) (nI (tt_dg x 10))) (n + 0) (nI (tt_dg x 100)))) := hD
      have hA9 := sb_Au (k := n + 0) hA9 hdg9
      refine lv_iload_n hx hb d_I_chars_85 rfl (lv_at hl 1 rfl) ?_
      refine lv_bipush hx hb d_I_chars_86 (v := (-9)) rfl ?_
      refine lv_icmp_ge hx hb d_I_chars_88 (tgt := 104) (by decide) (fun _ => ?_) (fun hno => absurd (by rw [Int32.le_iff_toInt_le, iZ_toInt (by omega) (by omega), show (-9 : Int32).toInt = -9 from rfl]; omega) hno)
      refine lv_iload hx hb d_I_chars_104 (lv_at hl 4 rfl) ?_
      refine lv_if_eq hx hb d_I_chars_106 (tgt := 118) (by decide) (fun _ => ?_) (fun hno => absurd rfl hno)
      refine lv_iload hx hb d_I_chars_118 (lv_at hl 0 rfl) ?_
      have q1 : ∀ j, j < n → (upd (upd (upd f (n + 2) (nI (tt_dg x 1))) (n + 1) (nI (tt_dg x 10))) (n + 0) (nI (tt_dg x 100))) j = f j := fun j hj => by unfold upd; simp only [if_neg (show ¬ j = n + 0 by omega), if_neg (show ¬ j = n + 1 by omega), if_neg (show ¬ j = n + 2 by omega)]
      have q2 : ∀ j, j < (tt_wd x).length → (upd (upd (upd f (n + 2) (nI (tt_dg x 1))) (n + 1) (nI (tt_dg x 10))) (n + 0) (nI (tt_dg x 100))) (n + j) = nI ((tt_wd x).getD j 0) := by
        rw [e9]
        intro j hj
        match j, hj with
        | 0, _ => simp [upd]
        | 1, _ => simp [upd]
        | 2, _ => simp [upd]
      exact W.iret hx hb hr (fun t ht hW => ⟨_, rfl, rfl, (upd (upd (upd f (n + 2) (nI (tt_dg x 1))) (n + 1) (nI (tt_dg x 10))) (n + 0) (nI (tt_dg x 100))), by rw [ht]; exact hP, q1, q2, hA9, by rw [ht]; exact sO.of hC.2.2.2.2.2.2 hS⟩) hS.2.2 d_I_chars_120
set_option maxHeartbeats 4000000 in
set_option maxRecDepth 100000 in
theorem c_A_appI (l : Launch) (D : va_G) (cB : ClassId) (sz b : Nat) {L : List Nat} {x : Nat} (hx9 : x < 1000) (h34 : L.length + 3 ≤ 34) : Met l y_A_appI (wT y_A_appI b_A_appI 4 (some (.object "java/lang/AbstractStringBuilder"))) ({ frames := 4, cells := 1, slots := 34, locals := 112 }) (tb (wS D cB sz b L) [.ref b, .int (nI x)]) (sbQ D cB sz b (L ++ tt_wd x) (some (.ref b))) 1 34 (aSz sz) := by
  refine va_MetF (cc := b_A_appI) (maxL := 4) (ret := (some (.object "java/lang/AbstractStringBuilder"))) (by decide +kernel) rfl ?_
  intro p e s m args below meth c s₁ B hml hv
  obtain ⟨rfl, hK, hC, v, cap, f, hP, hD, hcap, hlen, hTX, hA9⟩ := hv
  have hx := B.exec
  have hb := B.bytes
  have hr := B.returns
  have hts := atoms_spec (ws := wT y_A_appI b_A_appI 4 (some (.object "java/lang/AbstractStringBuilder"))) B.pre
  have hT : ∀ w ∈ TT, w ∈ wT y_A_appI b_A_appI 4 (some (.object "java/lang/AbstractStringBuilder")) := wT_T
  have hown : s.vm.findClass RA = some m.cls := findClass_of_methodNamed B.named
  have hlocks := B.notSynchronized
  have hl := lv_entry ([.ref b, .int (nI x)]) (n := 4) (Nat.le_of_ble_eq_true rfl)
  rw [lg_entry_eq]
  generalize (lg_sl ([.ref b, .int (nI x)]) ++ List.replicate (4 - (lg_sl ([.ref b, .int (nI x)])).length) Slot.unset).toArray = ls at hl ⊢
  have hl : lv_has ls 4 [(0, .ref b), (1, .int (nI x))] := hl
  have hS : va_S (aSz sz) s.heap s.heap [] := va_S.rf
  have hwl := tt_wd_len x
  refine lv_aload_n hx hb d_A_appI_0 rfl (lv_at hl 0 rfl) ?_
  refine va_get hx hb hts (fun w h => hT w (uS_in w h)) hown hK hP 0 rfl rfl 3 (by decide) (hts _ (hT _ k_A_79)) (fun _ h => h) rfl d_A_appI_1 ?_
  refine lv_istore_n hx hb d_A_appI_4 rfl hl (by decide) (lv' := [(2, .int (nI L.length)), (0, .ref b), (1, .int (nI x))]) rfl (fun ls hl => ?_)
  refine lv_iload_n hx hb d_A_appI_5 rfl (lv_at hl 0 rfl) ?_
  refine lv_iload_n hx hb d_A_appI_6 rfl (lv_at hl 2 rfl) ?_
  refine tq_S ⟨hx, hb, hml, hown, hts⟩ hT (c_I_size l hx9) lk_A_245 wN_mv trivial rfl hl.1 rfl (Nat.le_of_ble_eq_true rfl) d_A_appI_7 ⟨rfl, rfl, Nat.le_of_ble_eq_true rfl, Nat.le_of_ble_eq_true rfl⟩ ⟨Nat.zero_le _, Nat.zero_le _⟩ ?_
  refine lv_iadd hx hb d_A_appI_10 ?_
  refine tq_ti (show _ = (nI (L.length + (tt_wd x).length)) from nI_add _ _) ?_
  refine lv_istore_n hx hb d_A_appI_11 rfl hl (by decide) (lv' := [(3, .int (nI (L.length + (tt_wd x).length))), (2, .int (nI L.length)), (0, .ref b), (1, .int (nI x))]) rfl (fun ls hl => ?_)
  refine lv_aload_n hx hb d_A_appI_12 rfl (lv_at hl 2 rfl) ?_
  refine lv_iload_n hx hb d_A_appI_13 rfl (lv_at hl 0 rfl) ?_
  refine tg_P ⟨hx, hb, hml, hown, hts⟩ hT (c_A_ens l D cB sz b v L.length cap f (q := L.length + (tt_wd x).length) hcap (by omega) hA9) lk_A_100 (hC.2.2.2.2.2.1 _ (List.mem_of_getElem? (i := 0) rfl)) wBA_mv ⟨hK, hC, hP, hD⟩ (sb_rc hK hP rfl) rfl hl.1 rfl (Nat.le_of_ble_eq_true rfl) d_A_appI_14 ⟨rfl, rfl, Nat.le_of_ble_eq_true rfl, Nat.le_of_ble_eq_true rfl⟩ ⟨Nat.le_of_ble_eq_true rfl, Nat.le_of_ble_eq_true rfl⟩ hS.2.2 (fun v9 H1 locs1 hF9 hL9 => ?_)
  obtain ⟨rfl, v1, cap1, f1, hP, hD, hcap1, hq1, hcc, hk9, hA1, hO9⟩ := hF9
  have hS : va_S (aSz sz) s.heap H1 locs1 := va_S.st hC.2.2.2.2.2.2 hS hO9 hL9
  have hC1 := kc_kept hC hO9.1 hO9.2
  refine lv_aload_n hx hb d_A_appI_17 rfl (lv_at hl 2 rfl) ?_
  refine tq_V ⟨hx, hb, hml, hown, hts⟩ hT (c_A_isL1 l D cB sz b (.ref v1) (.int 0) (.int (nI L.length))) lk_A_83 wB_mv ⟨hK, hC1, vP_hd hP⟩ (sb_rc hK hP rfl) rfl hl.1 rfl (Nat.le_of_ble_eq_true rfl) d_A_appI_18 ⟨rfl, rfl, Nat.le_of_ble_eq_true rfl, Nat.le_of_ble_eq_true rfl⟩ ⟨Nat.le_of_ble_eq_true rfl, Nat.le_of_ble_eq_true rfl⟩ ?_
  refine lv_if_eq hx hb d_A_appI_21 (tgt := 37) (by decide) (fun hyes => absurd hyes (by decide)) (fun _ => ?_)
  refine lv_iload_n hx hb d_A_appI_24 rfl (lv_at hl 3 rfl) ?_
  refine lv_iload_n hx hb d_A_appI_25 rfl (lv_at hl 0 rfl) ?_
  refine lv_aload_n hx hb d_A_appI_26 rfl (lv_at hl 2 rfl) ?_
  refine va_get hx hb hts (fun w h => hT w (uS_in w h)) hown hK hP 0 rfl rfl 0 (by decide) (hts _ (hT _ k_A_15)) (fun _ h => h) rfl d_A_appI_27 ?_
  refine tg_S ⟨hx, hb, hml, hown, hts⟩ hT (c_I_chars l D cB sz b v1 L.length cap1 f1 hx9 hq1 (by omega) hA1) lk_A_248 wBA_mv ⟨hK, hC1, hP, hD⟩ rfl hl.1 rfl (Nat.le_of_ble_eq_true rfl) d_A_appI_30 ⟨rfl, rfl, Nat.le_of_ble_eq_true rfl, Nat.le_of_ble_eq_true rfl⟩ ⟨Nat.le_of_ble_eq_true rfl, Nat.le_of_ble_eq_true rfl⟩ hS.2.2 (fun v9 H1 locs1 hF9 hL9 => ?_)
  obtain ⟨rfl, f2, hP, hk8, hd8, hA2, hO8⟩ := hF9
  have hS : va_S (aSz sz) s.heap H1 locs1 := va_S.st hC.2.2.2.2.2.2 hS hO8 hL9
  have hD : va_D (aSz sz) (sb_w cB b v1 L.length cap1 f2) := sb_D (hD.2 0 _ rfl) (hD.2 1 _ rfl) (fun z => absurd (hD.1 0 1 _ _ rfl rfl z) (by decide))
  refine lv_pop hx hb d_A_appI_33 rfl ?_
  refine lv_goto hx hb d_A_appI_34 (tgt := 48) (by decide) ?_
  refine lv_aload_n hx hb d_A_appI_48 rfl (lv_at hl 2 rfl) ?_
  refine lv_iload_n hx hb d_A_appI_49 rfl (lv_at hl 0 rfl) ?_
  refine va_put hx hb hts (fun w h => hT w (uS_in w h)) tSB tSB_ok nSB hown hK hP hD hS 0 rfl rfl 3 (by decide) (hts _ (hT _ k_A_79)) (fun _ h => h) rfl (ty := .int) rfl rfl rfl (Nat.le_of_ble_eq_true rfl) d_A_appI_50 (fun H1 locs1 hP hD hS => ?_)
  have hP : va_P D scl (sb_w cB b v1 (L.length + (tt_wd x).length) cap1 f2) H1 := hP
  have hD : va_D (aSz sz) (sb_w cB b v1 (L.length + (tt_wd x).length) cap1 f2) := hD
  refine lv_aload_n hx hb d_A_appI_53 rfl (lv_at hl 2 rfl) ?_
  have eL : (L ++ tt_wd x).length = L.length + (tt_wd x).length := List.length_append
  rw [← eL] at hP hD
  have hTX1 : tt_TX (L ++ tt_wd x) f2 := by
    intro j hj
    rw [eL] at hj
    by_cases e : j < L.length
    · rw [hk8 j e, hk9 j (by omega), hTX j e]
      simp [List.getElem?_append, e]
    · have h9 := hd8 (j - L.length) (by omega)
      rw [show L.length + (j - L.length) = j by omega] at h9
      rw [h9]
      simp [List.getElem?_append, e]
  have hB : sbS D cB sz b (L ++ tt_wd x) H1 := ⟨v1, cap1, _, hP, hD, hcap1, by omega, hTX1, hA2⟩
  have hO := sO.of hC.2.2.2.2.2.2 hS
  exact W.aret hx hb hr (Or.inl ⟨_, rfl⟩) (Or.inr ⟨_, rfl⟩) (fun t ht hW => ⟨_, rfl, rfl, by rw [ht]; exact hB, by rw [ht]; exact hO⟩) hS.2.2 d_A_appI_54
set_option maxHeartbeats 4000000 in
set_option maxRecDepth 100000 in
theorem c_S_appI (l : Launch) (D : va_G) (cB : ClassId) (sz b : Nat) {L : List Nat} {x : Nat} (hx9 : x < 1000) (h34 : L.length + 3 ≤ 34) : Met l y_S_appI (wT y_S_appI b_S_appI 2 (some (.object "java/lang/StringBuilder"))) ({ frames := 5, cells := 1, slots := 34, locals := 135 }) (tb (wS D cB sz b L) [.ref b, .int (nI x)]) (sbQ D cB sz b (L ++ tt_wd x) (some (.ref b))) 1 34 (aSz sz) := by
  refine va_MetF (cc := b_S_appI) (maxL := 2) (ret := (some (.object "java/lang/StringBuilder"))) (by decide +kernel) rfl ?_
  intro p e s m args below meth c s₁ B hml hv
  obtain ⟨rfl, hK, hC, hB⟩ := hv
  have hx := B.exec
  have hb := B.bytes
  have hr := B.returns
  have hts := atoms_spec (ws := wT y_S_appI b_S_appI 2 (some (.object "java/lang/StringBuilder"))) B.pre
  have hT : ∀ w ∈ TT, w ∈ wT y_S_appI b_S_appI 2 (some (.object "java/lang/StringBuilder")) := wT_T
  have hown : s.vm.findClass RS = some m.cls := findClass_of_methodNamed B.named
  have hlocks := B.notSynchronized
  have hl := lv_entry ([.ref b, .int (nI x)]) (n := 2) (Nat.le_of_ble_eq_true rfl)
  rw [lg_entry_eq]
  generalize (lg_sl ([.ref b, .int (nI x)]) ++ List.replicate (2 - (lg_sl ([.ref b, .int (nI x)])).length) Slot.unset).toArray = ls at hl ⊢
  have hl : lv_has ls 2 [(0, .ref b), (1, .int (nI x))] := hl
  have hS : va_S (aSz sz) s.heap s.heap [] := va_S.rf
  refine lv_aload_n hx hb d_S_appI_0 rfl (lv_at hl 0 rfl) ?_
  refine lv_iload_n hx hb d_S_appI_1 rfl (lv_at hl 1 rfl) ?_
  refine tg_U (hK.1 0 _ rfl).2 ⟨hx, hb, hml, hown, hts⟩ hT (c_A_appI l D cB sz b hx9 h34) lk_S_53 wS_mv ⟨hK, hC, hB⟩ (sbS_rc hK hB) rfl hl.1 rfl (Nat.le_of_ble_eq_true rfl) d_S_appI_2 ⟨rfl, rfl, Nat.le_of_ble_eq_true rfl, Nat.le_of_ble_eq_true rfl⟩ ⟨Nat.le_of_ble_eq_true rfl, Nat.le_of_ble_eq_true rfl⟩ hS.2.2 (fun v9 H1 locs1 hF9 hL9 => ?_)
  obtain ⟨rfl, hB, hO⟩ := hF9
  refine lv_pop hx hb d_S_appI_5 rfl ?_
  refine lv_aload_n hx hb d_S_appI_6 rfl (lv_at hl 0 rfl) ?_
  exact W.aret hx hb hr (Or.inl ⟨_, rfl⟩) (Or.inr ⟨_, rfl⟩) (fun t ht hW => ⟨_, rfl, rfl, by rw [ht]; exact hB, by rw [ht]; exact hO⟩) hL9 d_S_appI_7
set_option maxHeartbeats 4000000 in
set_option maxRecDepth 100000 in
theorem c_A_len (l : Launch) (D : va_G) (cB : ClassId) (sz b : Nat) {L : List Nat} : Met l y_A_len (wT y_A_len b_A_len 1 (some .int)) (rP 0 0) (tb (wS D cB sz b L) [.ref b]) (tq_P (some (.int (nI L.length)))) 0 0 tq_n := by
  refine va_MetF (cc := b_A_len) (maxL := 1) (ret := (some .int)) (by decide +kernel) rfl ?_
  intro p e s m args below meth c s₁ B hml hv
  obtain ⟨rfl, hK, hC, v, cap, f, hP, hD, hcap, hlen, hTX, hA9⟩ := hv
  have hx := B.exec
  have hb := B.bytes
  have hr := B.returns
  have hts := atoms_spec (ws := wT y_A_len b_A_len 1 (some .int)) B.pre
  have hT : ∀ w ∈ TT, w ∈ wT y_A_len b_A_len 1 (some .int) := wT_T
  have hown : s.vm.findClass RA = some m.cls := findClass_of_methodNamed B.named
  have hlocks := B.notSynchronized
  have hl := lv_entry ([.ref b]) (n := 1) (Nat.le_of_ble_eq_true rfl)
  rw [lg_entry_eq]
  generalize (lg_sl ([.ref b]) ++ List.replicate (1 - (lg_sl ([.ref b])).length) Slot.unset).toArray = ls at hl ⊢
  have hl : lv_has ls 1 [(0, .ref b)] := hl
  refine lv_aload_n hx hb d_A_len_0 rfl (lv_at hl 0 rfl) ?_
  refine va_get hx hb hts (fun w h => hT w (uS_in w h)) hown hK hP 0 rfl rfl 3 (by decide) (hts _ (hT _ k_A_79)) (fun _ h => h) rfl d_A_len_1 ?_
  exact W.iret hx hb hr (fun t ht hW => ⟨_, rfl, ⟨rfl, ht⟩⟩) (fun q hq => nomatch hq) d_A_len_4
set_option maxHeartbeats 4000000 in
set_option maxRecDepth 100000 in
theorem c_S_len (l : Launch) (D : va_G) (cB : ClassId) (sz b : Nat) {L : List Nat} : Met l y_S_len (wT y_S_len b_S_len 1 (some .int)) (rP 1 20) (tb (wS D cB sz b L) [.ref b]) (tq_P (some (.int (nI L.length)))) 0 0 tq_n := by
  refine va_MetF (cc := b_S_len) (maxL := 1) (ret := (some .int)) (by decide +kernel) rfl ?_
  intro p e s m args below meth c s₁ B hml hv
  obtain ⟨rfl, hK, hC, hB⟩ := hv
  have hx := B.exec
  have hb := B.bytes
  have hr := B.returns
  have hts := atoms_spec (ws := wT y_S_len b_S_len 1 (some .int)) B.pre
  have hT : ∀ w ∈ TT, w ∈ wT y_S_len b_S_len 1 (some .int) := wT_T
  have hown : s.vm.findClass RS = some m.cls := findClass_of_methodNamed B.named
  have hlocks := B.notSynchronized
  have hl := lv_entry ([.ref b]) (n := 1) (Nat.le_of_ble_eq_true rfl)
  rw [lg_entry_eq]
  generalize (lg_sl ([.ref b]) ++ List.replicate (1 - (lg_sl ([.ref b])).length) Slot.unset).toArray = ls at hl ⊢
  have hl : lv_has ls 1 [(0, .ref b)] := hl
  refine lv_aload_n hx hb d_S_len_0 rfl (lv_at hl 0 rfl) ?_
  refine tg_U (hK.1 0 _ rfl).2 ⟨hx, hb, hml, hown, hts⟩ hT (c_A_len l D cB sz b) lk_S_343 wS_mv ⟨hK, hC, hB⟩ (sbS_rc hK hB) rfl hl.1 rfl (Nat.le_of_ble_eq_true rfl) d_S_len_1 ⟨rfl, rfl, Nat.le_of_ble_eq_true rfl, Nat.le_of_ble_eq_true rfl⟩ ⟨Nat.le_of_ble_eq_true rfl, Nat.le_of_ble_eq_true rfl⟩ (fun q hq => nomatch hq) (fun v9 H1 locs1 hF9 hL9 => ?_)
  obtain ⟨rfl, rfl⟩ := hF9
  exact W.iret hx hb hr (fun t ht hW => ⟨_, rfl, ⟨rfl, ht⟩⟩) hL9 d_S_len_4
set_option maxHeartbeats 4000000 in
set_option maxRecDepth 100000 in
theorem c_O_chkN (l : Launch) {i n : Nat} (hi : i < n) (hn : n < 2147483648) : Met l y_O_chk (wT y_O_chk b_O_chk 3 (some .int)) (rP 0 0) (tb (wN) [.int (nI i), .int (nI n), .null ]) (tq_P (some (.int (nI i)))) 0 0 tq_n := by
  refine va_MetF (cc := b_O_chk) (maxL := 3) (ret := (some .int)) (by decide +kernel) rfl ?_
  intro p e s m args below meth c s₁ B hml hv
  obtain ⟨rfl, hv⟩ := hv
  have hx := B.exec
  have hb := B.bytes
  have hr := B.returns
  have hts := atoms_spec (ws := wT y_O_chk b_O_chk 3 (some .int)) B.pre
  have hT : ∀ w ∈ TT, w ∈ wT y_O_chk b_O_chk 3 (some .int) := wT_T
  have hown : s.vm.findClass RO = some m.cls := findClass_of_methodNamed B.named
  have hlocks := B.notSynchronized
  have hl := lv_entry ([.int (nI i), .int (nI n), .null ]) (n := 3) (Nat.le_of_ble_eq_true rfl)
  rw [lg_entry_eq]
  generalize (lg_sl ([.int (nI i), .int (nI n), .null ]) ++ List.replicate (3 - (lg_sl ([.int (nI i), .int (nI n), .null ])).length) Slot.unset).toArray = ls at hl ⊢
  have hl : lv_has ls 3 [(0, .int (nI i)), (1, .int (nI n)), (2, .null )] := hl
  refine lv_iload_n hx hb d_O_chk_0 rfl (lv_at hl 0 rfl) ?_
  refine lv_if_lt hx hb d_O_chk_1 (tgt := 9) (by decide) (fun hyes => absurd hyes (fun z => absurd ((iv_lt0).mp z) (by rw [nI_toInt (by omega)]; omega))) (fun _ => ?_)
  refine lv_iload_n hx hb d_O_chk_4 rfl (lv_at hl 0 rfl) ?_
  refine lv_iload_n hx hb d_O_chk_5 rfl (lv_at hl 1 rfl) ?_
  refine lv_icmp_lt hx hb d_O_chk_6 (tgt := 16) (by decide) (fun _ => ?_) (fun hno => absurd (nI_lt hi hn) hno)
  refine lv_iload_n hx hb d_O_chk_16 rfl (lv_at hl 0 rfl) ?_
  exact W.iret hx hb hr (fun t ht hW => ⟨_, rfl, ⟨rfl, ht⟩⟩) (fun q hq => nomatch hq) d_O_chk_17
set_option maxHeartbeats 4000000 in
set_option maxRecDepth 100000 in
theorem c_O_chkR (l : Launch) {i n : Nat} (hi : i < n) (hn : n < 2147483648) (t : Nat) : Met l y_O_chk (wT y_O_chk b_O_chk 3 (some .int)) (rP 0 0) (tb (wN) [.int (nI i), .int (nI n), .ref t]) (tq_P (some (.int (nI i)))) 0 0 tq_n := by
  refine va_MetF (cc := b_O_chk) (maxL := 3) (ret := (some .int)) (by decide +kernel) rfl ?_
  intro p e s m args below meth c s₁ B hml hv
  obtain ⟨rfl, hv⟩ := hv
  have hx := B.exec
  have hb := B.bytes
  have hr := B.returns
  have hts := atoms_spec (ws := wT y_O_chk b_O_chk 3 (some .int)) B.pre
  have hT : ∀ w ∈ TT, w ∈ wT y_O_chk b_O_chk 3 (some .int) := wT_T
  have hown : s.vm.findClass RO = some m.cls := findClass_of_methodNamed B.named
  have hlocks := B.notSynchronized
  have hl := lv_entry ([.int (nI i), .int (nI n), .ref t]) (n := 3) (Nat.le_of_ble_eq_true rfl)
  rw [lg_entry_eq]
  generalize (lg_sl ([.int (nI i), .int (nI n), .ref t]) ++ List.replicate (3 - (lg_sl ([.int (nI i), .int (nI n), .ref t])).length) Slot.unset).toArray = ls at hl ⊢
  have hl : lv_has ls 3 [(0, .int (nI i)), (1, .int (nI n)), (2, .ref t)] := hl
  refine lv_iload_n hx hb d_O_chk_0 rfl (lv_at hl 0 rfl) ?_
  refine lv_if_lt hx hb d_O_chk_1 (tgt := 9) (by decide) (fun hyes => absurd hyes (fun z => absurd ((iv_lt0).mp z) (by rw [nI_toInt (by omega)]; omega))) (fun _ => ?_)
  refine lv_iload_n hx hb d_O_chk_4 rfl (lv_at hl 0 rfl) ?_
  refine lv_iload_n hx hb d_O_chk_5 rfl (lv_at hl 1 rfl) ?_
  refine lv_icmp_lt hx hb d_O_chk_6 (tgt := 16) (by decide) (fun _ => ?_) (fun hno => absurd (nI_lt hi hn) hno)
  refine lv_iload_n hx hb d_O_chk_16 rfl (lv_at hl 0 rfl) ?_
  exact W.iret hx hb hr (fun t ht hW => ⟨_, rfl, ⟨rfl, ht⟩⟩) (fun q hq => nomatch hq) d_O_chk_17
set_option maxHeartbeats 4000000 in
set_option maxRecDepth 100000 in
theorem c_T_chk (l : Launch) (sz : Nat) {i n : Nat} (hi : i < n) (hn : n < 2147483648) : Met l y_T_chk (wT y_T_chk b_T_chk 2 none) (rP 1 22) (tb (kc sz) [.int (nI i), .int (nI n)]) (tq_P none) 0 0 tq_n := by
  refine va_MetF (cc := b_T_chk) (maxL := 2) (ret := none) (by decide +kernel) rfl ?_
  intro p e s m args below meth c s₁ B hml hv
  obtain ⟨rfl, hC⟩ := hv
  have hx := B.exec
  have hb := B.bytes
  have hr := B.returns
  have hts := atoms_spec (ws := wT y_T_chk b_T_chk 2 none) B.pre
  have hT : ∀ w ∈ TT, w ∈ wT y_T_chk b_T_chk 2 none := wT_T
  have hown : s.vm.findClass RT = some m.cls := findClass_of_methodNamed B.named
  have hlocks := B.notSynchronized
  have hl := lv_entry ([.int (nI i), .int (nI n)]) (n := 2) (Nat.le_of_ble_eq_true rfl)
  rw [lg_entry_eq]
  generalize (lg_sl ([.int (nI i), .int (nI n)]) ++ List.replicate (2 - (lg_sl ([.int (nI i), .int (nI n)])).length) Slot.unset).toArray = ls at hl ⊢
  have hl : lv_has ls 2 [(0, .int (nI i)), (1, .int (nI n))] := hl
  have hS : va_S (aSz sz) s.heap s.heap [] := va_S.rf
  refine lv_iload_n hx hb d_T_chk_0 rfl (lv_at hl 0 rfl) ?_
  refine lv_iload_n hx hb d_T_chk_1 rfl (lv_at hl 1 rfl) ?_
  rcases hC.2.2.2.1 with hZ | ⟨t9, hZ⟩
  · refine va_gets hx hb hZ hS hown (hts _ (hT _ k_T_1053)) (fun _ h => h) d_T_chk_2 ?_
    refine tq_S ⟨hx, hb, hml, hown, hts⟩ hT (c_O_chkN l hi hn) lk_T_1059 wN_mv trivial rfl hl.1 rfl (Nat.le_of_ble_eq_true rfl) d_T_chk_5 ⟨rfl, rfl, Nat.le_of_ble_eq_true rfl, Nat.le_of_ble_eq_true rfl⟩ ⟨Nat.zero_le _, Nat.zero_le _⟩ ?_
    refine lv_pop hx hb d_T_chk_8 rfl ?_
    exact W.vret hx hb hr (fun t ht hW => ⟨_, rfl, ⟨rfl, ht⟩⟩) (fun q hq => nomatch hq) d_T_chk_9
  · refine va_gets hx hb hZ hS hown (hts _ (hT _ k_T_1053)) (fun _ h => h) d_T_chk_2 ?_
    refine tq_S ⟨hx, hb, hml, hown, hts⟩ hT (c_O_chkR l hi hn t9) lk_T_1059 wN_mv trivial rfl hl.1 rfl (Nat.le_of_ble_eq_true rfl) d_T_chk_5 ⟨rfl, rfl, Nat.le_of_ble_eq_true rfl, Nat.le_of_ble_eq_true rfl⟩ ⟨Nat.zero_le _, Nat.zero_le _⟩ ?_
    refine lv_pop hx hb d_T_chk_8 rfl ?_
    exact W.vret hx hb hr (fun t ht hW => ⟨_, rfl, ⟨rfl, ht⟩⟩) (fun q hq => nomatch hq) d_T_chk_9
set_option maxHeartbeats 4000000 in
set_option maxRecDepth 100000 in
theorem c_A_at (l : Launch) (D : va_G) (cB : ClassId) (sz b : Nat) {L : List Nat} {j : Nat} (hj : j < L.length) : Met l y_A_at (wT y_A_at b_A_at 5 (some .char)) (rP 2 60) (tb (wS D cB sz b L) [.ref b, .int (nI j)]) (tq_P (some (.int (nI (L.getD j 0))))) 0 0 tq_n := by
  refine va_MetF (cc := b_A_at) (maxL := 5) (ret := (some .char)) (by decide +kernel) rfl ?_
  intro p e s m args below meth c s₁ B hml hv
  obtain ⟨rfl, hK, hC, v, cap, f, hP, hD, hcap, hlen, hTX, hA9⟩ := hv
  have hx := B.exec
  have hb := B.bytes
  have hr := B.returns
  have hts := atoms_spec (ws := wT y_A_at b_A_at 5 (some .char)) B.pre
  have hT : ∀ w ∈ TT, w ∈ wT y_A_at b_A_at 5 (some .char) := wT_T
  have hown : s.vm.findClass RA = some m.cls := findClass_of_methodNamed B.named
  have hlocks := B.notSynchronized
  have hl := lv_entry ([.ref b, .int (nI j)]) (n := 5) (Nat.le_of_ble_eq_true rfl)
  rw [lg_entry_eq]
  generalize (lg_sl ([.ref b, .int (nI j)]) ++ List.replicate (5 - (lg_sl ([.ref b, .int (nI j)])).length) Slot.unset).toArray = ls at hl ⊢
  have hl : lv_has ls 5 [(0, .ref b), (1, .int (nI j))] := hl
  refine lv_aload_n hx hb d_A_at_0 rfl (lv_at hl 0 rfl) ?_
  refine va_get hx hb hts (fun w h => hT w (uS_in w h)) hown hK hP 0 rfl rfl 1 (by decide) (hts _ (hT _ k_A_22)) (fun _ h => h) rfl d_A_at_1 ?_
  refine lv_istore_n hx hb d_A_at_4 rfl hl (by decide) (lv' := [(2, .int 0), (0, .ref b), (1, .int (nI j))]) rfl (fun ls hl => ?_)
  refine lv_aload_n hx hb d_A_at_5 rfl (lv_at hl 1 rfl) ?_
  refine va_get hx hb hts (fun w h => hT w (uS_in w h)) hown hK hP 0 rfl rfl 0 (by decide) (hts _ (hT _ k_A_15)) (fun _ h => h) rfl d_A_at_6 ?_
  refine lv_astore_n hx hb d_A_at_9 rfl hl (by decide) (lv' := [(3, .ref v), (2, .int 0), (0, .ref b), (1, .int (nI j))]) rfl (fun ls hl => ?_)
  refine lv_aload_n hx hb d_A_at_10 rfl (lv_at hl 2 rfl) ?_
  refine va_get hx hb hts (fun w h => hT w (uS_in w h)) hown hK hP 0 rfl rfl 3 (by decide) (hts _ (hT _ k_A_79)) (fun _ h => h) rfl d_A_at_11 ?_
  refine lv_aload_n hx hb d_A_at_14 rfl (lv_at hl 0 rfl) ?_
  refine va_alen hx hb hK hP 1 0 rfl rfl (v := (nI cap)) rfl d_A_at_15 ?_
  refine lv_iload_n hx hb d_A_at_16 rfl (lv_at hl 1 rfl) ?_
  refine lv_ishr hx hb d_A_at_17 ?_
  refine tq_ti (show _ = (nI cap) from sb_shr0 _) ?_
  refine va_mmin hx hb (hml.trans hl.1.symm) hown (hts _ (hT _ k_mn_A)) (hts _ (hT _ km_min_s)) (hts _ (hT _ k_ini_Math)) (hts _ (hT _ km_min_c)) (Nat.le_of_ble_eq_true rfl) (Nat.le_of_ble_eq_true rfl) (Nat.zero_le _) (Nat.zero_le _) d_A_at_18 ?_
  refine tq_ti (show _ = (nI L.length) from (if_neg (nI_nlt (by omega) (by omega)))) ?_
  refine lv_istore hx hb d_A_at_21 hl (by decide) (lv' := [(4, .int (nI L.length)), (3, .ref v), (2, .int 0), (0, .ref b), (1, .int (nI j))]) rfl (fun ls hl => ?_)
  refine lv_iload_n hx hb d_A_at_23 rfl (lv_at hl 4 rfl) ?_
  refine lv_iload hx hb d_A_at_24 (lv_at hl 0 rfl) ?_
  refine tq_S ⟨hx, hb, hml, hown, hts⟩ hT (c_T_chk l sz hj (by omega)) lk_A_144 kc_mv hC rfl hl.1 rfl (Nat.le_of_ble_eq_true rfl) d_A_at_26 ⟨rfl, rfl, Nat.le_of_ble_eq_true rfl, Nat.le_of_ble_eq_true rfl⟩ ⟨Nat.zero_le _, Nat.zero_le _⟩ ?_
  refine lv_iload_n hx hb d_A_at_29 rfl (lv_at hl 2 rfl) ?_
  refine lv_if_ne hx hb d_A_at_30 (tgt := 42) (by decide) (fun hyes => absurd rfl hyes) (fun _ => ?_)
  refine lv_aload_n hx hb d_A_at_33 rfl (lv_at hl 1 rfl) ?_
  refine lv_iload_n hx hb d_A_at_34 rfl (lv_at hl 4 rfl) ?_
  refine va_bald hx hb hK hP 1 0 rfl rfl (vp_in_nI (show j < cap by omega) (by omega)) d_A_at_35 ?_
  obtain ⟨ch, hc, ec⟩ := hA9 j
  refine tq_ti (show _ = (nI ch) from (by rw [nI_clamp (by omega)]; exact ec)) ?_
  refine lv_sipush hx hb d_A_at_36 (v := (nI 255)) rfl ?_
  refine lv_iand hx hb d_A_at_39 ?_
  refine tq_ti (show _ = (nI ch) from (sb_nar ch hc).2.2.1) ?_
  refine lv_i2c hx hb d_A_at_40 (v := ((nI ch).toUInt32 % 65536).toInt32) rfl ?_
  refine tq_ti (show _ = (nI ch) from (sb_nar ch hc).2.2.2.1) ?_
  exact W.zret hx hb hr (sb_nar ch hc).2.2.2.2 (fun t ht hW => ⟨_, rfl, ⟨by rw [← ec, hTX j hj], ht⟩⟩) (fun q hq => nomatch hq) d_A_at_41
set_option maxHeartbeats 4000000 in
set_option maxRecDepth 100000 in
theorem c_S_at (l : Launch) (D : va_G) (cB : ClassId) (sz b : Nat) {L : List Nat} {j : Nat} (hj : j < L.length) : Met l y_S_at (wT y_S_at b_S_at 2 (some .char)) (rP 3 86) (tb (wS D cB sz b L) [.ref b, .int (nI j)]) (tq_P (some (.int (nI (L.getD j 0))))) 0 0 tq_n := by
  refine va_MetF (cc := b_S_at) (maxL := 2) (ret := (some .char)) (by decide +kernel) rfl ?_
  intro p e s m args below meth c s₁ B hml hv
  obtain ⟨rfl, hK, hC, hB⟩ := hv
  have hx := B.exec
  have hb := B.bytes
  have hr := B.returns
  have hts := atoms_spec (ws := wT y_S_at b_S_at 2 (some .char)) B.pre
  have hT : ∀ w ∈ TT, w ∈ wT y_S_at b_S_at 2 (some .char) := wT_T
  have hown : s.vm.findClass RS = some m.cls := findClass_of_methodNamed B.named
  have hlocks := B.notSynchronized
  have hl := lv_entry ([.ref b, .int (nI j)]) (n := 2) (Nat.le_of_ble_eq_true rfl)
  rw [lg_entry_eq]
  generalize (lg_sl ([.ref b, .int (nI j)]) ++ List.replicate (2 - (lg_sl ([.ref b, .int (nI j)])).length) Slot.unset).toArray = ls at hl ⊢
  have hl : lv_has ls 2 [(0, .ref b), (1, .int (nI j))] := hl
  obtain ⟨v8, cap8, f8, -, -, -, hl8, ht8, ha8⟩ := id hB
  obtain ⟨ch, hc, ec⟩ := ha8 j
  refine lv_aload_n hx hb d_S_at_0 rfl (lv_at hl 0 rfl) ?_
  refine lv_iload_n hx hb d_S_at_1 rfl (lv_at hl 1 rfl) ?_
  refine tg_U (hK.1 0 _ rfl).2 ⟨hx, hb, hml, hown, hts⟩ hT (c_A_at l D cB sz b hj) lk_S_329 wS_mv ⟨hK, hC, hB⟩ (sbS_rc hK hB) rfl hl.1 rfl (Nat.le_of_ble_eq_true rfl) d_S_at_2 ⟨rfl, rfl, Nat.le_of_ble_eq_true rfl, Nat.le_of_ble_eq_true rfl⟩ ⟨Nat.le_of_ble_eq_true rfl, Nat.le_of_ble_eq_true rfl⟩ (fun q hq => nomatch hq) (fun v9 H1 locs1 hF9 hL9 => ?_)
  obtain ⟨rfl, rfl⟩ := hF9
  refine tq_ti (show _ = (nI ch) from (by rw [← ec, ht8 j hj])) ?_
  exact W.zret hx hb hr (sb_nar ch hc).2.2.2.2 (fun t ht hW => ⟨_, rfl, ⟨by rw [← ec, ht8 j hj], ht⟩⟩) hL9 d_S_at_5
