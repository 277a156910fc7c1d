/-! above. Written by wip/whole/gen.py -/
theorem nI_min {a b : Nat} (ha : a < 2147483648) (hb : b < 2147483648) : (if nI b < nI a then nI b else nI a) = nI (min a b) := by
  by_cases h : b < a
  · rw [if_pos (nI_lt h ha), Nat.min_eq_right (by omega)]
  · rw [if_neg (nI_nlt (by omega) hb), Nat.min_eq_left (by omega)]
/-- the answer of above -/
def tt_abv (o : Option Nat) : Int32 := match o with
  | none => -1
  | some z => nI z
def tt_abn (g : TS) (mm sp : Nat) : Nat := min (tt_fst g 10) (mm + 3000 + sp - 1) - mm
section G19
variable {p : Program} {l : Launch} {e : Env} {R : Room} {s : State} {m : MethodId} {args : Array Value} {below : List Frame} {meth : Method} {c : Code} {H : Heap} {locs : List Loc} {cells slots : Nat} {Q : State → Prop} {Ts : List Cond}
variable {D : va_G} {ci : Nat → ClassId} {ad : Nat → Nat} {g : TS} {tc td : Int32} {tn : Nat → Int32}
set_option maxHeartbeats 4000000 in
set_option maxRecDepth 100000 in
theorem l_X_above (hx : p.tables.exec = Jvm.exec) (hb : c.code = b_X_above) (hts : ∀ w ∈ Ts, w.before args s = true) (hT : ∀ w ∈ TT, w ∈ Ts) (hown : s.vm.findClass RX = some m.cls) (hml : c.maxLocals = 7) (hK : tk D ci s) (hg : tt_ok g) (hX : tx D ci ad g tc td tn H) (hR : 2 + 1 ≤ R.frames ∧ 8 + (6 + 11) + 59 ≤ R.locals) (hf : cells ≤ R.cells ∧ slots ≤ R.slots) {mm sp en : Nat} {v : Int32} (hsp : sp ≤ 1000) (hen : en < 2147480000) {A : Option Nat}
    (k1 : A = none → ∀ ls : Array Slot, W p l e R s m args below meth c H locs cells slots Q (F0 m 113 ls [])) (k2 : ∀ z, A = some z → ∀ ls : Array Slot, W p l e R s m args below meth c H locs cells slots Q (F0 m 106 ls [.int (nI z)])) :
    ∀ (d k r : Nat) (ls : Array Slot), k + d = en → r + mm ≤ k → r < sp → tt_ab (tt_hgt g) v.toInt sp d k r = A → lv_has ls 7 [(6, .int (nI k)), (5, .int (nI r)), (4, .int (nI en)), (0, .ref (ad 0)), (1, .int (nI mm)), (2, .int v), (3, .int (nI sp))] → W p l e R s m args below meth c H locs cells slots Q (F0 m 67 ls []) := by
  intro d
  induction d with
  | zero =>
    intro k r ls hk hr hs hA hl
    refine lv_iload hx hb d_X_above_67 (lv_at hl 0 rfl) ?_
    refine lv_iload hx hb d_X_above_69 (lv_at hl 2 rfl) ?_
    refine lv_icmp_ge hx hb d_X_above_71 (tgt := 113) (by decide) (fun _ => ?_) (fun hno => absurd (nI_le (show en ≤ k by omega) (by omega)) hno)
    exact k1 hA.symm ls
  | succ d ih =>
    intro k r ls hk hr hs hA hl
    have hh := tt_hgt_in hg k
    rw [tt_ab] at hA
    refine lv_iload hx hb d_X_above_67 (lv_at hl 0 rfl) ?_
    refine lv_iload hx hb d_X_above_69 (lv_at hl 2 rfl) ?_
    refine lv_icmp_ge hx hb d_X_above_71 (tgt := 113) (by decide) (fun hyes => absurd hyes (nI_ge (show k < en by omega) (by omega))) (fun _ => ?_)
    refine lv_aload_n hx hb d_X_above_74 rfl (lv_at hl 3 rfl) ?_
    refine lv_iload hx hb d_X_above_75 (lv_at hl 0 rfl) ?_
    refine tq_V ⟨hx, hb, hml, hown, hts⟩ hT (c_X_heightAt l D ci ad g tc td tn (mm := k) (by omega)) lk_X_119 wX_mv ⟨hK, hg, hX⟩ (wX_rc ⟨hK, hg, hX⟩) rfl hl.1 rfl (Nat.le_of_ble_eq_true rfl) d_X_above_77 ⟨rfl, rfl, hR⟩ hf ?_
    refine lv_iload_n hx hb d_X_above_80 rfl (lv_at hl 5 rfl) ?_
    refine lv_icmp_lt hx hb d_X_above_81 (tgt := 91) (by decide) (fun h1 => ?_) (fun h1 => ?_)
    · have h1 := Int32.lt_iff_toInt_lt.mp h1
      rw [iZ_toInt (by omega) (by omega)] at h1
      rw [if_neg (by omega)] at hA
      refine lv_iconst hx hb d_X_above_91 (v := (nI 0)) rfl ?_
      refine lv_istore hx hb d_X_above_92 hl (by decide) (lv' := [(5, .int (nI 0)), (6, .int (nI k)), (4, .int (nI en)), (0, .ref (ad 0)), (1, .int (nI mm)), (2, .int v), (3, .int (nI sp))]) rfl (fun ls hl => ?_)
      refine lv_iload hx hb d_X_above_94 (lv_at hl 0 rfl) ?_
      refine lv_iload_n hx hb d_X_above_96 rfl (lv_at hl 6 rfl) ?_
      refine lv_icmp_ne hx hb d_X_above_97 (tgt := 107) (by decide) (fun _ => ?_) (fun hno => absurd hno (fun z => absurd ((nI_eq (by decide) (by omega)).mp z) (by omega)))
      refine lv_iinc hx hb d_X_above_107 hl (k := 1) rfl (v := (nI (k + 1))) (by rw [show Int32.ofInt 1 = 1 from rfl]; exact nI_1 k) (by decide) (lv' := [(6, .int (nI (k + 1))), (5, .int (nI 0)), (4, .int (nI en)), (0, .ref (ad 0)), (1, .int (nI mm)), (2, .int v), (3, .int (nI sp))]) rfl (fun ls hl => ?_)
      refine lv_goto hx hb d_X_above_110 (tgt := 67) (by decide) ?_
      exact ih (k + 1) 0 ls (by omega) (by omega) (by omega) hA hl
    · have h1 := mt Int32.lt_iff_toInt_lt.mpr h1
      rw [iZ_toInt (by omega) (by omega)] at h1
      rw [if_pos (by omega)] at hA
      refine lv_iload hx hb d_X_above_84 (lv_at hl 1 rfl) ?_
      refine lv_iconst hx hb d_X_above_86 (v := (nI 1)) rfl ?_
      refine lv_iadd hx hb d_X_above_87 ?_
      refine tq_ti (show _ = (nI (r + 1)) from nI_add _ _) ?_
      refine lv_goto hx hb d_X_above_88 (tgt := 92) (by decide) ?_
      refine lv_istore hx hb d_X_above_92 hl (by decide) (lv' := [(5, .int (nI (r + 1))), (6, .int (nI k)), (4, .int (nI en)), (0, .ref (ad 0)), (1, .int (nI mm)), (2, .int v), (3, .int (nI sp))]) rfl (fun ls hl => ?_)
      refine lv_iload hx hb d_X_above_94 (lv_at hl 0 rfl) ?_
      refine lv_iload_n hx hb d_X_above_96 rfl (lv_at hl 6 rfl) ?_
      refine lv_icmp_ne hx hb d_X_above_97 (tgt := 107) (by decide) (fun h2 => ?_) (fun h2 => ?_)
      · have h2 := mt (nI_eq (by omega) (by omega)).mpr h2
        rw [if_neg h2] at hA
        refine lv_iinc hx hb d_X_above_107 hl (k := 1) rfl (v := (nI (k + 1))) (by rw [show Int32.ofInt 1 = 1 from rfl]; exact nI_1 k) (by decide) (lv' := [(6, .int (nI (k + 1))), (5, .int (nI (r + 1))), (4, .int (nI en)), (0, .ref (ad 0)), (1, .int (nI mm)), (2, .int v), (3, .int (nI sp))]) rfl (fun ls hl => ?_)
        refine lv_goto hx hb d_X_above_110 (tgt := 67) (by decide) ?_
        exact ih (k + 1) (r + 1) ls (by omega) (by omega) (by omega) hA hl
      · have h2 := (nI_eq (by omega) (by omega)).mp h2
        rw [if_pos h2] at hA
        refine lv_iload hx hb d_X_above_100 (lv_at hl 1 rfl) ?_
        refine lv_iload_n hx hb d_X_above_102 rfl (lv_at hl 6 rfl) ?_
        refine lv_isub hx hb d_X_above_103 ?_
        refine lv_iconst hx hb d_X_above_104 (v := (nI 1)) rfl ?_
        refine lv_iadd hx hb d_X_above_105 ?_
        refine tq_ti (show _ = (nI (k + 1 - sp)) from (by rw [nI_iZ, nI_iZ, nI_iZ, nI_iZ, iZ_sub, iZ_add]; congr 1; omega)) ?_
        exact k2 _ hA.symm _
end G19
set_option maxHeartbeats 4000000 in
set_option maxRecDepth 100000 in
theorem c_X_above (l : Launch) (D : va_G) (ci : Nat → ClassId) (ad : Nat → Nat) (g : TS) (tc td : Int32) (tn : Nat → Int32) {mm sp : Nat} (v : Int32) (hs1 : 1 ≤ sp) (hs2 : sp ≤ 1000) (hm : mm < tt_fst g 10) : Met l y_X_above (wT y_X_above b_X_above 7 (some .int)) (rP 3 84) (tb (wX D ci ad g tc td tn) [.ref (ad 0), .int (nI mm), .int v, .int (nI sp)]) (tq_P (some (.int (tt_abv (tt_ab (tt_hgt g) v.toInt sp (tt_abn g mm sp) mm 0))))) 0 0 tq_n := by
  refine Met.ofW (cc := b_X_above) (maxL := 7) (ret := (some .int)) (by decide) rfl ?_
  intro p e s m args below meth c s₁ B hml hv
  obtain ⟨rfl, hK, hg, hX⟩ := hv
  have hx := B.exec
  have hb := B.bytes
  have hr := B.returns
  have hts := atoms_spec (ws := wT y_X_above b_X_above 7 (some .int)) B.pre
  have hT : ∀ w ∈ TT, w ∈ wT y_X_above b_X_above 7 (some .int) := wT_T
  have hown : s.vm.findClass RX = some m.cls := findClass_of_methodNamed B.named
  have hlocks := B.notSynchronized
  have hl := lv_entry ([.ref (ad 0), .int (nI mm), .int v, .int (nI sp)]) (n := 7) (Nat.le_of_ble_eq_true rfl)
  rw [lg_entry_eq]
  generalize (lg_sl ([.ref (ad 0), .int (nI mm), .int v, .int (nI sp)]) ++ List.replicate (7 - (lg_sl ([.ref (ad 0), .int (nI mm), .int v, .int (nI sp)])).length) Slot.unset).toArray = ls at hl ⊢
  have hl : lv_has ls 7 [(0, .ref (ad 0)), (1, .int (nI mm)), (2, .int v), (3, .int (nI sp))] := hl
  have hdb := tt_db_in hg.2.2.2 10 (Nat.le_refl _)
  have hf10 : tt_fst g 10 = 1440 * tt_db (tt_day g) 10 := rfl
  have ev : (nI mm).toInt = mm := nI_toInt (by omega)
  have en : (nI sp).toInt = sp := nI_toInt (by omega)
  refine lv_iload_n hx hb d_X_above_0 rfl (lv_at hl 3 rfl) ?_
  refine lv_iconst hx hb d_X_above_1 (v := (nI 1)) rfl ?_
  refine lv_icmp_lt hx hb d_X_above_2 (tgt := 12) (by decide) (fun q1 => ?_) (fun q1 => ?_)
  · have q1 := Int32.lt_iff_toInt_lt.mp q1
    rw [nI_toInt (n := 1) (by decide)] at q1
    exfalso
    omega
  · have q1 := mt Int32.lt_iff_toInt_lt.mpr q1
    rw [nI_toInt (n := 1) (by decide)] at q1
    refine lv_iload_n hx hb d_X_above_5 rfl (lv_at hl 3 rfl) ?_
    refine lv_sipush hx hb d_X_above_6 (v := (nI 1000)) rfl ?_
    refine lv_icmp_le hx hb d_X_above_9 (tgt := 22) (by decide) (fun q2 => ?_) (fun q2 => ?_)
    · have q2 := Int32.le_iff_toInt_le.mp q2
      rw [nI_toInt (n := 1000) (by decide)] at q2
      refine lv_aload_n hx hb d_X_above_22 rfl (lv_at hl 0 rfl) ?_
      refine lv_iload_n hx hb d_X_above_23 rfl (lv_at hl 1 rfl) ?_
      refine tq_V ⟨hx, hb, hml, hown, hts⟩ hT (c_X_isMinute l D ci ad g tc td tn (nI mm)) lk_X_98 wX_mv ⟨hK, hg, hX⟩ (wX_rc ⟨hK, hg, hX⟩) rfl hl.1 rfl (Nat.le_of_ble_eq_true rfl) d_X_above_24 ⟨rfl, rfl, Nat.le_of_ble_eq_true rfl, Nat.le_of_ble_eq_true rfl⟩ ⟨Nat.zero_le _, Nat.zero_le _⟩ ?_
      refine lv_if_ne hx hb d_X_above_27 (tgt := 40) (by decide) (fun q3 => ?_) (fun q3 => ?_)
      · have q3 := zb_t q3
        refine lv_aload_n hx hb d_X_above_40 rfl (lv_at hl 0 rfl) ?_
        refine va_get hx hb hts (fun w h => hT w (uX_in w h)) hown hK hX.1 0 rfl rfl 6 (by decide) (hts _ (hT _ k_X_30)) (fun _ h => h) rfl d_X_above_41 ?_
        refine lv_bipush hx hb d_X_above_44 (v := (nI 10)) rfl ?_
        refine tq_iald hx hb hK hX.1 6 0 rfl rfl (by decide) (by decide) d_X_above_46 ?_
        refine lv_iload_n hx hb d_X_above_47 rfl (lv_at hl 1 rfl) ?_
        refine lv_sipush hx hb d_X_above_48 (v := (nI 3000)) rfl ?_
        refine lv_iadd hx hb d_X_above_51 ?_
        refine tq_ti (show _ = (nI (mm + 3000)) from nI_add _ _) ?_
        refine lv_iload_n hx hb d_X_above_52 rfl (lv_at hl 3 rfl) ?_
        refine lv_iadd hx hb d_X_above_53 ?_
        refine tq_ti (show _ = (nI (mm + 3000 + sp)) from nI_add _ _) ?_
        refine lv_iconst hx hb d_X_above_54 (v := (nI 1)) rfl ?_
        refine lv_isub hx hb d_X_above_55 ?_
        refine tq_ti (show _ = (nI (mm + 3000 + sp - 1)) from pk_sub (by omega)) ?_
        refine va_mmin hx hb (hml.trans hl.1.symm) hown (hts _ (hT _ km_min_l)) (hts _ (hT _ km_min_s)) (hts _ (hT _ k_ini_Math)) (hts _ (hT _ km_min_c)) (Nat.le_of_ble_eq_true rfl) (Nat.le_of_ble_eq_true rfl) (Nat.zero_le _) (Nat.zero_le _) d_X_above_56 ?_
        refine tq_ti (show _ = (nI (min (tt_fst g 10) (mm + 3000 + sp - 1))) from nI_min (by omega) (by omega)) ?_
        refine lv_istore hx hb d_X_above_59 hl (by decide) (lv' := [(4, .int (nI (min (tt_fst g 10) (mm + 3000 + sp - 1)))), (0, .ref (ad 0)), (1, .int (nI mm)), (2, .int v), (3, .int (nI sp))]) rfl (fun ls hl => ?_)
        refine lv_iconst hx hb d_X_above_61 (v := (nI 0)) rfl ?_
        refine lv_istore hx hb d_X_above_62 hl (by decide) (lv' := [(5, .int (nI 0)), (4, .int (nI (min (tt_fst g 10) (mm + 3000 + sp - 1)))), (0, .ref (ad 0)), (1, .int (nI mm)), (2, .int v), (3, .int (nI sp))]) rfl (fun ls hl => ?_)
        refine lv_iload_n hx hb d_X_above_64 rfl (lv_at hl 3 rfl) ?_
        refine lv_istore hx hb d_X_above_65 hl (by decide) (lv' := [(6, .int (nI mm)), (5, .int (nI 0)), (4, .int (nI (min (tt_fst g 10) (mm + 3000 + sp - 1)))), (0, .ref (ad 0)), (1, .int (nI mm)), (2, .int v), (3, .int (nI sp))]) rfl (fun ls hl => ?_)
        have hmn : mm + tt_abn g mm sp = min (tt_fst g 10) (mm + 3000 + sp - 1) := by unfold tt_abn; omega
        refine l_X_above hx hb hts hT hown hml hK hg hX ⟨Nat.le_of_ble_eq_true rfl, Nat.le_of_ble_eq_true rfl⟩ ⟨Nat.zero_le _, Nat.zero_le _⟩ hs2 (by omega) (A := tt_ab (tt_hgt g) v.toInt sp (tt_abn g mm sp) mm 0) (fun hA ls => ?_) (fun z hA ls => ?_) (tt_abn g mm sp) mm 0 ls hmn (by omega) (by omega) rfl hl
        · refine lv_iconst hx hb d_X_above_113 (v := (-1)) rfl ?_
          exact W.iret hx hb hr (fun t ht hW => ⟨_, rfl, ⟨(by rw [hA]; rfl), ht⟩⟩) (fun q hq => nomatch hq) d_X_above_114
        · exact W.iret hx hb hr (fun t ht hW => ⟨_, rfl, ⟨(by rw [hA]; rfl), ht⟩⟩) (fun q hq => nomatch hq) d_X_above_106
      · have q3 := zb_f q3
        exfalso
        omega
    · have q2 := mt Int32.le_iff_toInt_le.mpr q2
      rw [nI_toInt (n := 1000) (by decide)] at q2
      exfalso
      omega
set_option maxHeartbeats 4000000 in
set_option maxRecDepth 100000 in
theorem x_X_aboveA (l : Launch) (htr : l.stackTraces = false) (D : va_G) (ci : Nat → ClassId) (ad : Nat → Nat) (g : TS) (tc td : Int32) (tn : Nat → Int32) (u v z : Int32) (hv0 : ¬ (1 ≤ z.toInt ∧ z.toInt ≤ 1000)) : vx_Met l y_X_above (wT y_X_above b_X_above 7 (some .int)) ({ frames := 6, cells := 1, slots := 6, locals := 82 }) (tb (wXE D ci ad g tc td tn) [.ref (ad 0), .int u, .int v, .int z]) tw_N (vx_X (fun _ : Unit => True) (fun E _ _ => E = eA) (fun _ => False)) 1 6 tq_n := by
  refine vx_ofW (cc := b_X_above) (maxL := 7) (ret := (some .int)) (by decide) rfl ?_
  intro p e s m args below meth c s₁ B hml hno hv
  obtain ⟨rfl, ⟨hK, hg, hX⟩, hE⟩ := hv
  have hx := B.exec
  have hb := B.bytes
  have hr := B.returns
  have hts := atoms_spec (ws := wT y_X_above b_X_above 7 (some .int)) B.pre
  have hT : ∀ w ∈ TT, w ∈ wT y_X_above b_X_above 7 (some .int) := wT_T
  have hown : s.vm.findClass RX = some m.cls := findClass_of_methodNamed B.named
  have hlocks := B.notSynchronized
  have hl := lv_entry ([.ref (ad 0), .int u, .int v, .int z]) (n := 7) (Nat.le_of_ble_eq_true rfl)
  rw [lg_entry_eq]
  generalize (lg_sl ([.ref (ad 0), .int u, .int v, .int z]) ++ List.replicate (7 - (lg_sl ([.ref (ad 0), .int u, .int v, .int z])).length) Slot.unset).toArray = ls at hl ⊢
  have hl : lv_has ls 7 [(0, .ref (ad 0)), (1, .int u), (2, .int v), (3, .int z)] := hl
  refine lv_iload_n hx hb d_X_above_0 rfl (lv_at hl 3 rfl) ?_
  refine lv_iconst hx hb d_X_above_1 (v := (nI 1)) rfl ?_
  refine lv_icmp_lt hx hb d_X_above_2 (tgt := 12) (by decide) (fun q1 => ?_) (fun q1 => ?_)
  · have q1 := Int32.lt_iff_toInt_lt.mp q1
    rw [nI_toInt (n := 1) (by decide)] at q1
    exact tw_A hx hb htr hown (fun w h => hts w (hT w h)) hE (fun _ _ _ h => h) (is := 165) (text := "no such span") (by decide) va_S.rf (hl.1.trans hml.symm) d_X_above_12 d_X_above_15 d_X_above_16 d_X_above_18 d_X_above_21 hno ⟨by decide, by decide, by decide, by decide⟩ hlocks (fun t ha h1 h2 => ⟨(), trivial, rfl, h1, fun q hq _ => h2 q hq⟩) (fun z hz => nomatch hz) (Nat.le_refl _) (Nat.le_refl _)
  · have q1 := mt Int32.lt_iff_toInt_lt.mpr q1
    rw [nI_toInt (n := 1) (by decide)] at q1
    refine lv_iload_n hx hb d_X_above_5 rfl (lv_at hl 3 rfl) ?_
    refine lv_sipush hx hb d_X_above_6 (v := (nI 1000)) rfl ?_
    refine lv_icmp_le hx hb d_X_above_9 (tgt := 22) (by decide) (fun q2 => ?_) (fun q2 => ?_)
    · have q2 := Int32.le_iff_toInt_le.mp q2
      rw [nI_toInt (n := 1000) (by decide)] at q2
      exfalso
      omega
    · have q2 := mt Int32.le_iff_toInt_le.mpr q2
      rw [nI_toInt (n := 1000) (by decide)] at q2
      exact tw_A hx hb htr hown (fun w h => hts w (hT w h)) hE (fun _ _ _ h => h) (is := 165) (text := "no such span") (by decide) va_S.rf (hl.1.trans hml.symm) d_X_above_12 d_X_above_15 d_X_above_16 d_X_above_18 d_X_above_21 hno ⟨by decide, by decide, by decide, by decide⟩ hlocks (fun t ha h1 h2 => ⟨(), trivial, rfl, h1, fun q hq _ => h2 q hq⟩) (fun z hz => nomatch hz) (Nat.le_refl _) (Nat.le_refl _)
set_option maxHeartbeats 4000000 in
set_option maxRecDepth 100000 in
theorem x_X_aboveI (l : Launch) (htr : l.stackTraces = false) (D : va_G) (ci : Nat → ClassId) (ad : Nat → Nat) (g : TS) (tc td : Int32) (tn : Nat → Int32) (u v z : Int32) (hv1 : 1 ≤ z.toInt ∧ z.toInt ≤ 1000) (hv0 : ¬ (0 ≤ u.toInt ∧ u.toInt < (tt_fst g 10 : Nat))) : vx_Met l y_X_above (wT y_X_above b_X_above 7 (some .int)) ({ frames := 6, cells := 1, slots := 6, locals := 82 }) (tb (wXE D ci ad g tc td tn) [.ref (ad 0), .int u, .int v, .int z]) tw_N (vx_X (fun _ : Unit => True) (fun E _ _ => E = eI) (fun _ => False)) 1 6 tq_n := by
  refine vx_ofW (cc := b_X_above) (maxL := 7) (ret := (some .int)) (by decide) rfl ?_
  intro p e s m args below meth c s₁ B hml hno hv
  obtain ⟨rfl, ⟨hK, hg, hX⟩, hE⟩ := hv
  have hx := B.exec
  have hb := B.bytes
  have hr := B.returns
  have hts := atoms_spec (ws := wT y_X_above b_X_above 7 (some .int)) B.pre
  have hT : ∀ w ∈ TT, w ∈ wT y_X_above b_X_above 7 (some .int) := wT_T
  have hown : s.vm.findClass RX = some m.cls := findClass_of_methodNamed B.named
  have hlocks := B.notSynchronized
  have hl := lv_entry ([.ref (ad 0), .int u, .int v, .int z]) (n := 7) (Nat.le_of_ble_eq_true rfl)
  rw [lg_entry_eq]
  generalize (lg_sl ([.ref (ad 0), .int u, .int v, .int z]) ++ List.replicate (7 - (lg_sl ([.ref (ad 0), .int u, .int v, .int z])).length) Slot.unset).toArray = ls at hl ⊢
  have hl : lv_has ls 7 [(0, .ref (ad 0)), (1, .int u), (2, .int v), (3, .int z)] := hl
  refine lv_iload_n hx hb d_X_above_0 rfl (lv_at hl 3 rfl) ?_
  refine lv_iconst hx hb d_X_above_1 (v := (nI 1)) rfl ?_
  refine lv_icmp_lt hx hb d_X_above_2 (tgt := 12) (by decide) (fun q1 => ?_) (fun q1 => ?_)
  · have q1 := Int32.lt_iff_toInt_lt.mp q1
    rw [nI_toInt (n := 1) (by decide)] at q1
    exfalso
    omega
  · have q1 := mt Int32.lt_iff_toInt_lt.mpr q1
    rw [nI_toInt (n := 1) (by decide)] at q1
    refine lv_iload_n hx hb d_X_above_5 rfl (lv_at hl 3 rfl) ?_
    refine lv_sipush hx hb d_X_above_6 (v := (nI 1000)) rfl ?_
    refine lv_icmp_le hx hb d_X_above_9 (tgt := 22) (by decide) (fun q2 => ?_) (fun q2 => ?_)
    · have q2 := Int32.le_iff_toInt_le.mp q2
      rw [nI_toInt (n := 1000) (by decide)] at q2
      refine lv_aload_n hx hb d_X_above_22 rfl (lv_at hl 0 rfl) ?_
      refine lv_iload_n hx hb d_X_above_23 rfl (lv_at hl 1 rfl) ?_
      refine tq_V ⟨hx, hb, hml, hown, hts⟩ hT (c_X_isMinute l D ci ad g tc td tn u) lk_X_98 wX_mv ⟨hK, hg, hX⟩ (wX_rc ⟨hK, hg, hX⟩) rfl hl.1 rfl (Nat.le_of_ble_eq_true rfl) d_X_above_24 ⟨rfl, rfl, Nat.le_of_ble_eq_true rfl, Nat.le_of_ble_eq_true rfl⟩ ⟨Nat.zero_le _, Nat.zero_le _⟩ ?_
      refine lv_if_ne hx hb d_X_above_27 (tgt := 40) (by decide) (fun q3 => ?_) (fun q3 => ?_)
      · have q3 := zb_t q3
        exfalso
        omega
      · have q3 := zb_f q3
        exact tw_I hx hb htr hown (fun w h => hts w (hT w h)) hE (fun _ _ _ h => h) (is := 101) (text := "no such minute") (by decide) va_S.rf (hl.1.trans hml.symm) d_X_above_30 d_X_above_33 d_X_above_34 d_X_above_36 d_X_above_39 hno ⟨by decide, by decide, by decide, by decide⟩ hlocks (fun t ha h1 h2 => ⟨(), trivial, rfl, h1, fun q hq _ => h2 q hq⟩) (fun z hz => nomatch hz) (Nat.le_refl _) (Nat.le_refl _)
    · have q2 := mt Int32.le_iff_toInt_le.mpr q2
      rw [nI_toInt (n := 1000) (by decide)] at q2
      exfalso
      omega
