/-! the reference's mean and above. Written by wip/whole/gen.py -/
section G33
variable {p : Program} {l : Launch} {e : Env} {R : Room} {s : State} {m : MethodId} {args : Array Value} {below : List Frame} {meth : Method} {c : Code} {H : Heap} {locs : List Loc} {cells slots : Nat} {Q : State → Prop} {Ts : List Cond}
variable {D : va_G} {ci : Nat → ClassId} {am : Nat → Nat} {g : TS} {th fo sz : Int32} {hs mi hi tx : Nat → Int32}
set_option maxHeartbeats 4000000 in
set_option maxRecDepth 100000 in
theorem l_M_mean (hx : p.tables.exec = Jvm.exec) (hb : c.code = b_M_mean) (hts : ∀ w ∈ Ts, w.before args s = true) (hT : ∀ w ∈ TT, w ∈ Ts) (hown : s.vm.findClass RM = some m.cls) (hml : c.maxLocals = 6) (hK : tk D ci s) (hg : tt_ok g) (hM : tm D ci am g th fo sz hs mi hi tx H) (hR : 2 + 1 ≤ R.frames ∧ 8 + (6 + 11) + 45 ≤ R.locals) (hf : cells ≤ R.cells ∧ slots ≤ R.slots) {mm n : Nat} (hn : n < 4000) (hmm : mm + n < 8388608)
    (kk : ∀ (ls : Array Slot), lv_has ls 6 [(5, .int (nI n)), (3, .long (lZ (tt_sm (tt_hgt g) mm n))), (0, .ref (am 0)), (1, .int (nI mm)), (2, .int (nI n))] → W p l e R s m args below meth c H locs cells slots Q (F0 m 83 ls [])) :
    ∀ (d k : Nat) (ls : Array Slot), k + d = n → lv_has ls 6 [(5, .int (nI k)), (3, .long (lZ (tt_sm (tt_hgt g) mm k))), (0, .ref (am 0)), (1, .int (nI mm)), (2, .int (nI n))] → W p l e R s m args below meth c H locs cells slots Q (F0 m 59 ls []) := by
  intro d
  induction d with
  | zero =>
    intro k ls hk hl
    obtain rfl : k = n := by omega
    refine lv_iload hx hb d_M_mean_59 (lv_at hl 0 rfl) ?_
    refine lv_iload_n hx hb d_M_mean_61 rfl (lv_at hl 4 rfl) ?_
    refine lv_icmp_ge hx hb d_M_mean_62 (tgt := 83) (by decide) (fun _ => ?_) (fun hno => absurd (nI_le (Nat.le_refl k) (by omega)) hno)
    exact kk ls hl
  | succ d ih =>
    intro k ls hk hl
    have hh := tt_hgt_in hg (mm + k)
    refine lv_iload hx hb d_M_mean_59 (lv_at hl 0 rfl) ?_
    refine lv_iload_n hx hb d_M_mean_61 rfl (lv_at hl 4 rfl) ?_
    refine lv_icmp_ge hx hb d_M_mean_62 (tgt := 83) (by decide) (fun hyes => absurd hyes (nI_ge (show k < n by omega) (by omega))) (fun _ => ?_)
    refine lv_lload_n hx hb d_M_mean_65 rfl (lv_at hl 1 rfl) ?_
    refine lv_aload_n hx hb d_M_mean_66 rfl (lv_at hl 2 rfl) ?_
    refine lv_iload_n hx hb d_M_mean_67 rfl (lv_at hl 3 rfl) ?_
    refine lv_iload hx hb d_M_mean_68 (lv_at hl 0 rfl) ?_
    refine lv_iadd hx hb d_M_mean_70 ?_
    refine tq_ti (show _ = (nI (mm + k)) from nI_add _ _) ?_
    refine tq_V ⟨hx, hb, hml, hown, hts⟩ hT (c_M_heightAt l D ci am g th fo sz hs mi hi tx (mm := mm + k) (by omega)) lk_M_109 wM_mv ⟨hK, hg, hM⟩ (wM_rc hK hM) rfl hl.1 rfl (Nat.le_of_ble_eq_true rfl) d_M_mean_71 ⟨rfl, rfl, hR⟩ hf ?_
    refine lv_i2l hx hb d_M_mean_74 (v := (iZ (tt_hgt g (mm + k))).toInt64) rfl ?_
    refine tq_tl (show _ = (lZ (tt_hgt g (mm + k))) from iZ_l (by omega) (by omega)) ?_
    refine lv_ladd hx hb d_M_mean_75 ?_
    refine tq_tl (show _ = (lZ (tt_sm (tt_hgt g) mm (k + 1))) from lZ_add _ _) ?_
    refine lv_lstore_n hx hb d_M_mean_76 rfl hl (by decide) (lv' := [(3, .long (lZ (tt_sm (tt_hgt g) mm (k + 1)))), (5, .int (nI k)), (0, .ref (am 0)), (1, .int (nI mm)), (2, .int (nI n))]) rfl (fun ls hl => ?_)
    refine lv_iinc hx hb d_M_mean_77 hl (k := 1) rfl (v := (nI (k + 1))) (by rw [show Int32.ofInt 1 = 1 from rfl]; exact nI_1 k) (by decide) (lv' := [(5, .int (nI (k + 1))), (3, .long (lZ (tt_sm (tt_hgt g) mm (k + 1)))), (0, .ref (am 0)), (1, .int (nI mm)), (2, .int (nI n))]) rfl (fun ls hl => ?_)
    refine lv_goto hx hb d_M_mean_80 (tgt := 59) (by decide) ?_
    exact ih (k + 1) ls (by omega) hl
end G33
set_option maxHeartbeats 4000000 in
set_option maxRecDepth 100000 in
theorem c_M_mean (l : Launch) (D : va_G) (ci : Nat → ClassId) (am : Nat → Nat) (g : TS) (th fo sz : Int32) (hs mi hi tx : Nat → Int32) {mm n : Nat} (hn0 : 1 ≤ n) (hn : n ≤ 2000) (hm : mm + n ≤ tt_fst g 10) : Met l y_M_mean (wT y_M_mean b_M_mean 6 (some .int)) (rP 3 70) (tb (wMD D ci am g th fo sz hs mi hi tx) [.ref (am 0), .int (nI mm), .int (nI n)]) (qM D ci am g (nI 0) fo sz hs mi hi tx (some (.int (iZ (tt_sm (tt_hgt g) mm n / n))))) 0 0 (mF am) := by
  refine Met.ofW (cc := b_M_mean) (maxL := 6) (ret := (some .int)) (by decide) rfl ?_
  intro p e s m args below meth c s₁ B hml hv
  obtain ⟨rfl, hK, hg, hM, hD⟩ := hv
  have hx := B.exec
  have hb := B.bytes
  have hr := B.returns
  have hts := atoms_spec (ws := wT y_M_mean b_M_mean 6 (some .int)) B.pre
  have hT : ∀ w ∈ TT, w ∈ wT y_M_mean b_M_mean 6 (some .int) := wT_T
  have hown : s.vm.findClass RM = some m.cls := findClass_of_methodNamed B.named
  have hlocks := B.notSynchronized
  have hl := lv_entry ([.ref (am 0), .int (nI mm), .int (nI n)]) (n := 6) (Nat.le_of_ble_eq_true rfl)
  rw [lg_entry_eq]
  generalize (lg_sl ([.ref (am 0), .int (nI mm), .int (nI n)]) ++ List.replicate (6 - (lg_sl ([.ref (am 0), .int (nI mm), .int (nI n)])).length) Slot.unset).toArray = ls at hl ⊢
  have hl : lv_has ls 6 [(0, .ref (am 0)), (1, .int (nI mm)), (2, .int (nI n))] := hl
  have hL : ∀ q ∈ ([] : List Loc), mF am q.base := fun q hq => nomatch hq
  have hO : mO am s.heap s.heap := mO.rf
  have hdb := tt_db_in hg.2.2.2 10 (Nat.le_refl _)
  have hf10 : tt_fst g 10 = 1440 * tt_db (tt_day g) 10 := rfl
  have ev : (nI mm).toInt = mm := nI_toInt (by omega)
  have en : (nI n).toInt = n := nI_toInt (by omega)
  have e1 : (nI (mm + n - 1)).toInt = ((mm + n - 1 : Nat) : Int) := nI_toInt (by omega)
  have hsm := tt_sm_in (fun k => tt_hgt_in hg k) mm n
  refine lv_aload_n hx hb d_M_mean_0 rfl (lv_at hl 0 rfl) ?_
  refine lv_iload_n hx hb d_M_mean_1 rfl (lv_at hl 2 rfl) ?_
  refine lv_iconst hx hb d_M_mean_2 (v := (nI 1)) rfl ?_
  refine lv_icmp_lt hx hb d_M_mean_3 (tgt := 13) (by decide) (fun q1 => ?_) (fun q1 => ?_)
  · have q1 := Int32.lt_iff_toInt_lt.mp q1
    rw [nI_toInt (n := 1) (by decide)] at q1
    refine lv_iconst hx hb d_M_mean_13 (v := (nI 1)) rfl ?_
    refine lv_goto hx hb d_M_mean_14 (tgt := 42) (by decide) ?_
    exfalso
    omega
  · have q1 := mt Int32.lt_iff_toInt_lt.mpr q1
    rw [nI_toInt (n := 1) (by decide)] at q1
    refine lv_iload_n hx hb d_M_mean_6 rfl (lv_at hl 2 rfl) ?_
    refine lv_sipush hx hb d_M_mean_7 (v := (nI 2000)) rfl ?_
    refine lv_icmp_le hx hb d_M_mean_10 (tgt := 17) (by decide) (fun q2 => ?_) (fun q2 => ?_)
    · have q2 := Int32.le_iff_toInt_le.mp q2
      rw [nI_toInt (n := 2000) (by decide)] at q2
      refine lv_aload_n hx hb d_M_mean_17 rfl (lv_at hl 0 rfl) ?_
      refine lv_iload_n hx hb d_M_mean_18 rfl (lv_at hl 1 rfl) ?_
      refine tq_V ⟨hx, hb, hml, hown, hts⟩ hT (c_M_isMinute l D ci am g th fo sz hs mi hi tx (nI mm)) lk_M_73 wM_mv ⟨hK, hg, hM⟩ (wM_rc hK hM) rfl hl.1 rfl (Nat.le_of_ble_eq_true rfl) d_M_mean_19 ⟨rfl, rfl, Nat.le_of_ble_eq_true rfl, Nat.le_of_ble_eq_true rfl⟩ ⟨Nat.zero_le _, Nat.zero_le _⟩ ?_
      refine lv_if_eq hx hb d_M_mean_22 (tgt := 37) (by decide) (fun q3 => ?_) (fun q3 => ?_)
      · have q3 := zb_f q3
        refine lv_iconst hx hb d_M_mean_37 (v := (nI 2)) rfl ?_
        refine lv_goto hx hb d_M_mean_38 (tgt := 42) (by decide) ?_
        exfalso
        omega
      · have q3 := zb_t q3
        refine lv_aload_n hx hb d_M_mean_25 rfl (lv_at hl 0 rfl) ?_
        refine lv_iload_n hx hb d_M_mean_26 rfl (lv_at hl 1 rfl) ?_
        refine lv_iload_n hx hb d_M_mean_27 rfl (lv_at hl 2 rfl) ?_
        refine lv_iadd hx hb d_M_mean_28 ?_
        refine lv_iconst hx hb d_M_mean_29 (v := (nI 1)) rfl ?_
        refine lv_isub hx hb d_M_mean_30 ?_
        refine tq_ti (show _ = (nI (mm + n - 1)) from (by rw [nI_add]; exact pk_sub (by omega))) ?_
        refine tq_V ⟨hx, hb, hml, hown, hts⟩ hT (c_M_isMinute l D ci am g th fo sz hs mi hi tx (nI (mm + n - 1))) lk_M_73 wM_mv ⟨hK, hg, hM⟩ (wM_rc hK hM) rfl hl.1 rfl (Nat.le_of_ble_eq_true rfl) d_M_mean_31 ⟨rfl, rfl, Nat.le_of_ble_eq_true rfl, Nat.le_of_ble_eq_true rfl⟩ ⟨Nat.zero_le _, Nat.zero_le _⟩ ?_
        refine lv_if_ne hx hb d_M_mean_34 (tgt := 41) (by decide) (fun q4 => ?_) (fun q4 => ?_)
        · have q4 := zb_t q4
          refine lv_iconst hx hb d_M_mean_41 (v := (nI 0)) rfl ?_
          refine tq_put (F := mF am) hx hb hts (fun w h => hT w (uM_in w h)) tM tM_ok nM hown hK (tm_one hM 0 rfl) (ci := 1) rfl 0 (by decide) (hts _ (hT _ k_M_43)) (fun _ h => h) rfl (ty := .int) rfl rfl rfl (Nat.le_of_ble_eq_true rfl) ⟨0, by decide, rfl⟩ hL d_M_mean_42 (fun H1 locs1 hP1 hz1 hq1 hL => ?_)
          have hM : tm D ci am g (nI 0) fo sz hs mi hi tx H1 := tm_set hD hM 0 (by decide) rfl hP1 (fun j hj => by rcases j with _ | _ | _ | _ | _ | _ | _ | _ | _ | _ | _ | j <;> first | rfl | exact absurd rfl hj) hq1
          have hO := hO.tr (mO.put (k := 0) (by decide) hz1 hq1)
          refine lv_aload_n hx hb d_M_mean_45 rfl (lv_at hl 0 rfl) ?_
          refine va_get hx hb hts (fun w h => hT w (uM_in w h)) hown hK hM 0 rfl rfl 0 (by decide) (hts _ (hT _ k_M_43)) (fun _ h => h) rfl d_M_mean_46 ?_
          refine lv_if_eq hx hb d_M_mean_49 (tgt := 54) (by decide) (fun _ => ?_) (fun hno => absurd (by decide) hno)
          refine lv_lconst hx hb d_M_mean_54 (v := (lN 0)) rfl ?_
          refine lv_lstore_n hx hb d_M_mean_55 rfl hl (by decide) (lv' := [(3, .long (lN 0)), (0, .ref (am 0)), (1, .int (nI mm)), (2, .int (nI n))]) rfl (fun ls hl => ?_)
          refine lv_iconst hx hb d_M_mean_56 (v := (nI 0)) rfl ?_
          refine lv_istore hx hb d_M_mean_57 hl (by decide) (lv' := [(5, .int (nI 0)), (3, .long (lN 0)), (0, .ref (am 0)), (1, .int (nI mm)), (2, .int (nI n))]) rfl (fun ls hl => ?_)
          refine l_M_mean hx hb hts hT hown hml hK hg hM ⟨Nat.le_of_ble_eq_true rfl, Nat.le_of_ble_eq_true rfl⟩ ⟨Nat.zero_le _, Nat.zero_le _⟩ (by omega) (by omega) (fun ls hl => ?_) n 0 ls (Nat.zero_add _) hl
          refine lv_lload_n hx hb d_M_mean_83 rfl (lv_at hl 1 rfl) ?_
          refine lv_iload_n hx hb d_M_mean_84 rfl (lv_at hl 4 rfl) ?_
          refine lv_i2l hx hb d_M_mean_85 (v := (nI n).toInt64) rfl ?_
          refine tq_tl (show _ = (lZ n) from ((nI_l (by omega)).trans (lN_lZ _))) ?_
          refine tq_S ⟨hx, hb, hml, hown, hts⟩ hT (c_M_floor l (a := tt_sm (tt_hgt g) mm n) (b := n) (by omega) (by omega) (by omega) (by omega)) lk_M_105 wN_mv trivial rfl hl.1 rfl (Nat.le_of_ble_eq_true rfl) d_M_mean_86 ⟨rfl, rfl, Nat.le_of_ble_eq_true rfl, Nat.le_of_ble_eq_true rfl⟩ ⟨Nat.zero_le _, Nat.zero_le _⟩ ?_
          refine lv_l2i hx hb d_M_mean_89 (v := (lZ (tt_sm (tt_hgt g) mm n / n)).toInt32) rfl ?_
          refine tq_ti (show _ = (iZ (tt_sm (tt_hgt g) mm n / n)) from lZ_i _) ?_
          exact W.iret hx hb hr (fun t ht hW => ⟨_, rfl, rfl, by rw [ht]; exact hM, by rw [ht]; exact hO⟩) hL d_M_mean_90
        · have q4 := zb_f q4
          refine lv_iconst hx hb d_M_mean_37 (v := (nI 2)) rfl ?_
          refine lv_goto hx hb d_M_mean_38 (tgt := 42) (by decide) ?_
          exfalso
          omega
    · have q2 := mt Int32.le_iff_toInt_le.mpr q2
      rw [nI_toInt (n := 2000) (by decide)] at q2
      refine lv_iconst hx hb d_M_mean_13 (v := (nI 1)) rfl ?_
      refine lv_goto hx hb d_M_mean_14 (tgt := 42) (by decide) ?_
      exfalso
      omega
set_option maxHeartbeats 4000000 in
set_option maxRecDepth 100000 in
theorem x_M_meanA (l : Launch) (D : va_G) (ci : Nat → ClassId) (am : Nat → Nat) (g : TS) (th fo sz : Int32) (hs mi hi tx : Nat → Int32) (u v : Int32) (hv0 : ¬ (1 ≤ v.toInt ∧ v.toInt ≤ 2000)) : Met l y_M_mean (wT y_M_mean b_M_mean 6 (some .int)) (rP 3 70) (tb (wMD D ci am g th fo sz hs mi hi tx) [.ref (am 0), .int u, .int v]) (qM D ci am g (nI 1) fo sz hs mi hi tx (some (.int (nI 0)))) 0 0 (mF am) := by
  refine Met.ofW (cc := b_M_mean) (maxL := 6) (ret := (some .int)) (by decide) rfl ?_
  intro p e s m args below meth c s₁ B hml hv
  obtain ⟨rfl, hK, hg, hM, hD⟩ := hv
  have hx := B.exec
  have hb := B.bytes
  have hr := B.returns
  have hts := atoms_spec (ws := wT y_M_mean b_M_mean 6 (some .int)) B.pre
  have hT : ∀ w ∈ TT, w ∈ wT y_M_mean b_M_mean 6 (some .int) := wT_T
  have hown : s.vm.findClass RM = some m.cls := findClass_of_methodNamed B.named
  have hlocks := B.notSynchronized
  have hl := lv_entry ([.ref (am 0), .int u, .int v]) (n := 6) (Nat.le_of_ble_eq_true rfl)
  rw [lg_entry_eq]
  generalize (lg_sl ([.ref (am 0), .int u, .int v]) ++ List.replicate (6 - (lg_sl ([.ref (am 0), .int u, .int v])).length) Slot.unset).toArray = ls at hl ⊢
  have hl : lv_has ls 6 [(0, .ref (am 0)), (1, .int u), (2, .int v)] := hl
  have hL : ∀ q ∈ ([] : List Loc), mF am q.base := fun q hq => nomatch hq
  have hO : mO am s.heap s.heap := mO.rf
  have hdb := tt_db_in hg.2.2.2 10 (Nat.le_refl _)
  have hf10 : tt_fst g 10 = 1440 * tt_db (tt_day g) 10 := rfl
  refine lv_aload_n hx hb d_M_mean_0 rfl (lv_at hl 0 rfl) ?_
  refine lv_iload_n hx hb d_M_mean_1 rfl (lv_at hl 2 rfl) ?_
  refine lv_iconst hx hb d_M_mean_2 (v := (nI 1)) rfl ?_
  refine lv_icmp_lt hx hb d_M_mean_3 (tgt := 13) (by decide) (fun q1 => ?_) (fun q1 => ?_)
  · have q1 := Int32.lt_iff_toInt_lt.mp q1
    rw [nI_toInt (n := 1) (by decide)] at q1
    refine lv_iconst hx hb d_M_mean_13 (v := (nI 1)) rfl ?_
    refine lv_goto hx hb d_M_mean_14 (tgt := 42) (by decide) ?_
    refine tq_put (F := mF am) hx hb hts (fun w h => hT w (uM_in w h)) tM tM_ok nM hown hK (tm_one hM 0 rfl) (ci := 1) rfl 0 (by decide) (hts _ (hT _ k_M_43)) (fun _ h => h) rfl (ty := .int) rfl rfl rfl (Nat.le_of_ble_eq_true rfl) ⟨0, by decide, rfl⟩ hL d_M_mean_42 (fun H1 locs1 hP1 hz1 hq1 hL => ?_)
    have hM : tm D ci am g (nI 1) fo sz hs mi hi tx H1 := tm_set hD hM 0 (by decide) rfl hP1 (fun j hj => by rcases j with _ | _ | _ | _ | _ | _ | _ | _ | _ | _ | _ | j <;> first | rfl | exact absurd rfl hj) hq1
    have hO := hO.tr (mO.put (k := 0) (by decide) hz1 hq1)
    refine lv_aload_n hx hb d_M_mean_45 rfl (lv_at hl 0 rfl) ?_
    refine va_get hx hb hts (fun w h => hT w (uM_in w h)) hown hK hM 0 rfl rfl 0 (by decide) (hts _ (hT _ k_M_43)) (fun _ h => h) rfl d_M_mean_46 ?_
    refine lv_if_eq hx hb d_M_mean_49 (tgt := 54) (by decide) (fun hyes => absurd hyes (by decide)) (fun _ => ?_)
    refine lv_iconst hx hb d_M_mean_52 (v := (nI 0)) rfl ?_
    exact W.iret hx hb hr (fun t ht hW => ⟨_, rfl, rfl, by rw [ht]; exact hM, by rw [ht]; exact hO⟩) hL d_M_mean_53
  · have q1 := mt Int32.lt_iff_toInt_lt.mpr q1
    rw [nI_toInt (n := 1) (by decide)] at q1
    refine lv_iload_n hx hb d_M_mean_6 rfl (lv_at hl 2 rfl) ?_
    refine lv_sipush hx hb d_M_mean_7 (v := (nI 2000)) rfl ?_
    refine lv_icmp_le hx hb d_M_mean_10 (tgt := 17) (by decide) (fun q2 => ?_) (fun q2 => ?_)
    · have q2 := Int32.le_iff_toInt_le.mp q2
      rw [nI_toInt (n := 2000) (by decide)] at q2
      refine lv_aload_n hx hb d_M_mean_17 rfl (lv_at hl 0 rfl) ?_
      refine lv_iload_n hx hb d_M_mean_18 rfl (lv_at hl 1 rfl) ?_
      refine tq_V ⟨hx, hb, hml, hown, hts⟩ hT (c_M_isMinute l D ci am g th fo sz hs mi hi tx u) lk_M_73 wM_mv ⟨hK, hg, hM⟩ (wM_rc hK hM) rfl hl.1 rfl (Nat.le_of_ble_eq_true rfl) d_M_mean_19 ⟨rfl, rfl, Nat.le_of_ble_eq_true rfl, Nat.le_of_ble_eq_true rfl⟩ ⟨Nat.zero_le _, Nat.zero_le _⟩ ?_
      refine lv_if_eq hx hb d_M_mean_22 (tgt := 37) (by decide) (fun q3 => ?_) (fun q3 => ?_)
      · have q3 := zb_f q3
        refine lv_iconst hx hb d_M_mean_37 (v := (nI 2)) rfl ?_
        refine lv_goto hx hb d_M_mean_38 (tgt := 42) (by decide) ?_
        exfalso
        omega
      · have q3 := zb_t q3
        refine lv_aload_n hx hb d_M_mean_25 rfl (lv_at hl 0 rfl) ?_
        refine lv_iload_n hx hb d_M_mean_26 rfl (lv_at hl 1 rfl) ?_
        refine lv_iload_n hx hb d_M_mean_27 rfl (lv_at hl 2 rfl) ?_
        refine lv_iadd hx hb d_M_mean_28 ?_
        refine lv_iconst hx hb d_M_mean_29 (v := (nI 1)) rfl ?_
        refine lv_isub hx hb d_M_mean_30 ?_
        have e5 : (u + v - nI 1).toInt = u.toInt + v.toInt - 1 := by rw [Jvm.Kit.i32_sub (by rw [Jvm.Kit.i32_add (by omega) (by omega), show (nI 1).toInt = 1 from rfl]; omega) (by rw [Jvm.Kit.i32_add (by omega) (by omega), show (nI 1).toInt = 1 from rfl]; omega), Jvm.Kit.i32_add (by omega) (by omega)]; rfl
        refine tq_V ⟨hx, hb, hml, hown, hts⟩ hT (c_M_isMinute l D ci am g th fo sz hs mi hi tx ((u + v) - (nI 1))) lk_M_73 wM_mv ⟨hK, hg, hM⟩ (wM_rc hK hM) rfl hl.1 rfl (Nat.le_of_ble_eq_true rfl) d_M_mean_31 ⟨rfl, rfl, Nat.le_of_ble_eq_true rfl, Nat.le_of_ble_eq_true rfl⟩ ⟨Nat.zero_le _, Nat.zero_le _⟩ ?_
        refine lv_if_ne hx hb d_M_mean_34 (tgt := 41) (by decide) (fun q4 => ?_) (fun q4 => ?_)
        · have q4 := zb_t q4
          refine lv_iconst hx hb d_M_mean_41 (v := (nI 0)) rfl ?_
          exfalso
          omega
        · have q4 := zb_f q4
          refine lv_iconst hx hb d_M_mean_37 (v := (nI 2)) rfl ?_
          refine lv_goto hx hb d_M_mean_38 (tgt := 42) (by decide) ?_
          exfalso
          omega
    · have q2 := mt Int32.le_iff_toInt_le.mpr q2
      rw [nI_toInt (n := 2000) (by decide)] at q2
      refine lv_iconst hx hb d_M_mean_13 (v := (nI 1)) rfl ?_
      refine lv_goto hx hb d_M_mean_14 (tgt := 42) (by decide) ?_
      refine tq_put (F := mF am) hx hb hts (fun w h => hT w (uM_in w h)) tM tM_ok nM hown hK (tm_one hM 0 rfl) (ci := 1) rfl 0 (by decide) (hts _ (hT _ k_M_43)) (fun _ h => h) rfl (ty := .int) rfl rfl rfl (Nat.le_of_ble_eq_true rfl) ⟨0, by decide, rfl⟩ hL d_M_mean_42 (fun H1 locs1 hP1 hz1 hq1 hL => ?_)
      have hM : tm D ci am g (nI 1) fo sz hs mi hi tx H1 := tm_set hD hM 0 (by decide) rfl hP1 (fun j hj => by rcases j with _ | _ | _ | _ | _ | _ | _ | _ | _ | _ | _ | j <;> first | rfl | exact absurd rfl hj) hq1
      have hO := hO.tr (mO.put (k := 0) (by decide) hz1 hq1)
      refine lv_aload_n hx hb d_M_mean_45 rfl (lv_at hl 0 rfl) ?_
      refine va_get hx hb hts (fun w h => hT w (uM_in w h)) hown hK hM 0 rfl rfl 0 (by decide) (hts _ (hT _ k_M_43)) (fun _ h => h) rfl d_M_mean_46 ?_
      refine lv_if_eq hx hb d_M_mean_49 (tgt := 54) (by decide) (fun hyes => absurd hyes (by decide)) (fun _ => ?_)
      refine lv_iconst hx hb d_M_mean_52 (v := (nI 0)) rfl ?_
      exact W.iret hx hb hr (fun t ht hW => ⟨_, rfl, rfl, by rw [ht]; exact hM, by rw [ht]; exact hO⟩) hL d_M_mean_53
set_option maxHeartbeats 4000000 in
set_option maxRecDepth 100000 in
theorem x_M_meanI (l : Launch) (D : va_G) (ci : Nat → ClassId) (am : Nat → Nat) (g : TS) (th fo sz : Int32) (hs mi hi tx : Nat → Int32) (u v : Int32) (hv1 : 1 ≤ v.toInt ∧ v.toInt ≤ 2000) (hv0 : ¬ (0 ≤ u.toInt ∧ u.toInt + v.toInt ≤ (tt_fst g 10 : Nat))) : Met l y_M_mean (wT y_M_mean b_M_mean 6 (some .int)) (rP 3 70) (tb (wMD D ci am g th fo sz hs mi hi tx) [.ref (am 0), .int u, .int v]) (qM D ci am g (nI 2) fo sz hs mi hi tx (some (.int (nI 0)))) 0 0 (mF am) := by
  refine Met.ofW (cc := b_M_mean) (maxL := 6) (ret := (some .int)) (by decide) rfl ?_
  intro p e s m args below meth c s₁ B hml hv
  obtain ⟨rfl, hK, hg, hM, hD⟩ := hv
  have hx := B.exec
  have hb := B.bytes
  have hr := B.returns
  have hts := atoms_spec (ws := wT y_M_mean b_M_mean 6 (some .int)) B.pre
  have hT : ∀ w ∈ TT, w ∈ wT y_M_mean b_M_mean 6 (some .int) := wT_T
  have hown : s.vm.findClass RM = some m.cls := findClass_of_methodNamed B.named
  have hlocks := B.notSynchronized
  have hl := lv_entry ([.ref (am 0), .int u, .int v]) (n := 6) (Nat.le_of_ble_eq_true rfl)
  rw [lg_entry_eq]
  generalize (lg_sl ([.ref (am 0), .int u, .int v]) ++ List.replicate (6 - (lg_sl ([.ref (am 0), .int u, .int v])).length) Slot.unset).toArray = ls at hl ⊢
  have hl : lv_has ls 6 [(0, .ref (am 0)), (1, .int u), (2, .int v)] := hl
  have hL : ∀ q ∈ ([] : List Loc), mF am q.base := fun q hq => nomatch hq
  have hO : mO am s.heap s.heap := mO.rf
  have hdb := tt_db_in hg.2.2.2 10 (Nat.le_refl _)
  have hf10 : tt_fst g 10 = 1440 * tt_db (tt_day g) 10 := rfl
  refine lv_aload_n hx hb d_M_mean_0 rfl (lv_at hl 0 rfl) ?_
  refine lv_iload_n hx hb d_M_mean_1 rfl (lv_at hl 2 rfl) ?_
  refine lv_iconst hx hb d_M_mean_2 (v := (nI 1)) rfl ?_
  refine lv_icmp_lt hx hb d_M_mean_3 (tgt := 13) (by decide) (fun q1 => ?_) (fun q1 => ?_)
  · have q1 := Int32.lt_iff_toInt_lt.mp q1
    rw [nI_toInt (n := 1) (by decide)] at q1
    refine lv_iconst hx hb d_M_mean_13 (v := (nI 1)) rfl ?_
    refine lv_goto hx hb d_M_mean_14 (tgt := 42) (by decide) ?_
    exfalso
    omega
  · have q1 := mt Int32.lt_iff_toInt_lt.mpr q1
    rw [nI_toInt (n := 1) (by decide)] at q1
    refine lv_iload_n hx hb d_M_mean_6 rfl (lv_at hl 2 rfl) ?_
    refine lv_sipush hx hb d_M_mean_7 (v := (nI 2000)) rfl ?_
    refine lv_icmp_le hx hb d_M_mean_10 (tgt := 17) (by decide) (fun q2 => ?_) (fun q2 => ?_)
    · have q2 := Int32.le_iff_toInt_le.mp q2
      rw [nI_toInt (n := 2000) (by decide)] at q2
      refine lv_aload_n hx hb d_M_mean_17 rfl (lv_at hl 0 rfl) ?_
      refine lv_iload_n hx hb d_M_mean_18 rfl (lv_at hl 1 rfl) ?_
      refine tq_V ⟨hx, hb, hml, hown, hts⟩ hT (c_M_isMinute l D ci am g th fo sz hs mi hi tx u) lk_M_73 wM_mv ⟨hK, hg, hM⟩ (wM_rc hK hM) rfl hl.1 rfl (Nat.le_of_ble_eq_true rfl) d_M_mean_19 ⟨rfl, rfl, Nat.le_of_ble_eq_true rfl, Nat.le_of_ble_eq_true rfl⟩ ⟨Nat.zero_le _, Nat.zero_le _⟩ ?_
      refine lv_if_eq hx hb d_M_mean_22 (tgt := 37) (by decide) (fun q3 => ?_) (fun q3 => ?_)
      · have q3 := zb_f q3
        refine lv_iconst hx hb d_M_mean_37 (v := (nI 2)) rfl ?_
        refine lv_goto hx hb d_M_mean_38 (tgt := 42) (by decide) ?_
        refine tq_put (F := mF am) hx hb hts (fun w h => hT w (uM_in w h)) tM tM_ok nM hown hK (tm_one hM 0 rfl) (ci := 1) rfl 0 (by decide) (hts _ (hT _ k_M_43)) (fun _ h => h) rfl (ty := .int) rfl rfl rfl (Nat.le_of_ble_eq_true rfl) ⟨0, by decide, rfl⟩ hL d_M_mean_42 (fun H1 locs1 hP1 hz1 hq1 hL => ?_)
        have hM : tm D ci am g (nI 2) fo sz hs mi hi tx H1 := tm_set hD hM 0 (by decide) rfl hP1 (fun j hj => by rcases j with _ | _ | _ | _ | _ | _ | _ | _ | _ | _ | _ | j <;> first | rfl | exact absurd rfl hj) hq1
        have hO := hO.tr (mO.put (k := 0) (by decide) hz1 hq1)
        refine lv_aload_n hx hb d_M_mean_45 rfl (lv_at hl 0 rfl) ?_
        refine va_get hx hb hts (fun w h => hT w (uM_in w h)) hown hK hM 0 rfl rfl 0 (by decide) (hts _ (hT _ k_M_43)) (fun _ h => h) rfl d_M_mean_46 ?_
        refine lv_if_eq hx hb d_M_mean_49 (tgt := 54) (by decide) (fun hyes => absurd hyes (by decide)) (fun _ => ?_)
        refine lv_iconst hx hb d_M_mean_52 (v := (nI 0)) rfl ?_
        exact W.iret hx hb hr (fun t ht hW => ⟨_, rfl, rfl, by rw [ht]; exact hM, by rw [ht]; exact hO⟩) hL d_M_mean_53
      · have q3 := zb_t q3
        refine lv_aload_n hx hb d_M_mean_25 rfl (lv_at hl 0 rfl) ?_
        refine lv_iload_n hx hb d_M_mean_26 rfl (lv_at hl 1 rfl) ?_
        refine lv_iload_n hx hb d_M_mean_27 rfl (lv_at hl 2 rfl) ?_
        refine lv_iadd hx hb d_M_mean_28 ?_
        refine lv_iconst hx hb d_M_mean_29 (v := (nI 1)) rfl ?_
        refine lv_isub hx hb d_M_mean_30 ?_
        have e5 : (u + v - nI 1).toInt = u.toInt + v.toInt - 1 := by rw [Jvm.Kit.i32_sub (by rw [Jvm.Kit.i32_add (by omega) (by omega), show (nI 1).toInt = 1 from rfl]; omega) (by rw [Jvm.Kit.i32_add (by omega) (by omega), show (nI 1).toInt = 1 from rfl]; omega), Jvm.Kit.i32_add (by omega) (by omega)]; rfl
        refine tq_V ⟨hx, hb, hml, hown, hts⟩ hT (c_M_isMinute l D ci am g th fo sz hs mi hi tx ((u + v) - (nI 1))) lk_M_73 wM_mv ⟨hK, hg, hM⟩ (wM_rc hK hM) rfl hl.1 rfl (Nat.le_of_ble_eq_true rfl) d_M_mean_31 ⟨rfl, rfl, Nat.le_of_ble_eq_true rfl, Nat.le_of_ble_eq_true rfl⟩ ⟨Nat.zero_le _, Nat.zero_le _⟩ ?_
        refine lv_if_ne hx hb d_M_mean_34 (tgt := 41) (by decide) (fun q4 => ?_) (fun q4 => ?_)
        · have q4 := zb_t q4
          refine lv_iconst hx hb d_M_mean_41 (v := (nI 0)) rfl ?_
          exfalso
          omega
        · have q4 := zb_f q4
          refine lv_iconst hx hb d_M_mean_37 (v := (nI 2)) rfl ?_
          refine lv_goto hx hb d_M_mean_38 (tgt := 42) (by decide) ?_
          refine tq_put (F := mF am) hx hb hts (fun w h => hT w (uM_in w h)) tM tM_ok nM hown hK (tm_one hM 0 rfl) (ci := 1) rfl 0 (by decide) (hts _ (hT _ k_M_43)) (fun _ h => h) rfl (ty := .int) rfl rfl rfl (Nat.le_of_ble_eq_true rfl) ⟨0, by decide, rfl⟩ hL d_M_mean_42 (fun H1 locs1 hP1 hz1 hq1 hL => ?_)
          have hM : tm D ci am g (nI 2) fo sz hs mi hi tx H1 := tm_set hD hM 0 (by decide) rfl hP1 (fun j hj => by rcases j with _ | _ | _ | _ | _ | _ | _ | _ | _ | _ | _ | j <;> first | rfl | exact absurd rfl hj) hq1
          have hO := hO.tr (mO.put (k := 0) (by decide) hz1 hq1)
          refine lv_aload_n hx hb d_M_mean_45 rfl (lv_at hl 0 rfl) ?_
          refine va_get hx hb hts (fun w h => hT w (uM_in w h)) hown hK hM 0 rfl rfl 0 (by decide) (hts _ (hT _ k_M_43)) (fun _ h => h) rfl d_M_mean_46 ?_
          refine lv_if_eq hx hb d_M_mean_49 (tgt := 54) (by decide) (fun hyes => absurd hyes (by decide)) (fun _ => ?_)
          refine lv_iconst hx hb d_M_mean_52 (v := (nI 0)) rfl ?_
          exact W.iret hx hb hr (fun t ht hW => ⟨_, rfl, rfl, by rw [ht]; exact hM, by rw [ht]; exact hO⟩) hL d_M_mean_53
    · have q2 := mt Int32.le_iff_toInt_le.mpr q2
      rw [nI_toInt (n := 2000) (by decide)] at q2
      refine lv_iconst hx hb d_M_mean_13 (v := (nI 1)) rfl ?_
      refine lv_goto hx hb d_M_mean_14 (tgt := 42) (by decide) ?_
      exfalso
      omega
section G33b
variable {p : Program} {l : Launch} {e : Env} {R : Room} {s : State} {m : MethodId} {args : Array Value} {below : List Frame} {meth : Method} {c : Code} {H : Heap} {locs : List Loc} {cells slots : Nat} {Q : State → Prop} {Ts : List Cond}
variable {D : va_G} {ci : Nat → ClassId} {am : Nat → Nat} {g : TS} {th fo sz : Int32} {hs mi hi tx : Nat → Int32}
set_option maxHeartbeats 4000000 in
set_option maxRecDepth 100000 in
theorem l_M_above (hx : p.tables.exec = Jvm.exec) (hb : c.code = b_M_above) (hts : ∀ w ∈ Ts, w.before args s = true) (hT : ∀ w ∈ TT, w ∈ Ts) (hown : s.vm.findClass RM = some m.cls) (hml : c.maxLocals = 7) (hK : tk D ci s) (hg : tt_ok g) (hM : tm D ci am g th fo sz hs mi hi tx H) (hR : 2 + 1 ≤ R.frames ∧ 8 + (6 + 11) + 45 ≤ R.locals) (hf : cells ≤ R.cells ∧ slots ≤ R.slots) {mm sp : Nat} {v : Int32} (hsp : sp ≤ 1000) (hsp1 : 1 ≤ sp) (hmm : mm < tt_fst g 10) {A : Option Nat}
    (kk : ∀ (ls : Array Slot), lv_has ls 7 [(6, .int (tt_abv A))] → W p l e R s m args below meth c H locs cells slots Q (F0 m 122 ls [])) :
    ∀ (d k r : Nat) (ls : Array Slot), k + d = mm + tt_abn g mm sp → r + mm ≤ k → r < sp → tt_ab (tt_hgt g) v.toInt sp d k r = A → lv_has ls 7 [(6, .int (-1)), (5, .int (nI k)), (4, .int (nI r)), (0, .ref (am 0)), (1, .int (nI mm)), (2, .int v), (3, .int (nI sp))] → W p l e R s m args below meth c H locs cells slots Q (F0 m 51 ls []) := by
  have hdb := tt_db_in hg.2.2.2 10 (Nat.le_refl _)
  have hf10 : tt_fst g 10 = 1440 * tt_db (tt_day g) 10 := rfl
  have hmn : mm + tt_abn g mm sp = min (tt_fst g 10) (mm + 3000 + sp - 1) := by unfold tt_abn; omega
  intro d
  induction d with
  | zero =>
    intro k r ls hk hr hs9 hA hl
    have hA : none = A := hA
    subst hA
    have ek : (nI k).toInt = k := nI_toInt (by omega)
    refine lv_iload hx hb d_M_above_51 (lv_at hl 0 rfl) ?_
    refine lv_iconst hx hb d_M_above_53 (v := (-1)) rfl ?_
    refine lv_icmp_ne hx hb d_M_above_54 (tgt := 122) (by decide) (fun hyes => absurd rfl hyes) (fun _ => ?_)
    refine lv_aload_n hx hb d_M_above_57 rfl (lv_at hl 3 rfl) ?_
    refine lv_iload hx hb d_M_above_58 (lv_at hl 1 rfl) ?_
    refine tq_V ⟨hx, hb, hml, hown, hts⟩ hT (c_M_isMinute l D ci am g th fo sz hs mi hi tx (nI k)) lk_M_73 wM_mv ⟨hK, hg, hM⟩ (wM_rc hK hM) rfl hl.1 rfl (Nat.le_of_ble_eq_true rfl) d_M_above_60 ⟨rfl, rfl, by show 1 + 1 ≤ R.frames; omega, by show 8 + (2 + 11) + 23 ≤ R.locals; omega⟩ hf ?_
    refine lv_if_eq hx hb d_M_above_63 (tgt := 122) (by decide) (fun h1 => ?_) (fun h1 => ?_)
    · exact kk ls (lv_sub hl [0] rfl)
    · have h1 := zb_t h1
      refine lv_iload hx hb d_M_above_66 (lv_at hl 1 rfl) ?_
      refine lv_iload_n hx hb d_M_above_68 rfl (lv_at hl 6 rfl) ?_
      refine lv_isub hx hb d_M_above_69 ?_
      refine lv_iload_n hx hb d_M_above_70 rfl (lv_at hl 4 rfl) ?_
      refine lv_sipush hx hb d_M_above_71 (v := (nI 2999)) rfl ?_
      refine lv_iadd hx hb d_M_above_74 ?_
      refine tq_ti (show _ = (nI (mm + 2999)) from nI_add _ _) ?_
      refine lv_icmp_ge hx hb d_M_above_75 (tgt := 122) (by decide) (fun _ => ?_) (fun hno => absurd (by rw [Int32.le_iff_toInt_le, nI_toInt (by omega), pk_sub_toInt (by omega) (by omega)]; omega) hno)
      exact kk ls (lv_sub hl [0] rfl)
  | succ d ih =>
    intro k r ls hk hr hs9 hA hl
    have hh := tt_hgt_in hg k
    have ek : (nI k).toInt = k := nI_toInt (by omega)
    rw [tt_ab] at hA
    refine lv_iload hx hb d_M_above_51 (lv_at hl 0 rfl) ?_
    refine lv_iconst hx hb d_M_above_53 (v := (-1)) rfl ?_
    refine lv_icmp_ne hx hb d_M_above_54 (tgt := 122) (by decide) (fun hyes => absurd rfl hyes) (fun _ => ?_)
    refine lv_aload_n hx hb d_M_above_57 rfl (lv_at hl 3 rfl) ?_
    refine lv_iload hx hb d_M_above_58 (lv_at hl 1 rfl) ?_
    refine tq_V ⟨hx, hb, hml, hown, hts⟩ hT (c_M_isMinute l D ci am g th fo sz hs mi hi tx (nI k)) lk_M_73 wM_mv ⟨hK, hg, hM⟩ (wM_rc hK hM) rfl hl.1 rfl (Nat.le_of_ble_eq_true rfl) d_M_above_60 ⟨rfl, rfl, by show 1 + 1 ≤ R.frames; omega, by show 8 + (2 + 11) + 23 ≤ R.locals; omega⟩ hf ?_
    refine lv_if_eq hx hb d_M_above_63 (tgt := 122) (by decide) (fun hyes => absurd hyes (fun z => zb_f z (by omega))) (fun _ => ?_)
    refine lv_iload hx hb d_M_above_66 (lv_at hl 1 rfl) ?_
    refine lv_iload_n hx hb d_M_above_68 rfl (lv_at hl 6 rfl) ?_
    refine lv_isub hx hb d_M_above_69 ?_
    refine lv_iload_n hx hb d_M_above_70 rfl (lv_at hl 4 rfl) ?_
    refine lv_sipush hx hb d_M_above_71 (v := (nI 2999)) rfl ?_
    refine lv_iadd hx hb d_M_above_74 ?_
    refine tq_ti (show _ = (nI (mm + 2999)) from nI_add _ _) ?_
    refine lv_icmp_ge hx hb d_M_above_75 (tgt := 122) (by decide) (fun hyes => absurd hyes (by rw [Int32.le_iff_toInt_le, nI_toInt (by omega), pk_sub_toInt (by omega) (by omega)]; omega)) (fun _ => ?_)
    refine lv_aload_n hx hb d_M_above_78 rfl (lv_at hl 3 rfl) ?_
    refine lv_iload hx hb d_M_above_79 (lv_at hl 1 rfl) ?_
    refine tq_V ⟨hx, hb, hml, hown, hts⟩ hT (c_M_heightAt l D ci am g th fo sz hs mi hi tx (mm := k) (by omega)) lk_M_109 wM_mv ⟨hK, hg, hM⟩ (wM_rc hK hM) rfl hl.1 rfl (Nat.le_of_ble_eq_true rfl) d_M_above_81 ⟨rfl, rfl, hR⟩ hf ?_
    refine lv_iload_n hx hb d_M_above_84 rfl (lv_at hl 5 rfl) ?_
    refine lv_icmp_lt hx hb d_M_above_85 (tgt := 95) (by decide) (fun h1 => ?_) (fun h1 => ?_)
    · have h1 := Int32.lt_iff_toInt_lt.mp h1
      rw [iZ_toInt (by omega) (by omega)] at h1
      rw [if_neg (by omega)] at hA
      refine lv_iconst hx hb d_M_above_95 (v := (nI 0)) rfl ?_
      refine lv_istore hx hb d_M_above_96 hl (by decide) (lv' := [(4, .int (nI 0)), (6, .int (-1)), (5, .int (nI k)), (0, .ref (am 0)), (1, .int (nI mm)), (2, .int v), (3, .int (nI sp))]) rfl (fun ls hl => ?_)
      refine lv_iload hx hb d_M_above_98 (lv_at hl 0 rfl) ?_
      refine lv_iload_n hx hb d_M_above_100 rfl (lv_at hl 6 rfl) ?_
      refine lv_icmp_lt hx hb d_M_above_101 (tgt := 113) (by decide) (fun _ => ?_) (fun hno => absurd (nI_lt hsp1 (by omega)) hno)
      refine lv_iconst hx hb d_M_above_113 (v := (-1)) rfl ?_
      refine lv_istore hx hb d_M_above_114 hl (by decide) (lv' := [(6, .int (-1)), (4, .int (nI 0)), (5, .int (nI k)), (0, .ref (am 0)), (1, .int (nI mm)), (2, .int v), (3, .int (nI sp))]) rfl (fun ls hl => ?_)
      refine lv_iinc hx hb d_M_above_116 hl (k := 2) rfl (v := (nI (k + 1))) (by rw [show Int32.ofInt 1 = 1 from rfl]; exact nI_1 k) (by decide) (lv' := [(5, .int (nI (k + 1))), (6, .int (-1)), (4, .int (nI 0)), (0, .ref (am 0)), (1, .int (nI mm)), (2, .int v), (3, .int (nI sp))]) rfl (fun ls hl => ?_)
      refine lv_goto hx hb d_M_above_119 (tgt := 51) (by decide) ?_
      have hl := lv_sub hl (l' := [(6, .int (-1)), (5, .int (nI (k + 1))), (4, .int (nI 0)), (0, .ref (am 0)), (1, .int (nI mm)), (2, .int v), (3, .int (nI sp))]) [1, 0, 2, 3, 4, 5, 6] rfl
      exact ih (k + 1) 0 ls (by omega) (by omega) (by omega) hA hl
    · have h1 := mt Int32.lt_iff_toInt_lt.mpr h1
      rw [iZ_toInt (by omega) (by omega)] at h1
      rw [if_pos (by omega)] at hA
      refine lv_iload hx hb d_M_above_88 (lv_at hl 2 rfl) ?_
      refine lv_iconst hx hb d_M_above_90 (v := (nI 1)) rfl ?_
      refine lv_iadd hx hb d_M_above_91 ?_
      refine tq_ti (show _ = (nI (r + 1)) from nI_add _ _) ?_
      refine lv_goto hx hb d_M_above_92 (tgt := 96) (by decide) ?_
      refine lv_istore hx hb d_M_above_96 hl (by decide) (lv' := [(4, .int (nI (r + 1))), (6, .int (-1)), (5, .int (nI k)), (0, .ref (am 0)), (1, .int (nI mm)), (2, .int v), (3, .int (nI sp))]) rfl (fun ls hl => ?_)
      refine lv_iload hx hb d_M_above_98 (lv_at hl 0 rfl) ?_
      refine lv_iload_n hx hb d_M_above_100 rfl (lv_at hl 6 rfl) ?_
      refine lv_icmp_lt hx hb d_M_above_101 (tgt := 113) (by decide) (fun h2 => ?_) (fun h2 => ?_)
      · have h2 := (nI_ltI (by omega) (by omega)).mp h2
        rw [if_neg (by omega)] at hA
        refine lv_iconst hx hb d_M_above_113 (v := (-1)) rfl ?_
        refine lv_istore hx hb d_M_above_114 hl (by decide) (lv' := [(6, .int (-1)), (4, .int (nI (r + 1))), (5, .int (nI k)), (0, .ref (am 0)), (1, .int (nI mm)), (2, .int v), (3, .int (nI sp))]) rfl (fun ls hl => ?_)
        refine lv_iinc hx hb d_M_above_116 hl (k := 2) rfl (v := (nI (k + 1))) (by rw [show Int32.ofInt 1 = 1 from rfl]; exact nI_1 k) (by decide) (lv' := [(5, .int (nI (k + 1))), (6, .int (-1)), (4, .int (nI (r + 1))), (0, .ref (am 0)), (1, .int (nI mm)), (2, .int v), (3, .int (nI sp))]) rfl (fun ls hl => ?_)
        refine lv_goto hx hb d_M_above_119 (tgt := 51) (by decide) ?_
        have hl := lv_sub hl (l' := [(6, .int (-1)), (5, .int (nI (k + 1))), (4, .int (nI (r + 1))), (0, .ref (am 0)), (1, .int (nI mm)), (2, .int v), (3, .int (nI sp))]) [1, 0, 2, 3, 4, 5, 6] rfl
        exact ih (k + 1) (r + 1) ls (by omega) (by omega) (by omega) hA hl
      · have h2 := mt (nI_ltI (by omega) (by omega)).mpr h2
        rw [if_pos (by omega)] at hA
        refine lv_iload hx hb d_M_above_104 (lv_at hl 2 rfl) ?_
        refine lv_iload_n hx hb d_M_above_106 rfl (lv_at hl 6 rfl) ?_
        refine lv_isub hx hb d_M_above_107 ?_
        refine lv_iconst hx hb d_M_above_108 (v := (nI 1)) rfl ?_
        refine lv_iadd hx hb d_M_above_109 ?_
        refine tq_ti (show _ = (nI (k + 1 - sp)) from (by rw [nI_iZ, nI_iZ, nI_iZ, nI_iZ, iZ_sub, iZ_add]; congr 1; omega)) ?_
        refine lv_goto hx hb d_M_above_110 (tgt := 114) (by decide) ?_
        refine lv_istore hx hb d_M_above_114 hl (by decide) (lv' := [(6, .int (nI (k + 1 - sp))), (4, .int (nI (r + 1))), (5, .int (nI k)), (0, .ref (am 0)), (1, .int (nI mm)), (2, .int v), (3, .int (nI sp))]) rfl (fun ls hl => ?_)
        refine lv_iinc hx hb d_M_above_116 hl (k := 2) rfl (v := (nI (k + 1))) (by rw [show Int32.ofInt 1 = 1 from rfl]; exact nI_1 k) (by decide) (lv' := [(5, .int (nI (k + 1))), (6, .int (nI (k + 1 - sp))), (4, .int (nI (r + 1))), (0, .ref (am 0)), (1, .int (nI mm)), (2, .int v), (3, .int (nI sp))]) rfl (fun ls hl => ?_)
        refine lv_goto hx hb d_M_above_119 (tgt := 51) (by decide) ?_
        refine lv_iload hx hb d_M_above_51 (lv_at hl 1 rfl) ?_
        refine lv_iconst hx hb d_M_above_53 (v := (-1)) rfl ?_
        refine lv_icmp_ne hx hb d_M_above_54 (tgt := 122) (by decide) (fun _ => ?_) (fun hno => absurd hno (fun h9 => by have h8 := congrArg Int32.toInt h9; rw [nI_toInt (by omega)] at h8; exact absurd h8 (by have : (-1 : Int32).toInt = -1 := rfl; omega)))
        have hl := lv_sub hl (l' := [(6, .int (nI (k + 1 - sp)))]) [1] rfl
        subst hA
        exact kk ls hl
end G33b
set_option maxHeartbeats 4000000 in
set_option maxRecDepth 100000 in
theorem c_M_above (l : Launch) (D : va_G) (ci : Nat → ClassId) (am : Nat → Nat) (g : TS) (th fo sz : Int32) (hs mi hi tx : Nat → Int32) {mm sp : Nat} (v : Int32) (hs1 : 1 ≤ sp) (hs2 : sp ≤ 1000) (hm : mm < tt_fst g 10) : Met l y_M_above (wT y_M_above b_M_above 7 (some .int)) (rP 3 70) (tb (wMD D ci am g th fo sz hs mi hi tx) [.ref (am 0), .int (nI mm), .int v, .int (nI sp)]) (qM D ci am g (nI 0) fo sz hs mi hi tx (some (.int (tt_abv (tt_ab (tt_hgt g) v.toInt sp (tt_abn g mm sp) mm 0))))) 0 0 (mF am) := by
  refine Met.ofW (cc := b_M_above) (maxL := 7) (ret := (some .int)) (by decide) rfl ?_
  intro p e s m args below meth c s₁ B hml hv
  obtain ⟨rfl, hK, hg, hM, hD⟩ := hv
  have hx := B.exec
  have hb := B.bytes
  have hr := B.returns
  have hts := atoms_spec (ws := wT y_M_above b_M_above 7 (some .int)) B.pre
  have hT : ∀ w ∈ TT, w ∈ wT y_M_above b_M_above 7 (some .int) := wT_T
  have hown : s.vm.findClass RM = some m.cls := findClass_of_methodNamed B.named
  have hlocks := B.notSynchronized
  have hl := lv_entry ([.ref (am 0), .int (nI mm), .int v, .int (nI sp)]) (n := 7) (Nat.le_of_ble_eq_true rfl)
  rw [lg_entry_eq]
  generalize (lg_sl ([.ref (am 0), .int (nI mm), .int v, .int (nI sp)]) ++ List.replicate (7 - (lg_sl ([.ref (am 0), .int (nI mm), .int v, .int (nI sp)])).length) Slot.unset).toArray = ls at hl ⊢
  have hl : lv_has ls 7 [(0, .ref (am 0)), (1, .int (nI mm)), (2, .int v), (3, .int (nI sp))] := hl
  have hL : ∀ q ∈ ([] : List Loc), mF am q.base := fun q hq => nomatch hq
  have hO : mO am s.heap s.heap := mO.rf
  have hdb := tt_db_in hg.2.2.2 10 (Nat.le_refl _)
  have hf10 : tt_fst g 10 = 1440 * tt_db (tt_day g) 10 := rfl
  have ev : (nI mm).toInt = mm := nI_toInt (by omega)
  have en : (nI sp).toInt = sp := nI_toInt (by omega)
  refine lv_aload_n hx hb d_M_above_0 rfl (lv_at hl 0 rfl) ?_
  refine lv_iload_n hx hb d_M_above_1 rfl (lv_at hl 3 rfl) ?_
  refine lv_iconst hx hb d_M_above_2 (v := (nI 1)) rfl ?_
  refine lv_icmp_lt hx hb d_M_above_3 (tgt := 13) (by decide) (fun q1 => ?_) (fun q1 => ?_)
  · have q1 := Int32.lt_iff_toInt_lt.mp q1
    rw [nI_toInt (n := 1) (by decide)] at q1
    refine lv_iconst hx hb d_M_above_13 (v := (nI 1)) rfl ?_
    refine lv_goto hx hb d_M_above_14 (tgt := 30) (by decide) ?_
    exfalso
    omega
  · have q1 := mt Int32.lt_iff_toInt_lt.mpr q1
    rw [nI_toInt (n := 1) (by decide)] at q1
    refine lv_iload_n hx hb d_M_above_6 rfl (lv_at hl 3 rfl) ?_
    refine lv_sipush hx hb d_M_above_7 (v := (nI 1000)) rfl ?_
    refine lv_icmp_le hx hb d_M_above_10 (tgt := 17) (by decide) (fun q2 => ?_) (fun q2 => ?_)
    · have q2 := Int32.le_iff_toInt_le.mp q2
      rw [nI_toInt (n := 1000) (by decide)] at q2
      refine lv_aload_n hx hb d_M_above_17 rfl (lv_at hl 0 rfl) ?_
      refine lv_iload_n hx hb d_M_above_18 rfl (lv_at hl 1 rfl) ?_
      refine tq_V ⟨hx, hb, hml, hown, hts⟩ hT (c_M_isMinute l D ci am g th fo sz hs mi hi tx (nI mm)) lk_M_73 wM_mv ⟨hK, hg, hM⟩ (wM_rc hK hM) rfl hl.1 rfl (Nat.le_of_ble_eq_true rfl) d_M_above_19 ⟨rfl, rfl, Nat.le_of_ble_eq_true rfl, Nat.le_of_ble_eq_true rfl⟩ ⟨Nat.zero_le _, Nat.zero_le _⟩ ?_
      refine lv_if_ne hx hb d_M_above_22 (tgt := 29) (by decide) (fun q3 => ?_) (fun q3 => ?_)
      · have q3 := zb_t q3
        refine lv_iconst hx hb d_M_above_29 (v := (nI 0)) rfl ?_
        refine tq_put (F := mF am) hx hb hts (fun w h => hT w (uM_in w h)) tM tM_ok nM hown hK (tm_one hM 0 rfl) (ci := 1) rfl 0 (by decide) (hts _ (hT _ k_M_43)) (fun _ h => h) rfl (ty := .int) rfl rfl rfl (Nat.le_of_ble_eq_true rfl) ⟨0, by decide, rfl⟩ hL d_M_above_30 (fun H1 locs1 hP1 hz1 hq1 hL => ?_)
        have hM : tm D ci am g (nI 0) fo sz hs mi hi tx H1 := tm_set hD hM 0 (by decide) rfl hP1 (fun j hj => by rcases j with _ | _ | _ | _ | _ | _ | _ | _ | _ | _ | _ | j <;> first | rfl | exact absurd rfl hj) hq1
        have hO := hO.tr (mO.put (k := 0) (by decide) hz1 hq1)
        refine lv_aload_n hx hb d_M_above_33 rfl (lv_at hl 0 rfl) ?_
        refine va_get hx hb hts (fun w h => hT w (uM_in w h)) hown hK hM 0 rfl rfl 0 (by decide) (hts _ (hT _ k_M_43)) (fun _ h => h) rfl d_M_above_34 ?_
        refine lv_if_eq hx hb d_M_above_37 (tgt := 42) (by decide) (fun _ => ?_) (fun hno => absurd (by decide) hno)
        refine lv_iconst hx hb d_M_above_42 (v := (nI 0)) rfl ?_
        refine lv_istore hx hb d_M_above_43 hl (by decide) (lv' := [(4, .int (nI 0)), (0, .ref (am 0)), (1, .int (nI mm)), (2, .int v), (3, .int (nI sp))]) rfl (fun ls hl => ?_)
        refine lv_iload_n hx hb d_M_above_45 rfl (lv_at hl 2 rfl) ?_
        refine lv_istore hx hb d_M_above_46 hl (by decide) (lv' := [(5, .int (nI mm)), (4, .int (nI 0)), (0, .ref (am 0)), (1, .int (nI mm)), (2, .int v), (3, .int (nI sp))]) rfl (fun ls hl => ?_)
        refine lv_iconst hx hb d_M_above_48 (v := (-1)) rfl ?_
        refine lv_istore hx hb d_M_above_49 hl (by decide) (lv' := [(6, .int (-1)), (5, .int (nI mm)), (4, .int (nI 0)), (0, .ref (am 0)), (1, .int (nI mm)), (2, .int v), (3, .int (nI sp))]) rfl (fun ls hl => ?_)
        refine l_M_above hx hb hts hT hown hml hK hg hM ⟨Nat.le_of_ble_eq_true rfl, Nat.le_of_ble_eq_true rfl⟩ ⟨Nat.zero_le _, Nat.zero_le _⟩ hs2 hs1 hm (fun ls hl => ?_) (tt_abn g mm sp) mm 0 ls rfl (by omega) (by omega) rfl hl
        refine lv_iload hx hb d_M_above_122 (lv_at hl 0 rfl) ?_
        exact W.iret hx hb hr (fun t ht hW => ⟨_, rfl, rfl, by rw [ht]; exact hM, by rw [ht]; exact hO⟩) hL d_M_above_124
      · have q3 := zb_f q3
        refine lv_iconst hx hb d_M_above_25 (v := (nI 2)) rfl ?_
        refine lv_goto hx hb d_M_above_26 (tgt := 30) (by decide) ?_
        exfalso
        omega
    · have q2 := mt Int32.le_iff_toInt_le.mpr q2
      rw [nI_toInt (n := 1000) (by decide)] at q2
      refine lv_iconst hx hb d_M_above_13 (v := (nI 1)) rfl ?_
      refine lv_goto hx hb d_M_above_14 (tgt := 30) (by decide) ?_
      exfalso
      omega
set_option maxHeartbeats 4000000 in
set_option maxRecDepth 100000 in
theorem x_M_aboveA (l : Launch) (D : va_G) (ci : Nat → ClassId) (am : Nat → Nat) (g : TS) (th fo sz : Int32) (hs mi hi tx : Nat → Int32) (u v z : Int32) (hv0 : ¬ (1 ≤ z.toInt ∧ z.toInt ≤ 1000)) : Met l y_M_above (wT y_M_above b_M_above 7 (some .int)) (rP 3 70) (tb (wMD D ci am g th fo sz hs mi hi tx) [.ref (am 0), .int u, .int v, .int z]) (qM D ci am g (nI 1) fo sz hs mi hi tx (some (.int (nI 0)))) 0 0 (mF am) := by
  refine Met.ofW (cc := b_M_above) (maxL := 7) (ret := (some .int)) (by decide) rfl ?_
  intro p e s m args below meth c s₁ B hml hv
  obtain ⟨rfl, hK, hg, hM, hD⟩ := hv
  have hx := B.exec
  have hb := B.bytes
  have hr := B.returns
  have hts := atoms_spec (ws := wT y_M_above b_M_above 7 (some .int)) B.pre
  have hT : ∀ w ∈ TT, w ∈ wT y_M_above b_M_above 7 (some .int) := wT_T
  have hown : s.vm.findClass RM = some m.cls := findClass_of_methodNamed B.named
  have hlocks := B.notSynchronized
  have hl := lv_entry ([.ref (am 0), .int u, .int v, .int z]) (n := 7) (Nat.le_of_ble_eq_true rfl)
  rw [lg_entry_eq]
  generalize (lg_sl ([.ref (am 0), .int u, .int v, .int z]) ++ List.replicate (7 - (lg_sl ([.ref (am 0), .int u, .int v, .int z])).length) Slot.unset).toArray = ls at hl ⊢
  have hl : lv_has ls 7 [(0, .ref (am 0)), (1, .int u), (2, .int v), (3, .int z)] := hl
  have hL : ∀ q ∈ ([] : List Loc), mF am q.base := fun q hq => nomatch hq
  have hO : mO am s.heap s.heap := mO.rf
  refine lv_aload_n hx hb d_M_above_0 rfl (lv_at hl 0 rfl) ?_
  refine lv_iload_n hx hb d_M_above_1 rfl (lv_at hl 3 rfl) ?_
  refine lv_iconst hx hb d_M_above_2 (v := (nI 1)) rfl ?_
  refine lv_icmp_lt hx hb d_M_above_3 (tgt := 13) (by decide) (fun q1 => ?_) (fun q1 => ?_)
  · have q1 := Int32.lt_iff_toInt_lt.mp q1
    rw [nI_toInt (n := 1) (by decide)] at q1
    refine lv_iconst hx hb d_M_above_13 (v := (nI 1)) rfl ?_
    refine lv_goto hx hb d_M_above_14 (tgt := 30) (by decide) ?_
    refine tq_put (F := mF am) hx hb hts (fun w h => hT w (uM_in w h)) tM tM_ok nM hown hK (tm_one hM 0 rfl) (ci := 1) rfl 0 (by decide) (hts _ (hT _ k_M_43)) (fun _ h => h) rfl (ty := .int) rfl rfl rfl (Nat.le_of_ble_eq_true rfl) ⟨0, by decide, rfl⟩ hL d_M_above_30 (fun H1 locs1 hP1 hz1 hq1 hL => ?_)
    have hM : tm D ci am g (nI 1) fo sz hs mi hi tx H1 := tm_set hD hM 0 (by decide) rfl hP1 (fun j hj => by rcases j with _ | _ | _ | _ | _ | _ | _ | _ | _ | _ | _ | j <;> first | rfl | exact absurd rfl hj) hq1
    have hO := hO.tr (mO.put (k := 0) (by decide) hz1 hq1)
    refine lv_aload_n hx hb d_M_above_33 rfl (lv_at hl 0 rfl) ?_
    refine va_get hx hb hts (fun w h => hT w (uM_in w h)) hown hK hM 0 rfl rfl 0 (by decide) (hts _ (hT _ k_M_43)) (fun _ h => h) rfl d_M_above_34 ?_
    refine lv_if_eq hx hb d_M_above_37 (tgt := 42) (by decide) (fun hyes => absurd hyes (by decide)) (fun _ => ?_)
    refine lv_iconst hx hb d_M_above_40 (v := (nI 0)) rfl ?_
    exact W.iret hx hb hr (fun t ht hW => ⟨_, rfl, rfl, by rw [ht]; exact hM, by rw [ht]; exact hO⟩) hL d_M_above_41
  · have q1 := mt Int32.lt_iff_toInt_lt.mpr q1
    rw [nI_toInt (n := 1) (by decide)] at q1
    refine lv_iload_n hx hb d_M_above_6 rfl (lv_at hl 3 rfl) ?_
    refine lv_sipush hx hb d_M_above_7 (v := (nI 1000)) rfl ?_
    refine lv_icmp_le hx hb d_M_above_10 (tgt := 17) (by decide) (fun q2 => ?_) (fun q2 => ?_)
    · have q2 := Int32.le_iff_toInt_le.mp q2
      rw [nI_toInt (n := 1000) (by decide)] at q2
      refine lv_aload_n hx hb d_M_above_17 rfl (lv_at hl 0 rfl) ?_
      refine lv_iload_n hx hb d_M_above_18 rfl (lv_at hl 1 rfl) ?_
      refine tq_V ⟨hx, hb, hml, hown, hts⟩ hT (c_M_isMinute l D ci am g th fo sz hs mi hi tx u) lk_M_73 wM_mv ⟨hK, hg, hM⟩ (wM_rc hK hM) rfl hl.1 rfl (Nat.le_of_ble_eq_true rfl) d_M_above_19 ⟨rfl, rfl, Nat.le_of_ble_eq_true rfl, Nat.le_of_ble_eq_true rfl⟩ ⟨Nat.zero_le _, Nat.zero_le _⟩ ?_
      refine lv_if_ne hx hb d_M_above_22 (tgt := 29) (by decide) (fun q3 => ?_) (fun q3 => ?_)
      · have q3 := zb_t q3
        refine lv_iconst hx hb d_M_above_29 (v := (nI 0)) rfl ?_
        exfalso
        omega
      · have q3 := zb_f q3
        refine lv_iconst hx hb d_M_above_25 (v := (nI 2)) rfl ?_
        refine lv_goto hx hb d_M_above_26 (tgt := 30) (by decide) ?_
        exfalso
        omega
    · have q2 := mt Int32.le_iff_toInt_le.mpr q2
      rw [nI_toInt (n := 1000) (by decide)] at q2
      refine lv_iconst hx hb d_M_above_13 (v := (nI 1)) rfl ?_
      refine lv_goto hx hb d_M_above_14 (tgt := 30) (by decide) ?_
      refine tq_put (F := mF am) hx hb hts (fun w h => hT w (uM_in w h)) tM tM_ok nM hown hK (tm_one hM 0 rfl) (ci := 1) rfl 0 (by decide) (hts _ (hT _ k_M_43)) (fun _ h => h) rfl (ty := .int) rfl rfl rfl (Nat.le_of_ble_eq_true rfl) ⟨0, by decide, rfl⟩ hL d_M_above_30 (fun H1 locs1 hP1 hz1 hq1 hL => ?_)
      have hM : tm D ci am g (nI 1) fo sz hs mi hi tx H1 := tm_set hD hM 0 (by decide) rfl hP1 (fun j hj => by rcases j with _ | _ | _ | _ | _ | _ | _ | _ | _ | _ | _ | j <;> first | rfl | exact absurd rfl hj) hq1
      have hO := hO.tr (mO.put (k := 0) (by decide) hz1 hq1)
      refine lv_aload_n hx hb d_M_above_33 rfl (lv_at hl 0 rfl) ?_
      refine va_get hx hb hts (fun w h => hT w (uM_in w h)) hown hK hM 0 rfl rfl 0 (by decide) (hts _ (hT _ k_M_43)) (fun _ h => h) rfl d_M_above_34 ?_
      refine lv_if_eq hx hb d_M_above_37 (tgt := 42) (by decide) (fun hyes => absurd hyes (by decide)) (fun _ => ?_)
      refine lv_iconst hx hb d_M_above_40 (v := (nI 0)) rfl ?_
      exact W.iret hx hb hr (fun t ht hW => ⟨_, rfl, rfl, by rw [ht]; exact hM, by rw [ht]; exact hO⟩) hL d_M_above_41
set_option maxHeartbeats 4000000 in
set_option maxRecDepth 100000 in
theorem x_M_aboveI (l : Launch) (D : va_G) (ci : Nat → ClassId) (am : Nat → Nat) (g : TS) (th fo sz : Int32) (hs mi hi tx : Nat → Int32) (u v z : Int32) (hv1 : 1 ≤ z.toInt ∧ z.toInt ≤ 1000) (hv0 : ¬ (0 ≤ u.toInt ∧ u.toInt < (tt_fst g 10 : Nat))) : Met l y_M_above (wT y_M_above b_M_above 7 (some .int)) (rP 3 70) (tb (wMD D ci am g th fo sz hs mi hi tx) [.ref (am 0), .int u, .int v, .int z]) (qM D ci am g (nI 2) fo sz hs mi hi tx (some (.int (nI 0)))) 0 0 (mF am) := by
  refine Met.ofW (cc := b_M_above) (maxL := 7) (ret := (some .int)) (by decide) rfl ?_
  intro p e s m args below meth c s₁ B hml hv
  obtain ⟨rfl, hK, hg, hM, hD⟩ := hv
  have hx := B.exec
  have hb := B.bytes
  have hr := B.returns
  have hts := atoms_spec (ws := wT y_M_above b_M_above 7 (some .int)) B.pre
  have hT : ∀ w ∈ TT, w ∈ wT y_M_above b_M_above 7 (some .int) := wT_T
  have hown : s.vm.findClass RM = some m.cls := findClass_of_methodNamed B.named
  have hlocks := B.notSynchronized
  have hl := lv_entry ([.ref (am 0), .int u, .int v, .int z]) (n := 7) (Nat.le_of_ble_eq_true rfl)
  rw [lg_entry_eq]
  generalize (lg_sl ([.ref (am 0), .int u, .int v, .int z]) ++ List.replicate (7 - (lg_sl ([.ref (am 0), .int u, .int v, .int z])).length) Slot.unset).toArray = ls at hl ⊢
  have hl : lv_has ls 7 [(0, .ref (am 0)), (1, .int u), (2, .int v), (3, .int z)] := hl
  have hL : ∀ q ∈ ([] : List Loc), mF am q.base := fun q hq => nomatch hq
  have hO : mO am s.heap s.heap := mO.rf
  refine lv_aload_n hx hb d_M_above_0 rfl (lv_at hl 0 rfl) ?_
  refine lv_iload_n hx hb d_M_above_1 rfl (lv_at hl 3 rfl) ?_
  refine lv_iconst hx hb d_M_above_2 (v := (nI 1)) rfl ?_
  refine lv_icmp_lt hx hb d_M_above_3 (tgt := 13) (by decide) (fun q1 => ?_) (fun q1 => ?_)
  · have q1 := Int32.lt_iff_toInt_lt.mp q1
    rw [nI_toInt (n := 1) (by decide)] at q1
    refine lv_iconst hx hb d_M_above_13 (v := (nI 1)) rfl ?_
    refine lv_goto hx hb d_M_above_14 (tgt := 30) (by decide) ?_
    exfalso
    omega
  · have q1 := mt Int32.lt_iff_toInt_lt.mpr q1
    rw [nI_toInt (n := 1) (by decide)] at q1
    refine lv_iload_n hx hb d_M_above_6 rfl (lv_at hl 3 rfl) ?_
    refine lv_sipush hx hb d_M_above_7 (v := (nI 1000)) rfl ?_
    refine lv_icmp_le hx hb d_M_above_10 (tgt := 17) (by decide) (fun q2 => ?_) (fun q2 => ?_)
    · have q2 := Int32.le_iff_toInt_le.mp q2
      rw [nI_toInt (n := 1000) (by decide)] at q2
      refine lv_aload_n hx hb d_M_above_17 rfl (lv_at hl 0 rfl) ?_
      refine lv_iload_n hx hb d_M_above_18 rfl (lv_at hl 1 rfl) ?_
      refine tq_V ⟨hx, hb, hml, hown, hts⟩ hT (c_M_isMinute l D ci am g th fo sz hs mi hi tx u) lk_M_73 wM_mv ⟨hK, hg, hM⟩ (wM_rc hK hM) rfl hl.1 rfl (Nat.le_of_ble_eq_true rfl) d_M_above_19 ⟨rfl, rfl, Nat.le_of_ble_eq_true rfl, Nat.le_of_ble_eq_true rfl⟩ ⟨Nat.zero_le _, Nat.zero_le _⟩ ?_
      refine lv_if_ne hx hb d_M_above_22 (tgt := 29) (by decide) (fun q3 => ?_) (fun q3 => ?_)
      · have q3 := zb_t q3
        refine lv_iconst hx hb d_M_above_29 (v := (nI 0)) rfl ?_
        exfalso
        omega
      · have q3 := zb_f q3
        refine lv_iconst hx hb d_M_above_25 (v := (nI 2)) rfl ?_
        refine lv_goto hx hb d_M_above_26 (tgt := 30) (by decide) ?_
        refine tq_put (F := mF am) hx hb hts (fun w h => hT w (uM_in w h)) tM tM_ok nM hown hK (tm_one hM 0 rfl) (ci := 1) rfl 0 (by decide) (hts _ (hT _ k_M_43)) (fun _ h => h) rfl (ty := .int) rfl rfl rfl (Nat.le_of_ble_eq_true rfl) ⟨0, by decide, rfl⟩ hL d_M_above_30 (fun H1 locs1 hP1 hz1 hq1 hL => ?_)
        have hM : tm D ci am g (nI 2) fo sz hs mi hi tx H1 := tm_set hD hM 0 (by decide) rfl hP1 (fun j hj => by rcases j with _ | _ | _ | _ | _ | _ | _ | _ | _ | _ | _ | j <;> first | rfl | exact absurd rfl hj) hq1
        have hO := hO.tr (mO.put (k := 0) (by decide) hz1 hq1)
        refine lv_aload_n hx hb d_M_above_33 rfl (lv_at hl 0 rfl) ?_
        refine va_get hx hb hts (fun w h => hT w (uM_in w h)) hown hK hM 0 rfl rfl 0 (by decide) (hts _ (hT _ k_M_43)) (fun _ h => h) rfl d_M_above_34 ?_
        refine lv_if_eq hx hb d_M_above_37 (tgt := 42) (by decide) (fun hyes => absurd hyes (by decide)) (fun _ => ?_)
        refine lv_iconst hx hb d_M_above_40 (v := (nI 0)) rfl ?_
        exact W.iret hx hb hr (fun t ht hW => ⟨_, rfl, rfl, by rw [ht]; exact hM, by rw [ht]; exact hO⟩) hL d_M_above_41
    · have q2 := mt Int32.le_iff_toInt_le.mpr q2
      rw [nI_toInt (n := 1000) (by decide)] at q2
      refine lv_iconst hx hb d_M_above_13 (v := (nI 1)) rfl ?_
      refine lv_goto hx hb d_M_above_14 (tgt := 30) (by decide) ?_
      exfalso
      omega
