/-! the search for a day's extremes. Written by wip/whole/gen.py -/
def tt_dh (g : TS) (d : Nat) : Nat → Int := fun k => tt_hgt g (1440 * d + k)
/-- the extremes L of day d are kept in tc, tn -/
def tt_C (d : Nat) (L : List Nat) (tc : Int32) (tn : Nat → Int32) : Prop := tc = nI L.length ∧ ∀ i, i < L.length → tn i = nI (1440 * d + L.getD i 0)
theorem tt_C_add {d : Nat} {L : List Nat} {tc : Int32} {tn : Nat → Int32} {r : Nat} (h : tt_C d L tc tn) : tt_C d (L ++ [r]) (nI (L.length + 1)) (upd tn L.length (nI (1440 * d + r))) := by
  refine ⟨by rw [List.length_append]; rfl, fun i hi => ?_⟩
  rw [List.length_append, List.length_singleton] at hi
  unfold upd
  by_cases e : i = L.length
  · rw [if_pos e, e]
    simp
  · rw [if_neg e, h.2 i (by omega)]
    simp [List.getElem?_append, show i < L.length by omega]
theorem tt_row_len {h : Nat → Int} {k r : Nat} {c : Int} (q : tt_row h k r c) : (tt_L h r).length ≤ 1439 := by
  have := tt_L_len h r
  have h1 := q.1
  have h2 := q.2.1
  omega
section G23
variable {p : Program} {l : Launch} {e : Env} {R : Room} {s : State} {m : MethodId} {args : Array Value} {below : List Frame} {meth : Method} {c : Code} {cells slots : Nat} {Q : State → Prop} {Ts : List Cond}
variable {D : va_G} {ci : Nat → ClassId} {ad : Nat → Nat} {g : TS} {td : Int32}
set_option maxHeartbeats 4000000 in
set_option maxRecDepth 100000 in
theorem l_X_findTurns (hx : p.tables.exec = Jvm.exec) (hb : c.code = b_X_findTurns) (hts : ∀ w ∈ Ts, w.before args s = true) (hT : ∀ w ∈ TT, w ∈ Ts) (hown : s.vm.findClass RX = some m.cls) (hml : c.maxLocals = 8) (hK : tk D ci s) (hg : tt_ok g) (hD : tx_D ad) (hR : 2 + 1 ≤ R.frames ∧ 8 + (6 + 11) + 59 ≤ R.locals) (hf : cells ≤ R.cells ∧ slots ≤ R.slots) {H0 : Heap} {dd : Nat} (hd : dd < 5000)
    (kk : ∀ (tc : Int32) (tn : Nat → Int32) (H : Heap) (locs : List Loc) (ls : Array Slot), tx D ci ad g tc td tn H → tt_C dd (tt_L (tt_dh g dd) 1440) tc tn → txO ad H0 H → (∀ q ∈ locs, txF ad q.base) → W p l e R s m args below meth c H locs cells slots Q (F0 m 114 ls [])) :
    ∀ (n k r : Nat) (cb : Int) (tc : Int32) (tn : Nat → Int32) (H : Heap) (locs : List Loc) (ls : Array Slot), k + n = 1440 → tt_row (tt_dh g dd) k r cb → tx D ci ad g tc td tn H → tt_C dd (tt_L (tt_dh g dd) r) tc tn → txO ad H0 H → (∀ q ∈ locs, txF ad q.base) → lv_has ls 8 [(5, .int (nI (1440 * dd + k))), (4, .int (iZ cb)), (3, .int (iZ (tt_dh g dd r))), (2, .int (nI (1440 * dd + r))), (0, .ref (ad 0)), (1, .int (nI (1440 * dd)))] → W p l e R s m args below meth c H locs cells slots Q (F0 m 21 ls []) := by
  intro n
  induction n with
  | zero =>
    intro k r cb tc tn H locs ls hk hrow hX hC hO hL hl
    obtain rfl : k = 1440 := by omega
    refine lv_iload hx hb d_X_findTurns_21 (lv_at hl 0 rfl) ?_
    refine lv_iload_n hx hb d_X_findTurns_23 rfl (lv_at hl 5 rfl) ?_
    refine lv_sipush hx hb d_X_findTurns_24 (v := (nI 1440)) rfl ?_
    refine lv_iadd hx hb d_X_findTurns_27 ?_
    refine tq_ti (show _ = (nI (1440 * dd + 1440)) from nI_add _ _) ?_
    refine lv_icmp_ge hx hb d_X_findTurns_28 (tgt := 114) (by decide) (fun _ => ?_) (fun hno => absurd (nI_le (Nat.le_refl _) (by omega)) hno)
    exact kk tc tn H locs ls hX (by rw [tt_row_end hrow]; exact hC) hO hL
  | succ n ih =>
    intro k r cb tc tn H locs ls hk hrow hX hC hO hL hl
    have h1 : -2000000 ≤ tt_dh g dd k ∧ tt_dh g dd k ≤ 2000000 := tt_hgt_in hg _
    have h2 : -2000000 ≤ tt_dh g dd r ∧ tt_dh g dd r ≤ 2000000 := tt_hgt_in hg _
    have hlen := tt_row_len hrow
    have hk4 : k < 1440 := by omega
    have hrk := hrow.1
    have hcb : -1 ≤ cb ∧ cb ≤ 1 := by rcases hrow.2.2.2 with h | h | h <;> omega
    refine lv_iload hx hb d_X_findTurns_21 (lv_at hl 0 rfl) ?_
    refine lv_iload_n hx hb d_X_findTurns_23 rfl (lv_at hl 5 rfl) ?_
    refine lv_sipush hx hb d_X_findTurns_24 (v := (nI 1440)) rfl ?_
    refine lv_iadd hx hb d_X_findTurns_27 ?_
    refine tq_ti (show _ = (nI (1440 * dd + 1440)) from nI_add _ _) ?_
    refine lv_icmp_ge hx hb d_X_findTurns_28 (tgt := 114) (by decide) (fun hyes => absurd hyes (nI_ge (show 1440 * dd + k < 1440 * dd + 1440 by omega) (by omega))) (fun _ => ?_)
    refine lv_aload_n hx hb d_X_findTurns_31 rfl (lv_at hl 4 rfl) ?_
    refine lv_iload hx hb d_X_findTurns_32 (lv_at hl 0 rfl) ?_
    refine tq_V ⟨hx, hb, hml, hown, hts⟩ hT (c_X_heightAt l D ci ad g tc td tn (mm := 1440 * dd + k) (by omega)) lk_X_119 wX_mv ⟨hK, hg, hX⟩ (wX_rc ⟨hK, hg, hX⟩) rfl hl.1 rfl (Nat.le_of_ble_eq_true rfl) d_X_findTurns_34 ⟨rfl, rfl, hR⟩ hf ?_
    refine lv_istore hx hb d_X_findTurns_37 hl (by decide) (lv' := [(6, .int (iZ (tt_dh g dd k))), (5, .int (nI (1440 * dd + k))), (4, .int (iZ cb)), (3, .int (iZ (tt_dh g dd r))), (2, .int (nI (1440 * dd + r))), (0, .ref (ad 0)), (1, .int (nI (1440 * dd)))]) rfl (fun ls hl => ?_)
    refine lv_iload hx hb d_X_findTurns_39 (lv_at hl 0 rfl) ?_
    refine lv_iload_n hx hb d_X_findTurns_41 rfl (lv_at hl 3 rfl) ?_
    refine lv_icmp_eq hx hb d_X_findTurns_42 (tgt := 108) (by decide) (fun h3 => ?_) (fun h3 => ?_)
    · have h3 := (iZ_eq (by omega) (by omega) (by omega) (by omega)).mp h3
      refine lv_iinc hx hb d_X_findTurns_108 hl (k := 1) rfl (v := (nI (1440 * dd + (k + 1)))) (by rw [show Int32.ofInt 1 = 1 from rfl]; exact nI_1 _) (by decide) (lv' := [(5, .int (nI (1440 * dd + (k + 1)))), (6, .int (iZ (tt_dh g dd k))), (4, .int (iZ cb)), (3, .int (iZ (tt_dh g dd r))), (2, .int (nI (1440 * dd + r))), (0, .ref (ad 0)), (1, .int (nI (1440 * dd)))]) rfl (fun ls hl => ?_)
      refine lv_goto hx hb d_X_findTurns_111 (tgt := 21) (by decide) ?_
      have hl := lv_sub hl (l' := [(5, .int (nI (1440 * dd + (k + 1)))), (4, .int (iZ cb)), (3, .int (iZ (tt_dh g dd r))), (2, .int (nI (1440 * dd + r))), (0, .ref (ad 0)), (1, .int (nI (1440 * dd)))]) [0, 2, 3, 4, 5, 6] rfl
      exact ih (k + 1) r cb tc tn H locs ls (by omega) (tt_row_on hrow hk4 h3) hX hC hO hL hl
    · have h3 := mt (iZ_eq (by omega) (by omega) (by omega) (by omega)).mpr h3
      refine lv_iload hx hb d_X_findTurns_45 (lv_at hl 0 rfl) ?_
      refine lv_iload_n hx hb d_X_findTurns_47 rfl (lv_at hl 3 rfl) ?_
      refine lv_icmp_le hx hb d_X_findTurns_48 (tgt := 55) (by decide) (fun h4 => ?_) (fun h4 => ?_)
      · have h4 := (iZ_le (by omega) (by omega) (by omega) (by omega)).mp h4
        refine lv_iconst hx hb d_X_findTurns_55 (v := (-1)) rfl ?_
        refine lv_istore hx hb d_X_findTurns_56 hl (by decide) (lv' := [(7, .int (-1)), (6, .int (iZ (tt_dh g dd k))), (5, .int (nI (1440 * dd + k))), (4, .int (iZ cb)), (3, .int (iZ (tt_dh g dd r))), (2, .int (nI (1440 * dd + r))), (0, .ref (ad 0)), (1, .int (nI (1440 * dd)))]) rfl (fun ls hl => ?_)
        refine lv_iload hx hb d_X_findTurns_58 (lv_at hl 3 rfl) ?_
        refine lv_iload hx hb d_X_findTurns_60 (lv_at hl 0 rfl) ?_
        refine lv_ineg hx hb d_X_findTurns_62 ?_
        refine tq_ti (show _ = (iZ 1) from rfl) ?_
        refine lv_icmp_ne hx hb d_X_findTurns_63 (tgt := 98) (by decide) (fun h5 => ?_) (fun h5 => ?_)
        · have h5 := mt (iZ_eq (by omega) (by omega) (by omega) (by omega)).mpr h5
          have hT9 : tt_T (tt_dh g dd) r = false := by
            have := mt (tt_row_T hrow hk4 h3).mp (by omega)
            simpa using this
          have hC : tt_C dd (tt_L (tt_dh g dd) k) tc tn := by rw [tt_row_L hrow, hT9]; exact hC
          refine lv_iload hx hb d_X_findTurns_98 (lv_at hl 0 rfl) ?_
          refine lv_istore hx hb d_X_findTurns_100 hl (by decide) (lv' := [(4, .int (-1)), (7, .int (-1)), (6, .int (iZ (tt_dh g dd k))), (5, .int (nI (1440 * dd + k))), (3, .int (iZ (tt_dh g dd r))), (2, .int (nI (1440 * dd + r))), (0, .ref (ad 0)), (1, .int (nI (1440 * dd)))]) rfl (fun ls hl => ?_)
          refine lv_iload hx hb d_X_findTurns_102 (lv_at hl 3 rfl) ?_
          refine lv_istore_n hx hb d_X_findTurns_104 rfl hl (by decide) (lv' := [(2, .int (nI (1440 * dd + k))), (4, .int (-1)), (7, .int (-1)), (6, .int (iZ (tt_dh g dd k))), (5, .int (nI (1440 * dd + k))), (3, .int (iZ (tt_dh g dd r))), (0, .ref (ad 0)), (1, .int (nI (1440 * dd)))]) rfl (fun ls hl => ?_)
          refine lv_iload hx hb d_X_findTurns_105 (lv_at hl 3 rfl) ?_
          refine lv_istore_n hx hb d_X_findTurns_107 rfl hl (by decide) (lv' := [(3, .int (iZ (tt_dh g dd k))), (2, .int (nI (1440 * dd + k))), (4, .int (-1)), (7, .int (-1)), (6, .int (iZ (tt_dh g dd k))), (5, .int (nI (1440 * dd + k))), (0, .ref (ad 0)), (1, .int (nI (1440 * dd)))]) rfl (fun ls hl => ?_)
          refine lv_iinc hx hb d_X_findTurns_108 hl (k := 5) rfl (v := (nI (1440 * dd + (k + 1)))) (by rw [show Int32.ofInt 1 = 1 from rfl]; exact nI_1 _) (by decide) (lv' := [(5, .int (nI (1440 * dd + (k + 1)))), (3, .int (iZ (tt_dh g dd k))), (2, .int (nI (1440 * dd + k))), (4, .int (-1)), (7, .int (-1)), (6, .int (iZ (tt_dh g dd k))), (0, .ref (ad 0)), (1, .int (nI (1440 * dd)))]) rfl (fun ls hl => ?_)
          refine lv_goto hx hb d_X_findTurns_111 (tgt := 21) (by decide) ?_
          have hl := lv_sub hl (l' := [(5, .int (nI (1440 * dd + (k + 1)))), (4, .int (-1)), (3, .int (iZ (tt_dh g dd k))), (2, .int (nI (1440 * dd + k))), (0, .ref (ad 0)), (1, .int (nI (1440 * dd)))]) [0, 3, 1, 2, 6, 7] rfl
          exact ih (k + 1) k (-1) tc tn H locs ls (by omega) (tt_row_down hrow hk4 (by omega)) hX hC hO hL hl
        · have h5 := (iZ_eq (by omega) (by omega) (by omega) (by omega)).mp h5
          have hT9 : tt_T (tt_dh g dd) r = true := (tt_row_T hrow hk4 h3).mpr (by omega)
          refine lv_aload_n hx hb d_X_findTurns_66 rfl (lv_at hl 6 rfl) ?_
          refine va_get hx hb hts (fun w h => hT w (uX_in w h)) hown hK hX.1 0 rfl rfl 8 (by decide) (hts _ (hT _ k_X_196)) (fun _ h => h) rfl d_X_findTurns_67 ?_
          refine lv_aload_n hx hb d_X_findTurns_70 rfl (lv_at hl 6 rfl) ?_
          refine va_get hx hb hts (fun w h => hT w (uX_in w h)) hown hK hX.1 0 rfl rfl 7 (by decide) (hts _ (hT _ k_X_33)) (fun _ h => h) rfl d_X_findTurns_71 ?_
          refine va_alen hx hb hK hX.1 7 0 rfl rfl (v := nI 1440) rfl d_X_findTurns_74 ?_
          have ht := hC.1
          refine lv_icmp_ge hx hb d_X_findTurns_75 (tgt := 98) (by decide) (fun hyes => absurd hyes (by rw [ht]; exact nI_ge (show (tt_L (tt_dh g dd) r).length < 1440 by omega) (by decide))) (fun _ => ?_)
          refine lv_aload_n hx hb d_X_findTurns_78 rfl (lv_at hl 6 rfl) ?_
          refine va_get hx hb hts (fun w h => hT w (uX_in w h)) hown hK hX.1 0 rfl rfl 7 (by decide) (hts _ (hT _ k_X_33)) (fun _ h => h) rfl d_X_findTurns_79 ?_
          refine lv_aload_n hx hb d_X_findTurns_82 rfl (lv_at hl 6 rfl) ?_
          refine va_get hx hb hts (fun w h => hT w (uX_in w h)) hown hK hX.1 0 rfl rfl 8 (by decide) (hts _ (hT _ k_X_196)) (fun _ h => h) rfl d_X_findTurns_83 ?_
          refine lv_iload_n hx hb d_X_findTurns_86 rfl (lv_at hl 5 rfl) ?_
          subst ht
          refine tq_iast (F := txF ad) hx hb hK 0 (tx_one hX 7 rfl) rfl (show (tt_L (tt_dh g dd) r).length < 1440 by omega) (by decide) ⟨7, by decide, rfl⟩ hL d_X_findTurns_87 (fun H1 locs1 hP1 hz1 hq1 hL => ?_)
          have hX := tx_set hD hX 7 (by decide) (g' := g) (tc' := nI (tt_L (tt_dh g dd) r).length) (td' := td) (tn' := upd tn (tt_L (tt_dh g dd) r).length (nI (1440 * dd + r))) rfl rfl rfl hP1 (fun j hj => by rcases j with _ | _ | _ | _ | _ | _ | _ | _ | j <;> first | rfl | exact absurd rfl hj) hq1
          have hO := hO.tr (txO.put (k := 7) (by decide) hz1 hq1)
          refine lv_aload_n hx hb d_X_findTurns_88 rfl (lv_at hl 6 rfl) ?_
          refine lv_dup hx hb d_X_findTurns_89 rfl ?_
          refine va_get hx hb hts (fun w h => hT w (uX_in w h)) hown hK hX.1 0 rfl rfl 8 (by decide) (hts _ (hT _ k_X_196)) (fun _ h => h) rfl d_X_findTurns_90 ?_
          refine lv_iconst hx hb d_X_findTurns_93 (v := (nI 1)) rfl ?_
          refine lv_iadd hx hb d_X_findTurns_94 ?_
          refine tq_ti (show _ = (nI ((tt_L (tt_dh g dd) r).length + 1)) from nI_add _ 1) ?_
          refine tq_put (F := txF ad) hx hb hts (fun w h => hT w (uX_in w h)) tX tX_ok nX hown hK (tx_one hX 0 rfl) (ci := 0) rfl 8 (by decide) (hts _ (hT _ k_X_196)) (fun _ h => h) rfl (ty := .int) rfl rfl rfl (Nat.le_of_ble_eq_true rfl) ⟨0, by decide, rfl⟩ hL d_X_findTurns_95 (fun H1 locs1 hP1 hz1 hq1 hL => ?_)
          have hX : tx D ci ad g (nI ((tt_L (tt_dh g dd) r).length + 1)) td (upd tn (tt_L (tt_dh g dd) r).length (nI (1440 * dd + r))) H1 := tx_set hD hX 0 (by decide) rfl rfl rfl hP1 (fun j hj => by rcases j with _ | _ | _ | _ | _ | _ | _ | _ | j <;> first | rfl | exact absurd rfl hj) hq1
          have hO := hO.tr (txO.put (k := 0) (by decide) hz1 hq1)
          have hC : tt_C dd (tt_L (tt_dh g dd) k) (nI ((tt_L (tt_dh g dd) r).length + 1)) (upd tn (tt_L (tt_dh g dd) r).length (nI (1440 * dd + r))) := by rw [tt_row_L hrow, hT9]; exact tt_C_add hC
          refine lv_iload hx hb d_X_findTurns_98 (lv_at hl 0 rfl) ?_
          refine lv_istore hx hb d_X_findTurns_100 hl (by decide) (lv' := [(4, .int (-1)), (7, .int (-1)), (6, .int (iZ (tt_dh g dd k))), (5, .int (nI (1440 * dd + k))), (3, .int (iZ (tt_dh g dd r))), (2, .int (nI (1440 * dd + r))), (0, .ref (ad 0)), (1, .int (nI (1440 * dd)))]) rfl (fun ls hl => ?_)
          refine lv_iload hx hb d_X_findTurns_102 (lv_at hl 3 rfl) ?_
          refine lv_istore_n hx hb d_X_findTurns_104 rfl hl (by decide) (lv' := [(2, .int (nI (1440 * dd + k))), (4, .int (-1)), (7, .int (-1)), (6, .int (iZ (tt_dh g dd k))), (5, .int (nI (1440 * dd + k))), (3, .int (iZ (tt_dh g dd r))), (0, .ref (ad 0)), (1, .int (nI (1440 * dd)))]) rfl (fun ls hl => ?_)
          refine lv_iload hx hb d_X_findTurns_105 (lv_at hl 3 rfl) ?_
          refine lv_istore_n hx hb d_X_findTurns_107 rfl hl (by decide) (lv' := [(3, .int (iZ (tt_dh g dd k))), (2, .int (nI (1440 * dd + k))), (4, .int (-1)), (7, .int (-1)), (6, .int (iZ (tt_dh g dd k))), (5, .int (nI (1440 * dd + k))), (0, .ref (ad 0)), (1, .int (nI (1440 * dd)))]) rfl (fun ls hl => ?_)
          refine lv_iinc hx hb d_X_findTurns_108 hl (k := 5) rfl (v := (nI (1440 * dd + (k + 1)))) (by rw [show Int32.ofInt 1 = 1 from rfl]; exact nI_1 _) (by decide) (lv' := [(5, .int (nI (1440 * dd + (k + 1)))), (3, .int (iZ (tt_dh g dd k))), (2, .int (nI (1440 * dd + k))), (4, .int (-1)), (7, .int (-1)), (6, .int (iZ (tt_dh g dd k))), (0, .ref (ad 0)), (1, .int (nI (1440 * dd)))]) rfl (fun ls hl => ?_)
          refine lv_goto hx hb d_X_findTurns_111 (tgt := 21) (by decide) ?_
          have hl := lv_sub hl (l' := [(5, .int (nI (1440 * dd + (k + 1)))), (4, .int (-1)), (3, .int (iZ (tt_dh g dd k))), (2, .int (nI (1440 * dd + k))), (0, .ref (ad 0)), (1, .int (nI (1440 * dd)))]) [0, 3, 1, 2, 6, 7] rfl
          exact ih (k + 1) k (-1) _ _ H1 locs1 ls (by omega) (tt_row_down hrow hk4 (by omega)) hX hC hO hL hl
      · have h4 := mt (iZ_le (by omega) (by omega) (by omega) (by omega)).mpr h4
        refine lv_iconst hx hb d_X_findTurns_51 (v := (nI 1)) rfl ?_
        refine lv_goto hx hb d_X_findTurns_52 (tgt := 56) (by decide) ?_
        refine lv_istore hx hb d_X_findTurns_56 hl (by decide) (lv' := [(7, .int (nI 1)), (6, .int (iZ (tt_dh g dd k))), (5, .int (nI (1440 * dd + k))), (4, .int (iZ cb)), (3, .int (iZ (tt_dh g dd r))), (2, .int (nI (1440 * dd + r))), (0, .ref (ad 0)), (1, .int (nI (1440 * dd)))]) rfl (fun ls hl => ?_)
        refine lv_iload hx hb d_X_findTurns_58 (lv_at hl 3 rfl) ?_
        refine lv_iload hx hb d_X_findTurns_60 (lv_at hl 0 rfl) ?_
        refine lv_ineg hx hb d_X_findTurns_62 ?_
        refine tq_ti (show _ = (iZ (-1)) from rfl) ?_
        refine lv_icmp_ne hx hb d_X_findTurns_63 (tgt := 98) (by decide) (fun h5 => ?_) (fun h5 => ?_)
        · have h5 := mt (iZ_eq (by omega) (by omega) (by omega) (by omega)).mpr h5
          have hT9 : tt_T (tt_dh g dd) r = false := by
            have := mt (tt_row_T hrow hk4 h3).mp (by omega)
            simpa using this
          have hC : tt_C dd (tt_L (tt_dh g dd) k) tc tn := by rw [tt_row_L hrow, hT9]; exact hC
          refine lv_iload hx hb d_X_findTurns_98 (lv_at hl 0 rfl) ?_
          refine lv_istore hx hb d_X_findTurns_100 hl (by decide) (lv' := [(4, .int (nI 1)), (7, .int (nI 1)), (6, .int (iZ (tt_dh g dd k))), (5, .int (nI (1440 * dd + k))), (3, .int (iZ (tt_dh g dd r))), (2, .int (nI (1440 * dd + r))), (0, .ref (ad 0)), (1, .int (nI (1440 * dd)))]) rfl (fun ls hl => ?_)
          refine lv_iload hx hb d_X_findTurns_102 (lv_at hl 3 rfl) ?_
          refine lv_istore_n hx hb d_X_findTurns_104 rfl hl (by decide) (lv' := [(2, .int (nI (1440 * dd + k))), (4, .int (nI 1)), (7, .int (nI 1)), (6, .int (iZ (tt_dh g dd k))), (5, .int (nI (1440 * dd + k))), (3, .int (iZ (tt_dh g dd r))), (0, .ref (ad 0)), (1, .int (nI (1440 * dd)))]) rfl (fun ls hl => ?_)
          refine lv_iload hx hb d_X_findTurns_105 (lv_at hl 3 rfl) ?_
          refine lv_istore_n hx hb d_X_findTurns_107 rfl hl (by decide) (lv' := [(3, .int (iZ (tt_dh g dd k))), (2, .int (nI (1440 * dd + k))), (4, .int (nI 1)), (7, .int (nI 1)), (6, .int (iZ (tt_dh g dd k))), (5, .int (nI (1440 * dd + k))), (0, .ref (ad 0)), (1, .int (nI (1440 * dd)))]) rfl (fun ls hl => ?_)
          refine lv_iinc hx hb d_X_findTurns_108 hl (k := 5) rfl (v := (nI (1440 * dd + (k + 1)))) (by rw [show Int32.ofInt 1 = 1 from rfl]; exact nI_1 _) (by decide) (lv' := [(5, .int (nI (1440 * dd + (k + 1)))), (3, .int (iZ (tt_dh g dd k))), (2, .int (nI (1440 * dd + k))), (4, .int (nI 1)), (7, .int (nI 1)), (6, .int (iZ (tt_dh g dd k))), (0, .ref (ad 0)), (1, .int (nI (1440 * dd)))]) rfl (fun ls hl => ?_)
          refine lv_goto hx hb d_X_findTurns_111 (tgt := 21) (by decide) ?_
          have hl := lv_sub hl (l' := [(5, .int (nI (1440 * dd + (k + 1)))), (4, .int (nI 1)), (3, .int (iZ (tt_dh g dd k))), (2, .int (nI (1440 * dd + k))), (0, .ref (ad 0)), (1, .int (nI (1440 * dd)))]) [0, 3, 1, 2, 6, 7] rfl
          exact ih (k + 1) k (1) tc tn H locs ls (by omega) (tt_row_up hrow hk4 (by omega)) hX hC hO hL hl
        · have h5 := (iZ_eq (by omega) (by omega) (by omega) (by omega)).mp h5
          have hT9 : tt_T (tt_dh g dd) r = true := (tt_row_T hrow hk4 h3).mpr (by omega)
          refine lv_aload_n hx hb d_X_findTurns_66 rfl (lv_at hl 6 rfl) ?_
          refine va_get hx hb hts (fun w h => hT w (uX_in w h)) hown hK hX.1 0 rfl rfl 8 (by decide) (hts _ (hT _ k_X_196)) (fun _ h => h) rfl d_X_findTurns_67 ?_
          refine lv_aload_n hx hb d_X_findTurns_70 rfl (lv_at hl 6 rfl) ?_
          refine va_get hx hb hts (fun w h => hT w (uX_in w h)) hown hK hX.1 0 rfl rfl 7 (by decide) (hts _ (hT _ k_X_33)) (fun _ h => h) rfl d_X_findTurns_71 ?_
          refine va_alen hx hb hK hX.1 7 0 rfl rfl (v := nI 1440) rfl d_X_findTurns_74 ?_
          have ht := hC.1
          refine lv_icmp_ge hx hb d_X_findTurns_75 (tgt := 98) (by decide) (fun hyes => absurd hyes (by rw [ht]; exact nI_ge (show (tt_L (tt_dh g dd) r).length < 1440 by omega) (by decide))) (fun _ => ?_)
          refine lv_aload_n hx hb d_X_findTurns_78 rfl (lv_at hl 6 rfl) ?_
          refine va_get hx hb hts (fun w h => hT w (uX_in w h)) hown hK hX.1 0 rfl rfl 7 (by decide) (hts _ (hT _ k_X_33)) (fun _ h => h) rfl d_X_findTurns_79 ?_
          refine lv_aload_n hx hb d_X_findTurns_82 rfl (lv_at hl 6 rfl) ?_
          refine va_get hx hb hts (fun w h => hT w (uX_in w h)) hown hK hX.1 0 rfl rfl 8 (by decide) (hts _ (hT _ k_X_196)) (fun _ h => h) rfl d_X_findTurns_83 ?_
          refine lv_iload_n hx hb d_X_findTurns_86 rfl (lv_at hl 5 rfl) ?_
          subst ht
          refine tq_iast (F := txF ad) hx hb hK 0 (tx_one hX 7 rfl) rfl (show (tt_L (tt_dh g dd) r).length < 1440 by omega) (by decide) ⟨7, by decide, rfl⟩ hL d_X_findTurns_87 (fun H1 locs1 hP1 hz1 hq1 hL => ?_)
          have hX := tx_set hD hX 7 (by decide) (g' := g) (tc' := nI (tt_L (tt_dh g dd) r).length) (td' := td) (tn' := upd tn (tt_L (tt_dh g dd) r).length (nI (1440 * dd + r))) rfl rfl rfl hP1 (fun j hj => by rcases j with _ | _ | _ | _ | _ | _ | _ | _ | j <;> first | rfl | exact absurd rfl hj) hq1
          have hO := hO.tr (txO.put (k := 7) (by decide) hz1 hq1)
          refine lv_aload_n hx hb d_X_findTurns_88 rfl (lv_at hl 6 rfl) ?_
          refine lv_dup hx hb d_X_findTurns_89 rfl ?_
          refine va_get hx hb hts (fun w h => hT w (uX_in w h)) hown hK hX.1 0 rfl rfl 8 (by decide) (hts _ (hT _ k_X_196)) (fun _ h => h) rfl d_X_findTurns_90 ?_
          refine lv_iconst hx hb d_X_findTurns_93 (v := (nI 1)) rfl ?_
          refine lv_iadd hx hb d_X_findTurns_94 ?_
          refine tq_ti (show _ = (nI ((tt_L (tt_dh g dd) r).length + 1)) from nI_add _ 1) ?_
          refine tq_put (F := txF ad) hx hb hts (fun w h => hT w (uX_in w h)) tX tX_ok nX hown hK (tx_one hX 0 rfl) (ci := 0) rfl 8 (by decide) (hts _ (hT _ k_X_196)) (fun _ h => h) rfl (ty := .int) rfl rfl rfl (Nat.le_of_ble_eq_true rfl) ⟨0, by decide, rfl⟩ hL d_X_findTurns_95 (fun H1 locs1 hP1 hz1 hq1 hL => ?_)
          have hX : tx D ci ad g (nI ((tt_L (tt_dh g dd) r).length + 1)) td (upd tn (tt_L (tt_dh g dd) r).length (nI (1440 * dd + r))) H1 := tx_set hD hX 0 (by decide) rfl rfl rfl hP1 (fun j hj => by rcases j with _ | _ | _ | _ | _ | _ | _ | _ | j <;> first | rfl | exact absurd rfl hj) hq1
          have hO := hO.tr (txO.put (k := 0) (by decide) hz1 hq1)
          have hC : tt_C dd (tt_L (tt_dh g dd) k) (nI ((tt_L (tt_dh g dd) r).length + 1)) (upd tn (tt_L (tt_dh g dd) r).length (nI (1440 * dd + r))) := by rw [tt_row_L hrow, hT9]; exact tt_C_add hC
          refine lv_iload hx hb d_X_findTurns_98 (lv_at hl 0 rfl) ?_
          refine lv_istore hx hb d_X_findTurns_100 hl (by decide) (lv' := [(4, .int (nI 1)), (7, .int (nI 1)), (6, .int (iZ (tt_dh g dd k))), (5, .int (nI (1440 * dd + k))), (3, .int (iZ (tt_dh g dd r))), (2, .int (nI (1440 * dd + r))), (0, .ref (ad 0)), (1, .int (nI (1440 * dd)))]) rfl (fun ls hl => ?_)
          refine lv_iload hx hb d_X_findTurns_102 (lv_at hl 3 rfl) ?_
          refine lv_istore_n hx hb d_X_findTurns_104 rfl hl (by decide) (lv' := [(2, .int (nI (1440 * dd + k))), (4, .int (nI 1)), (7, .int (nI 1)), (6, .int (iZ (tt_dh g dd k))), (5, .int (nI (1440 * dd + k))), (3, .int (iZ (tt_dh g dd r))), (0, .ref (ad 0)), (1, .int (nI (1440 * dd)))]) rfl (fun ls hl => ?_)
          refine lv_iload hx hb d_X_findTurns_105 (lv_at hl 3 rfl) ?_
          refine lv_istore_n hx hb d_X_findTurns_107 rfl hl (by decide) (lv' := [(3, .int (iZ (tt_dh g dd k))), (2, .int (nI (1440 * dd + k))), (4, .int (nI 1)), (7, .int (nI 1)), (6, .int (iZ (tt_dh g dd k))), (5, .int (nI (1440 * dd + k))), (0, .ref (ad 0)), (1, .int (nI (1440 * dd)))]) rfl (fun ls hl => ?_)
          refine lv_iinc hx hb d_X_findTurns_108 hl (k := 5) rfl (v := (nI (1440 * dd + (k + 1)))) (by rw [show Int32.ofInt 1 = 1 from rfl]; exact nI_1 _) (by decide) (lv' := [(5, .int (nI (1440 * dd + (k + 1)))), (3, .int (iZ (tt_dh g dd k))), (2, .int (nI (1440 * dd + k))), (4, .int (nI 1)), (7, .int (nI 1)), (6, .int (iZ (tt_dh g dd k))), (0, .ref (ad 0)), (1, .int (nI (1440 * dd)))]) rfl (fun ls hl => ?_)
          refine lv_goto hx hb d_X_findTurns_111 (tgt := 21) (by decide) ?_
          have hl := lv_sub hl (l' := [(5, .int (nI (1440 * dd + (k + 1)))), (4, .int (nI 1)), (3, .int (iZ (tt_dh g dd k))), (2, .int (nI (1440 * dd + k))), (0, .ref (ad 0)), (1, .int (nI (1440 * dd)))]) [0, 3, 1, 2, 6, 7] rfl
          exact ih (k + 1) k (1) _ _ H1 locs1 ls (by omega) (tt_row_up hrow hk4 (by omega)) hX hC hO hL hl
end G23
set_option maxHeartbeats 4000000 in
set_option maxRecDepth 100000 in
theorem c_X_findTurns (l : Launch) (D : va_G) (ci : Nat → ClassId) (ad : Nat → Nat) (g : TS) (tc td : Int32) (tn : Nat → Int32) {dd : Nat} (hd : dd < 5000) : Met l y_X_findTurns (wT y_X_findTurns b_X_findTurns 8 none) (rP 3 84) (tb (wXO D ci ad g tc td tn) [.ref (ad 0), .int (nI (1440 * dd))]) (tq_Q (fun v H H1 => v = none ∧ ∃ tc1 tn1, tx D ci ad g tc1 td tn1 H1 ∧ tt_C dd (tt_L (tt_dh g dd) 1440) tc1 tn1 ∧ txO ad H H1)) 0 0 (txF ad) := by
  refine Met.ofW (cc := b_X_findTurns) (maxL := 8) (ret := none) (by decide) rfl ?_
  intro p e s m args below meth c s₁ B hml hv
  obtain ⟨rfl, hK, hg, hX, hD⟩ := hv
  have hx := B.exec
  have hb := B.bytes
  have hr := B.returns
  have hts := atoms_spec (ws := wT y_X_findTurns b_X_findTurns 8 none) B.pre
  have hT : ∀ w ∈ TT, w ∈ wT y_X_findTurns b_X_findTurns 8 none := wT_T
  have hown : s.vm.findClass RX = some m.cls := findClass_of_methodNamed B.named
  have hlocks := B.notSynchronized
  have hl := lv_entry ([.ref (ad 0), .int (nI (1440 * dd))]) (n := 8) (Nat.le_of_ble_eq_true rfl)
  rw [lg_entry_eq]
  generalize (lg_sl ([.ref (ad 0), .int (nI (1440 * dd))]) ++ List.replicate (8 - (lg_sl ([.ref (ad 0), .int (nI (1440 * dd))])).length) Slot.unset).toArray = ls at hl ⊢
  have hl : lv_has ls 8 [(0, .ref (ad 0)), (1, .int (nI (1440 * dd)))] := hl
  have hL : ∀ q ∈ ([] : List Loc), txF ad q.base := fun q hq => nomatch hq
  have hO : txO ad s.heap s.heap := txO.rf
  refine lv_aload_n hx hb d_X_findTurns_0 rfl (lv_at hl 0 rfl) ?_
  refine lv_iconst hx hb d_X_findTurns_1 (v := (nI 0)) rfl ?_
  refine tq_put (F := txF ad) hx hb hts (fun w h => hT w (uX_in w h)) tX tX_ok nX hown hK (tx_one hX 0 rfl) (ci := 0) rfl 8 (by decide) (hts _ (hT _ k_X_196)) (fun _ h => h) rfl (ty := .int) rfl rfl rfl (Nat.le_of_ble_eq_true rfl) ⟨0, by decide, rfl⟩ hL d_X_findTurns_2 (fun H1 locs1 hP1 hz1 hq1 hL => ?_)
  have hX : tx D ci ad g (nI 0) td tn H1 := tx_set hD hX 0 (by decide) rfl rfl rfl hP1 (fun j hj => by rcases j with _ | _ | _ | _ | _ | _ | _ | _ | j <;> first | rfl | exact absurd rfl hj) hq1
  have hO := hO.tr (txO.put (k := 0) (by decide) hz1 hq1)
  refine lv_iload_n hx hb d_X_findTurns_5 rfl (lv_at hl 1 rfl) ?_
  refine lv_istore_n hx hb d_X_findTurns_6 rfl hl (by decide) (lv' := [(2, .int (nI (1440 * dd))), (0, .ref (ad 0)), (1, .int (nI (1440 * dd)))]) rfl (fun ls hl => ?_)
  refine lv_aload_n hx hb d_X_findTurns_7 rfl (lv_at hl 1 rfl) ?_
  refine lv_iload_n hx hb d_X_findTurns_8 rfl (lv_at hl 2 rfl) ?_
  refine tq_V ⟨hx, hb, hml, hown, hts⟩ hT (c_X_heightAt l D ci ad g (nI 0) td tn (mm := 1440 * dd) (by omega)) lk_X_119 wX_mv ⟨hK, hg, hX⟩ (wX_rc ⟨hK, hg, hX⟩) rfl hl.1 rfl (Nat.le_of_ble_eq_true rfl) d_X_findTurns_9 ⟨rfl, rfl, Nat.le_of_ble_eq_true rfl, Nat.le_of_ble_eq_true rfl⟩ ⟨Nat.zero_le _, Nat.zero_le _⟩ ?_
  refine lv_istore_n hx hb d_X_findTurns_12 rfl hl (by decide) (lv' := [(3, .int (iZ (tt_dh g dd 0))), (2, .int (nI (1440 * dd))), (0, .ref (ad 0)), (1, .int (nI (1440 * dd)))]) rfl (fun ls hl => ?_)
  refine lv_iconst hx hb d_X_findTurns_13 (v := (nI 0)) rfl ?_
  refine lv_istore hx hb d_X_findTurns_14 hl (by decide) (lv' := [(4, .int (nI 0)), (3, .int (iZ (tt_dh g dd 0))), (2, .int (nI (1440 * dd))), (0, .ref (ad 0)), (1, .int (nI (1440 * dd)))]) rfl (fun ls hl => ?_)
  refine lv_iload_n hx hb d_X_findTurns_16 rfl (lv_at hl 4 rfl) ?_
  refine lv_iconst hx hb d_X_findTurns_17 (v := (nI 1)) rfl ?_
  refine lv_iadd hx hb d_X_findTurns_18 ?_
  refine tq_ti (show _ = (nI (1440 * dd + 1)) from nI_add _ 1) ?_
  refine lv_istore hx hb d_X_findTurns_19 hl (by decide) (lv' := [(5, .int (nI (1440 * dd + 1))), (4, .int (nI 0)), (3, .int (iZ (tt_dh g dd 0))), (2, .int (nI (1440 * dd))), (0, .ref (ad 0)), (1, .int (nI (1440 * dd)))]) rfl (fun ls hl => ?_)
  refine l_X_findTurns hx hb hts hT hown hml hK hg hD ⟨Nat.le_of_ble_eq_true rfl, Nat.le_of_ble_eq_true rfl⟩ ⟨Nat.zero_le _, Nat.zero_le _⟩ (H0 := s.heap) hd (fun tc1 tn1 H1 locs1 ls hX hC hO hL => ?_) 1439 1 0 0 (nI 0) tn H1 locs1 ls rfl (tt_row_0 _) hX ⟨rfl, fun i hi => absurd hi (Nat.not_lt_zero i)⟩ hO hL hl
  exact W.vret hx hb hr (fun t ht hW => ⟨_, rfl, rfl, tc1, tn1, by rw [ht]; exact hX, hC, by rw [ht]; exact hO⟩) hL d_X_findTurns_114
