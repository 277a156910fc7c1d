/-! the reference's cosine, division, heights. Written by wip/whole/gen.py -/
section G31
variable {p : Program} {l : Launch} {e : Env} {R : Room} {s : State} {m : MethodId} {args : Array Value} {below : List Frame} {meth : Method} {c : Code} {H : Heap} {locs : List Loc} {cells slots : Nat} {Q : State → Prop} {Ts : List Cond}
set_option maxHeartbeats 4000000 in
set_option maxRecDepth 100000 in
theorem l_M_cos (hx : p.tables.exec = Jvm.exec) (hb : c.code = b_M_cosineOf) (hts : ∀ w ∈ Ts, w.before args s = true) (hT : ∀ w ∈ TT, w ∈ Ts) (hown : s.vm.findClass RM = some m.cls) {n : Nat} (hn : n < 281474976710656) (kk : ∀ ls : Array Slot, W p l e R s m args below meth c H locs cells slots Q (F0 m 129 ls [.long (lZ (tt_cos n))])) {ls : Array Slot} (hl : lv_has ls 16 [(4, .long (lN (tt_cr n))), (2, .long (lN (n / 70368744177664))), (0, .long (lN n))]) : W p l e R s m args below meth c H locs cells slots Q (F0 m 35 ls []) := by
  have hq : n / 70368744177664 < 4 := by omega
  have hr := tt_cr_le n
  have hs := tt_cs_le n
  have hrr : tt_cr n * tt_cr n ≤ 1073741824 * 1073741824 := Nat.mul_le_mul hr hr
  refine lv_lload hx hb d_M_cosineOf_35 (lv_at hl 0 rfl) ?_
  refine lv_lload hx hb d_M_cosineOf_37 (lv_at hl 0 rfl) ?_
  refine lv_lmul hx hb d_M_cosineOf_39 ?_
  refine tq_tl (show _ = (lN (tt_cr n * tt_cr n)) from lN_mul _ _) ?_
  refine lv_ldc2 hx hb (v := (lN 1073741824)) hown (hts _ (hT _ k_M_87)) d_M_cosineOf_40 ?_
  refine lv_ldiv hx hb d_M_cosineOf_43 (by decide) ?_
  refine tq_tl (show _ = (lN (tt_cs n)) from pk_lDiv (by omega) (by decide) (by decide)) ?_
  refine lv_lstore hx hb d_M_cosineOf_44 hl (by decide) (lv' := [(6, .long (lN (tt_cs n))), (4, .long (lN (tt_cr n))), (2, .long (lN (n / 70368744177664))), (0, .long (lN n))]) rfl (fun ls hl => ?_)
  refine lv_ldc2 hx hb (v := (lN 22401992)) hown (hts _ (hT _ k_M_91)) d_M_cosineOf_46 ?_
  refine lv_ldc2 hx hb (v := (lN 960477)) hown (hts _ (hT _ k_M_93)) d_M_cosineOf_49 ?_
  refine lv_lload hx hb d_M_cosineOf_52 (lv_at hl 0 rfl) ?_
  refine lv_lmul hx hb d_M_cosineOf_54 ?_
  refine tq_tl (show _ = (lN (960477 * tt_cs n)) from lN_mul _ _) ?_
  refine lv_ldc2 hx hb (v := (lN 1073741824)) hown (hts _ (hT _ k_M_87)) d_M_cosineOf_55 ?_
  refine lv_ldiv hx hb d_M_cosineOf_58 (by decide) ?_
  refine tq_tl (show _ = (lN (960477 * tt_cs n / 1073741824)) from pk_lDiv (by omega) (by decide) (by decide)) ?_
  have h1 := (tt_ce_in hs).2
  refine lv_lsub hx hb d_M_cosineOf_59 ?_
  refine tq_tl (show _ = (lN (tt_ce (tt_cs n))) from lN_sub (by omega)) ?_
  have h2 : tt_ce (tt_cs n) * tt_cs n ≤ 22401992 * 1073741824 := Nat.mul_le_mul (tt_ce_in hs).1 hs
  refine lv_lstore hx hb d_M_cosineOf_60 hl (by decide) (lv' := [(8, .long (lN (tt_ce (tt_cs n)))), (6, .long (lN (tt_cs n))), (4, .long (lN (tt_cr n))), (2, .long (lN (n / 70368744177664))), (0, .long (lN n))]) rfl (fun ls hl => ?_)
  refine lv_ldc2 hx hb (v := (lN 272375561)) hown (hts _ (hT _ k_M_95)) d_M_cosineOf_62 ?_
  refine lv_lload hx hb d_M_cosineOf_65 (lv_at hl 0 rfl) ?_
  refine lv_lload hx hb d_M_cosineOf_67 (lv_at hl 1 rfl) ?_
  refine lv_lmul hx hb d_M_cosineOf_69 ?_
  refine tq_tl (show _ = (lN (tt_ce (tt_cs n) * tt_cs n)) from lN_mul _ _) ?_
  refine lv_ldc2 hx hb (v := (lN 1073741824)) hown (hts _ (hT _ k_M_87)) d_M_cosineOf_70 ?_
  refine lv_ldiv hx hb d_M_cosineOf_73 (by decide) ?_
  refine tq_tl (show _ = (lN (tt_ce (tt_cs n) * tt_cs n / 1073741824)) from pk_lDiv (by omega) (by decide) (by decide)) ?_
  have h3 := (tt_cf_in hs).2
  refine lv_lsub hx hb d_M_cosineOf_74 ?_
  refine tq_tl (show _ = (lN (tt_cf (tt_cs n))) from lN_sub (by omega)) ?_
  have h4 : tt_cf (tt_cs n) * tt_cs n ≤ 272375561 * 1073741824 := Nat.mul_le_mul (tt_cf_in hs).1 hs
  refine lv_lstore hx hb d_M_cosineOf_75 hl (by decide) (lv' := [(10, .long (lN (tt_cf (tt_cs n)))), (8, .long (lN (tt_ce (tt_cs n)))), (6, .long (lN (tt_cs n))), (4, .long (lN (tt_cr n))), (2, .long (lN (n / 70368744177664))), (0, .long (lN n))]) rfl (fun ls hl => ?_)
  refine lv_ldc2 hx hb (v := (lN 1324675870)) hown (hts _ (hT _ k_M_97)) d_M_cosineOf_77 ?_
  refine lv_lload hx hb d_M_cosineOf_80 (lv_at hl 0 rfl) ?_
  refine lv_lload hx hb d_M_cosineOf_82 (lv_at hl 2 rfl) ?_
  refine lv_lmul hx hb d_M_cosineOf_84 ?_
  refine tq_tl (show _ = (lN (tt_cf (tt_cs n) * tt_cs n)) from lN_mul _ _) ?_
  refine lv_ldc2 hx hb (v := (lN 1073741824)) hown (hts _ (hT _ k_M_87)) d_M_cosineOf_85 ?_
  refine lv_ldiv hx hb d_M_cosineOf_88 (by decide) ?_
  refine tq_tl (show _ = (lN (tt_cf (tt_cs n) * tt_cs n / 1073741824)) from pk_lDiv (by omega) (by decide) (by decide)) ?_
  have h5 := (tt_cg_in hs).2
  refine lv_lsub hx hb d_M_cosineOf_89 ?_
  refine tq_tl (show _ = (lN (tt_cg (tt_cs n))) from lN_sub (by omega)) ?_
  have h6 : tt_cg (tt_cs n) * tt_cs n ≤ 1324675870 * 1073741824 := Nat.mul_le_mul (tt_cg_in hs).1 hs
  refine lv_lstore hx hb d_M_cosineOf_90 hl (by decide) (lv' := [(12, .long (lN (tt_cg (tt_cs n)))), (10, .long (lN (tt_cf (tt_cs n)))), (8, .long (lN (tt_ce (tt_cs n)))), (6, .long (lN (tt_cs n))), (4, .long (lN (tt_cr n))), (2, .long (lN (n / 70368744177664))), (0, .long (lN n))]) rfl (fun ls hl => ?_)
  refine lv_ldc2 hx hb (v := (lN 1073741824)) hown (hts _ (hT _ k_M_87)) d_M_cosineOf_92 ?_
  refine lv_lload hx hb d_M_cosineOf_95 (lv_at hl 0 rfl) ?_
  refine lv_lload hx hb d_M_cosineOf_97 (lv_at hl 3 rfl) ?_
  refine lv_lmul hx hb d_M_cosineOf_99 ?_
  refine tq_tl (show _ = (lN (tt_cg (tt_cs n) * tt_cs n)) from lN_mul _ _) ?_
  refine lv_ldc2 hx hb (v := (lN 1073741824)) hown (hts _ (hT _ k_M_87)) d_M_cosineOf_100 ?_
  refine lv_ldiv hx hb d_M_cosineOf_103 (by decide) ?_
  refine tq_tl (show _ = (lN (tt_cg (tt_cs n) * tt_cs n / 1073741824)) from pk_lDiv (by omega) (by decide) (by decide)) ?_
  refine lv_lsub hx hb d_M_cosineOf_104 ?_
  refine tq_tl (show _ = (lZ (tt_cc (tt_cs n))) from (by rw [lN_lZ, lN_lZ, lZ_sub]; rfl)) ?_
  refine lv_lstore hx hb d_M_cosineOf_105 hl (by decide) (lv' := [(14, .long (lZ (tt_cc (tt_cs n)))), (12, .long (lN (tt_cg (tt_cs n)))), (10, .long (lN (tt_cf (tt_cs n)))), (8, .long (lN (tt_ce (tt_cs n)))), (6, .long (lN (tt_cs n))), (4, .long (lN (tt_cr n))), (2, .long (lN (n / 70368744177664))), (0, .long (lN n))]) rfl (fun ls hl => ?_)
  refine lv_lload_n hx hb d_M_cosineOf_107 rfl (lv_at hl 6 rfl) ?_
  refine lv_lconst hx hb d_M_cosineOf_108 (v := (lN 1)) rfl ?_
  refine W.lcmp hx hb d_M_cosineOf_109 ?_
  refine lv_if_eq hx hb d_M_cosineOf_110 (tgt := 121) (by decide) (fun h7 => ?_) (fun h7 => ?_)
  · have h7 := ((lg_cmp_eq _ _).trans (pk_lEQ (by omega) (by decide))).mp h7
    refine lv_lload hx hb d_M_cosineOf_121 (lv_at hl 0 rfl) ?_
    refine lv_lneg hx hb d_M_cosineOf_123 ?_
    refine tq_tl (show _ = (lZ (tt_cos n)) from ((lZ_neg _).trans (by unfold tt_cos; rw [if_pos (Or.inl h7)]))) ?_
    refine lv_goto hx hb d_M_cosineOf_124 (tgt := 129) (by decide) ?_
    exact kk _
  · have h7 := mt ((lg_cmp_eq _ _).trans (pk_lEQ (by omega) (by decide))).mpr h7
    refine lv_lload_n hx hb d_M_cosineOf_113 rfl (lv_at hl 6 rfl) ?_
    refine lv_ldc2 hx hb (v := (lN 2)) hown (hts _ (hT _ k_M_89)) d_M_cosineOf_114 ?_
    refine W.lcmp hx hb d_M_cosineOf_117 ?_
    refine lv_if_ne hx hb d_M_cosineOf_118 (tgt := 127) (by decide) (fun h8 => ?_) (fun h8 => ?_)
    · have h8 := mt ((lg_cmp_eq _ _).trans (pk_lEQ (by omega) (by decide))).mpr h8
      refine lv_lload hx hb d_M_cosineOf_127 (lv_at hl 0 rfl) ?_
      refine tq_tl (show _ = (lZ (tt_cos n)) from (by unfold tt_cos; rw [if_neg (fun h => h.elim h7 h8)])) ?_
      exact kk _
    · have h8 := ((lg_cmp_eq _ _).trans (pk_lEQ (by omega) (by decide))).mp h8
      refine lv_lload hx hb d_M_cosineOf_121 (lv_at hl 0 rfl) ?_
      refine lv_lneg hx hb d_M_cosineOf_123 ?_
      refine tq_tl (show _ = (lZ (tt_cos n)) from ((lZ_neg _).trans (by unfold tt_cos; rw [if_pos (Or.inr h8)]))) ?_
      refine lv_goto hx hb d_M_cosineOf_124 (tgt := 129) (by decide) ?_
      exact kk _
end G31
set_option maxHeartbeats 4000000 in
set_option maxRecDepth 100000 in
theorem c_M_cosineOf (l : Launch) {n : Nat} (hn : n < 281474976710656) : Met l y_M_cosineOf (wT y_M_cosineOf b_M_cosineOf 16 (some .long)) (rP 0 0) (tb (wN) [.long (lN n)]) (tq_P (some (.long (lZ (tt_cos n))))) 0 0 tq_n := by
  refine Met.ofW (cc := b_M_cosineOf) (maxL := 16) (ret := (some .long)) (by decide) rfl ?_
  intro p e s m args below meth c s₁ B hml hv
  obtain ⟨rfl, hv⟩ := hv
  have hx := B.exec
  have hb := B.bytes
  have hr := B.returns
  have hts := atoms_spec (ws := wT y_M_cosineOf b_M_cosineOf 16 (some .long)) B.pre
  have hT : ∀ w ∈ TT, w ∈ wT y_M_cosineOf b_M_cosineOf 16 (some .long) := wT_T
  have hown : s.vm.findClass RM = some m.cls := findClass_of_methodNamed B.named
  have hlocks := B.notSynchronized
  have hl := lv_entry ([.long (lN n)]) (n := 16) (Nat.le_of_ble_eq_true rfl)
  rw [lg_entry_eq]
  generalize (lg_sl ([.long (lN n)]) ++ List.replicate (16 - (lg_sl ([.long (lN n)])).length) Slot.unset).toArray = ls at hl ⊢
  have hl : lv_has ls 16 [(0, .long (lN n))] := hl
  refine lv_lload_n hx hb d_M_cosineOf_0 rfl (lv_at hl 0 rfl) ?_
  refine lv_ldc2 hx hb (v := (lN 70368744177664)) hown (hts _ (hT _ k_M_83)) d_M_cosineOf_1 ?_
  refine lv_ldiv hx hb d_M_cosineOf_4 (by decide) ?_
  refine tq_tl (show _ = (lN (n / 70368744177664)) from pk_lDiv (by omega) (by decide) (by decide)) ?_
  refine lv_lstore_n hx hb d_M_cosineOf_5 rfl hl (by decide) (lv' := [(2, .long (lN (n / 70368744177664))), (0, .long (lN n))]) rfl (fun ls hl => ?_)
  refine lv_lload_n hx hb d_M_cosineOf_6 rfl (lv_at hl 1 rfl) ?_
  refine lv_ldc2 hx hb (v := (lN 65536)) hown (hts _ (hT _ k_M_85)) d_M_cosineOf_7 ?_
  refine lv_ldiv hx hb d_M_cosineOf_10 (by decide) ?_
  refine tq_tl (show _ = (lN (n / 65536)) from pk_lDiv (by omega) (by decide) (by decide)) ?_
  refine lv_ldc2 hx hb (v := (lN 1073741824)) hown (hts _ (hT _ k_M_87)) d_M_cosineOf_11 ?_
  refine lv_lrem hx hb d_M_cosineOf_14 (by decide) ?_
  refine tq_tl (show _ = (lN (n / 65536 % 1073741824)) from pk_lRem (by omega) (by decide) (by decide)) ?_
  refine lv_lstore hx hb d_M_cosineOf_15 hl (by decide) (lv' := [(4, .long (lN (n / 65536 % 1073741824))), (2, .long (lN (n / 70368744177664))), (0, .long (lN n))]) rfl (fun ls hl => ?_)
  refine lv_lload_n hx hb d_M_cosineOf_17 rfl (lv_at hl 1 rfl) ?_
  refine lv_ldc2 hx hb (v := (lN 2)) hown (hts _ (hT _ k_M_89)) d_M_cosineOf_18 ?_
  refine lv_lrem hx hb d_M_cosineOf_21 (by decide) ?_
  refine tq_tl (show _ = (lN (n / 70368744177664 % 2)) from pk_lRem (by omega) (by decide) (by decide)) ?_
  refine lv_lconst hx hb d_M_cosineOf_22 (v := (lN 1)) rfl ?_
  refine W.lcmp hx hb d_M_cosineOf_23 ?_
  refine lv_if_ne hx hb d_M_cosineOf_24 (tgt := 35) (by decide) (fun h1 => ?_) (fun h1 => ?_)
  · have h1 := mt ((lg_cmp_eq _ _).trans (pk_lEQ (by omega) (by decide))).mpr h1
    have e9 : tt_cr n = n / 65536 % 1073741824 := by unfold tt_cr; rw [if_neg h1]
    rw [← e9] at hl
    exact l_M_cos hx hb hts hT hown hn (fun ls => W.lret hx hb hr (fun t ht hW => ⟨_, rfl, ⟨rfl, ht⟩⟩) (fun q hq => nomatch hq) d_M_cosineOf_129) hl
  · have h1 := ((lg_cmp_eq _ _).trans (pk_lEQ (by omega) (by decide))).mp h1
    have e9 : tt_cr n = 1073741824 - n / 65536 % 1073741824 := by unfold tt_cr; rw [if_pos h1]
    refine lv_ldc2 hx hb (v := (lN 1073741824)) hown (hts _ (hT _ k_M_87)) d_M_cosineOf_27 ?_
    refine lv_lload hx hb d_M_cosineOf_30 (lv_at hl 0 rfl) ?_
    refine lv_lsub hx hb d_M_cosineOf_32 ?_
    refine tq_tl (show _ = (lN (tt_cr n)) from (e9 ▸ lN_sub (by omega))) ?_
    refine lv_lstore hx hb d_M_cosineOf_33 hl (by decide) (lv' := [(4, .long (lN (tt_cr n))), (2, .long (lN (n / 70368744177664))), (0, .long (lN n))]) rfl (fun ls hl => ?_)
    exact l_M_cos hx hb hts hT hown hn (fun ls => W.lret hx hb hr (fun t ht hW => ⟨_, rfl, ⟨rfl, ht⟩⟩) (fun q hq => nomatch hq) d_M_cosineOf_129) hl
set_option maxHeartbeats 4000000 in
set_option maxRecDepth 100000 in
theorem c_M_floor (l : Launch) {a b : Int} (ha1 : -9223372036854775808 ≤ a) (ha2 : a < 9223372036854775808) (hb1 : 0 < b) (hb2 : b < 9223372036854775808) : Met l y_M_floor (wT y_M_floor b_M_floor 6 (some .long)) (rP 0 0) (tb (wN) [.long (lZ a), .long (lZ b)]) (tq_P (some (.long (lZ (a / b))))) 0 0 tq_n := by
  refine Met.ofW (cc := b_M_floor) (maxL := 6) (ret := (some .long)) (by decide) rfl ?_
  intro p e s m args below meth c s₁ B hml hv
  obtain ⟨rfl, hv⟩ := hv
  have hx := B.exec
  have hb := B.bytes
  have hr := B.returns
  have hts := atoms_spec (ws := wT y_M_floor b_M_floor 6 (some .long)) B.pre
  have hT : ∀ w ∈ TT, w ∈ wT y_M_floor b_M_floor 6 (some .long) := wT_T
  have hown : s.vm.findClass RM = some m.cls := findClass_of_methodNamed B.named
  have hlocks := B.notSynchronized
  have hl := lv_entry ([.long (lZ a), .long (lZ b)]) (n := 6) (Nat.le_of_ble_eq_true rfl)
  rw [lg_entry_eq]
  generalize (lg_sl ([.long (lZ a), .long (lZ b)]) ++ List.replicate (6 - (lg_sl ([.long (lZ a), .long (lZ b)])).length) Slot.unset).toArray = ls at hl ⊢
  have hl : lv_has ls 6 [(0, .long (lZ a)), (2, .long (lZ b))] := hl
  have ea := lZ_toInt ha1 ha2
  have eb := lZ_toInt (z := b) (by omega) hb2
  have hmul := Int.mul_tdiv_add_tmod a b
  have hcm : a.tdiv b * b = b * a.tdiv b := Int.mul_comm _ _
  have htm := Int.lt_tmod_of_pos a hb1
  have htn : 0 ≤ a → 0 ≤ a.tmod b := Int.tmod_nonneg b
  have hqb : (a.tdiv b * b).natAbs ≤ a.natAbs := by
    rw [Int.natAbs_mul, Int.natAbs_tdiv]
    exact Nat.div_mul_le_self _ _
  have hup : a.tdiv b * b < 9223372036854775808 := by
    by_cases h : 0 ≤ a
    · have := htn h
      omega
    · omega
  have eq := lZ_toInt (z := a.tdiv b * b) (by omega) hup
  refine lv_lload_n hx hb d_M_floor_0 rfl (lv_at hl 0 rfl) ?_
  refine lv_lload_n hx hb d_M_floor_1 rfl (lv_at hl 1 rfl) ?_
  refine lv_ldiv hx hb d_M_floor_2 (fun z => by rw [← Int64.toInt_inj, eb] at z; exact absurd z (by show ¬ b = 0; omega)) ?_
  refine tq_tl (show _ = (lZ (a.tdiv b)) from lZ_div ha1 ha2 hb1 hb2) ?_
  refine lv_lstore hx hb d_M_floor_3 hl (by decide) (lv' := [(4, .long (lZ (a.tdiv b))), (0, .long (lZ a)), (2, .long (lZ b))]) rfl (fun ls hl => ?_)
  refine lv_lload hx hb d_M_floor_5 (lv_at hl 0 rfl) ?_
  refine lv_lload_n hx hb d_M_floor_7 rfl (lv_at hl 2 rfl) ?_
  refine lv_lmul hx hb d_M_floor_8 ?_
  refine tq_tl (show _ = (lZ (a.tdiv b * b)) from lZ_mul _ _) ?_
  refine lv_lload_n hx hb d_M_floor_9 rfl (lv_at hl 1 rfl) ?_
  refine W.lcmp hx hb d_M_floor_10 ?_
  refine lv_if_le hx hb d_M_floor_11 (tgt := 21) (by decide) (fun h1 => ?_) (fun h1 => ?_)
  · have h1 := ((lg_cmp_le _ _).trans Int64.le_iff_toInt_le).mp h1
    rw [eq, ea] at h1
    refine lv_lload hx hb d_M_floor_21 (lv_at hl 0 rfl) ?_
    exact W.lret hx hb hr (fun t ht hW => ⟨_, rfl, ⟨(by rw [← tt_floor hb1, if_neg (by omega)]), ht⟩⟩) (fun q hq => nomatch hq) d_M_floor_23
  · have h1 := mt ((lg_cmp_le _ _).trans Int64.le_iff_toInt_le).mpr h1
    rw [eq, ea] at h1
    refine lv_lload hx hb d_M_floor_14 (lv_at hl 0 rfl) ?_
    refine lv_lconst hx hb d_M_floor_16 (v := (lN 1)) rfl ?_
    refine lv_lsub hx hb d_M_floor_17 ?_
    refine tq_tl (show _ = (lZ (a.tdiv b - 1)) from (by rw [lN_lZ, lZ_sub]; rfl)) ?_
    refine lv_goto hx hb d_M_floor_18 (tgt := 23) (by decide) ?_
    exact W.lret hx hb hr (fun t ht hW => ⟨_, rfl, ⟨(by rw [← tt_floor hb1, if_pos (by omega)]), ht⟩⟩) (fun q hq => nomatch hq) d_M_floor_23
section G31b
variable {p : Program} {l : Launch} {e : Env} {R : Room} {s : State} {m : MethodId} {args : Array Value} {below : List Frame} {meth : Method} {c : Code} {H : Heap} {locs : List Loc} {cells slots : Nat} {Q : State → Prop} {Ts : List Cond}
variable {D : va_G} {ci : Nat → ClassId} {am : Nat → Nat} {g : TS} {th fo sz : Int32} {hs mi hi tx : Nat → Int32}
set_option maxHeartbeats 4000000 in
set_option maxRecDepth 100000 in
theorem l_M_heightAt (hx : p.tables.exec = Jvm.exec) (hb : c.code = b_M_heightAt) (hts : ∀ w ∈ Ts, w.before args s = true) (hT : ∀ w ∈ TT, w ∈ Ts) (hown : s.vm.findClass RM = some m.cls) (hml : c.maxLocals = 6) (hK : tk D ci s) (hg : tt_ok g) (hM : tm D ci am g th fo sz hs mi hi tx H) (hR : 2 ≤ R.frames ∧ 45 ≤ R.locals) (hf : cells ≤ R.cells ∧ slots ≤ R.slots) {mm y : Nat} (hmm : mm < 8388608) (hy : y < 10)
    (kk : ∀ (ls : Array Slot), lv_has ls 6 [(5, .int (nI 8)), (3, .long (lZ (tt_sum g mm y 8))), (2, .int (nI y)), (0, .ref (am 0)), (1, .int (nI mm))] → W p l e R s m args below meth c H locs cells slots Q (F0 m 73 ls [])) :
    ∀ (n k : Nat) (ls : Array Slot), k + n = 8 → lv_has ls 6 [(5, .int (nI k)), (3, .long (lZ (tt_sum g mm y k))), (2, .int (nI y)), (0, .ref (am 0)), (1, .int (nI mm))] → W p l e R s m args below meth c H locs cells slots Q (F0 m 17 ls []) := by
  intro n
  induction n with
  | zero =>
    intro k ls hk hl
    obtain rfl : k = 8 := by omega
    refine lv_iload hx hb d_M_heightAt_17 (lv_at hl 0 rfl) ?_
    refine lv_bipush hx hb d_M_heightAt_19 (v := (nI 8)) rfl ?_
    refine lv_icmp_ge hx hb d_M_heightAt_21 (tgt := 73) (by decide) (fun _ => ?_) (fun hno => absurd (nI_le (Nat.le_refl 8) (by decide)) hno)
    exact kk ls hl
  | succ n ih =>
    intro k ls hk hl
    have hk8 : k < 8 := by omega
    have ha := (hg.2.1 k hk8).1
    have hfa := (hg.2.2.1 k hk8 y hy).1
    have hc := tt_cos_in (tt_pos g k mm y)
    have hpr := tt_prd (tt_af_le hg hk8 hy) hc.1 hc.2
    refine lv_iload hx hb d_M_heightAt_17 (lv_at hl 0 rfl) ?_
    refine lv_bipush hx hb d_M_heightAt_19 (v := (nI 8)) rfl ?_
    refine lv_icmp_ge hx hb d_M_heightAt_21 (tgt := 73) (by decide) (fun hyes => absurd hyes (nI_ge hk8 (by decide))) (fun _ => ?_)
    refine lv_lload_n hx hb d_M_heightAt_24 rfl (lv_at hl 1 rfl) ?_
    refine lv_aload_n hx hb d_M_heightAt_25 rfl (lv_at hl 3 rfl) ?_
    refine va_get hx hb hts (fun w h => hT w (uM_in w h)) hown hK hM 0 rfl rfl 3 (by decide) (hts _ (hT _ k_M_13)) (fun _ h => h) rfl d_M_heightAt_26 ?_
    refine lv_iload hx hb d_M_heightAt_29 (lv_at hl 0 rfl) ?_
    refine tq_iald hx hb hK hM 2 0 rfl rfl hk8 (by decide) d_M_heightAt_31 ?_
    refine lv_i2l hx hb d_M_heightAt_32 (v := (nI (tt_amp g k)).toInt64) rfl ?_
    refine tq_tl (show _ = (lN (tt_amp g k)) from nI_l (by omega)) ?_
    refine lv_aload_n hx hb d_M_heightAt_33 rfl (lv_at hl 3 rfl) ?_
    refine va_get hx hb hts (fun w h => hT w (uM_in w h)) hown hK hM 0 rfl rfl 6 (by decide) (hts _ (hT _ k_M_23)) (fun _ h => h) rfl d_M_heightAt_34 ?_
    refine lv_bipush hx hb d_M_heightAt_37 (v := (nI 10)) rfl ?_
    refine lv_iload hx hb d_M_heightAt_39 (lv_at hl 0 rfl) ?_
    refine lv_imul hx hb d_M_heightAt_41 ?_
    refine lv_iload_n hx hb d_M_heightAt_42 rfl (lv_at hl 2 rfl) ?_
    refine lv_iadd hx hb d_M_heightAt_43 ?_
    refine tq_ti (show _ = (nI (10 * k + y)) from (by rw [pk_mul, nI_add])) ?_
    refine tq_iald hx hb hK hM 5 0 rfl rfl (show 10 * k + y < 80 by omega) (by decide) d_M_heightAt_44 ?_
    refine tq_ti (show _ = (nI (tt_fac g k y)) from (by show nI (tt_fac g ((10 * k + y) / 10) ((10 * k + y) % 10)) = _; rw [show (10 * k + y) / 10 = k by omega, show (10 * k + y) % 10 = y by omega])) ?_
    refine lv_i2l hx hb d_M_heightAt_45 (v := (nI (tt_fac g k y)).toInt64) rfl ?_
    refine tq_tl (show _ = (lN (tt_fac g k y)) from nI_l (by omega)) ?_
    refine lv_lmul hx hb d_M_heightAt_46 ?_
    refine tq_tl (show _ = (lN (tt_amp g k * tt_fac g k y)) from lN_mul _ _) ?_
    refine lv_aload_n hx hb d_M_heightAt_47 rfl (lv_at hl 3 rfl) ?_
    refine lv_iload hx hb d_M_heightAt_48 (lv_at hl 0 rfl) ?_
    refine lv_iload_n hx hb d_M_heightAt_50 rfl (lv_at hl 4 rfl) ?_
    refine lv_iload_n hx hb d_M_heightAt_51 rfl (lv_at hl 2 rfl) ?_
    refine tq_V ⟨hx, hb, hml, hown, hts⟩ hT (c_M_positionOf l D ci am g th fo sz hs mi hi tx hk8 hmm hy) lk_M_79 wM_mv ⟨hK, hg, hM⟩ (wM_rc hK hM) rfl hl.1 rfl (Nat.le_of_ble_eq_true rfl) d_M_heightAt_52 ⟨rfl, rfl, by show 0 + 1 ≤ R.frames; omega, by show 8 + (6 + 11) + 0 ≤ R.locals; omega⟩ hf ?_
    refine tq_S ⟨hx, hb, hml, hown, hts⟩ hT (c_M_cosineOf l (tt_pos_lt g k mm y)) lk_M_99 wN_mv trivial rfl hl.1 rfl (Nat.le_of_ble_eq_true rfl) d_M_heightAt_55 ⟨rfl, rfl, by show 0 + 1 ≤ R.frames; omega, by show 8 + (16 + 11) + 0 ≤ R.locals; omega⟩ hf ?_
    refine lv_lmul hx hb d_M_heightAt_58 ?_
    refine tq_tl (show _ = (lZ (((tt_amp g k * tt_fac g k y : Nat) : Int) * tt_cos (tt_pos g k mm y))) from (by rw [lN_lZ, lZ_mul])) ?_
    refine lv_ldc2 hx hb (v := (lN 65536)) hown (hts _ (hT _ k_M_85)) d_M_heightAt_59 ?_
    refine tq_tl (show _ = (lZ 65536) from lN_lZ 65536) ?_
    refine tq_S ⟨hx, hb, hml, hown, hts⟩ hT (c_M_floor l (a := ((tt_amp g k * tt_fac g k y : Nat) : Int) * tt_cos (tt_pos g k mm y)) (b := 65536) (by omega) (by omega) (by decide) (by decide)) lk_M_105 wN_mv trivial rfl hl.1 rfl (Nat.le_of_ble_eq_true rfl) d_M_heightAt_62 ⟨rfl, rfl, by show 0 + 1 ≤ R.frames; omega, by show 8 + (6 + 11) + 0 ≤ R.locals; omega⟩ hf ?_
    refine lv_ladd hx hb d_M_heightAt_65 ?_
    refine tq_tl (show _ = (lZ (tt_sum g mm y (k + 1))) from lZ_add _ _) ?_
    refine lv_lstore_n hx hb d_M_heightAt_66 rfl hl (by decide) (lv' := [(3, .long (lZ (tt_sum g mm y (k + 1)))), (5, .int (nI k)), (2, .int (nI y)), (0, .ref (am 0)), (1, .int (nI mm))]) rfl (fun ls hl => ?_)
    refine lv_iinc hx hb d_M_heightAt_67 hl (k := 1) rfl (v := (nI (k + 1))) (by rw [show Int32.ofInt 1 = 1 from rfl]; exact nI_1 k) (by decide) (lv' := [(5, .int (nI (k + 1))), (3, .long (lZ (tt_sum g mm y (k + 1)))), (2, .int (nI y)), (0, .ref (am 0)), (1, .int (nI mm))]) rfl (fun ls hl => ?_)
    refine lv_goto hx hb d_M_heightAt_70 (tgt := 17) (by decide) ?_
    exact ih (k + 1) ls (by omega) hl
end G31b
set_option maxHeartbeats 4000000 in
set_option maxRecDepth 100000 in
theorem c_M_heightAt (l : Launch) (D : va_G) (ci : Nat → ClassId) (am : Nat → Nat) (g : TS) (th fo sz : Int32) (hs mi hi tx : Nat → Int32) {mm : Nat} (hmm : mm < 8388608) : Met l y_M_heightAt (wT y_M_heightAt b_M_heightAt 6 (some .int)) (rP 2 45) (tb (wM D ci am g th fo sz hs mi hi tx) [.ref (am 0), .int (nI mm)]) (tq_P (some (.int (iZ (tt_hgt g mm))))) 0 0 tq_n := by
  refine Met.ofW (cc := b_M_heightAt) (maxL := 6) (ret := (some .int)) (by decide) rfl ?_
  intro p e s m args below meth c s₁ B hml hv
  obtain ⟨rfl, hK, hg, hM⟩ := hv
  have hx := B.exec
  have hb := B.bytes
  have hr := B.returns
  have hts := atoms_spec (ws := wT y_M_heightAt b_M_heightAt 6 (some .int)) B.pre
  have hT : ∀ w ∈ TT, w ∈ wT y_M_heightAt b_M_heightAt 6 (some .int) := wT_T
  have hown : s.vm.findClass RM = some m.cls := findClass_of_methodNamed B.named
  have hlocks := B.notSynchronized
  have hl := lv_entry ([.ref (am 0), .int (nI mm)]) (n := 6) (Nat.le_of_ble_eq_true rfl)
  rw [lg_entry_eq]
  generalize (lg_sl ([.ref (am 0), .int (nI mm)]) ++ List.replicate (6 - (lg_sl ([.ref (am 0), .int (nI mm)])).length) Slot.unset).toArray = ls at hl ⊢
  have hl : lv_has ls 6 [(0, .ref (am 0)), (1, .int (nI mm))] := hl
  refine lv_aload_n hx hb d_M_heightAt_0 rfl (lv_at hl 0 rfl) ?_
  refine lv_iload_n hx hb d_M_heightAt_1 rfl (lv_at hl 1 rfl) ?_
  refine lv_sipush hx hb d_M_heightAt_2 (v := (nI 1440)) rfl ?_
  refine lv_idiv hx hb d_M_heightAt_5 (by decide) ?_
  refine tq_ti (show _ = (nI (mm / 1440)) from pk_div (by omega) (by decide) (by decide)) ?_
  refine tq_V ⟨hx, hb, hml, hown, hts⟩ hT (c_M_yearOfDay l D ci am g th fo sz hs mi hi tx (d := mm / 1440) (by omega)) lk_M_76 wM_mv ⟨hK, hg, hM⟩ (wM_rc hK hM) rfl hl.1 rfl (Nat.le_of_ble_eq_true rfl) d_M_heightAt_6 ⟨rfl, rfl, Nat.le_of_ble_eq_true rfl, Nat.le_of_ble_eq_true rfl⟩ ⟨Nat.zero_le _, Nat.zero_le _⟩ ?_
  refine tq_ti (show _ = (nI (tt_yr g mm)) from (by rw [← tt_yr_day])) ?_
  have hy := tt_yr_lt g mm
  refine lv_istore_n hx hb d_M_heightAt_9 rfl hl (by decide) (lv' := [(2, .int (nI (tt_yr g mm))), (0, .ref (am 0)), (1, .int (nI mm))]) rfl (fun ls hl => ?_)
  refine lv_ldc2 hx hb (v := (lN 536870912)) hown (hts _ (hT _ k_M_103)) d_M_heightAt_10 ?_
  refine tq_tl (show _ = (lZ (tt_sum g mm (tt_yr g mm) 0)) from rfl) ?_
  refine lv_lstore_n hx hb d_M_heightAt_13 rfl hl (by decide) (lv' := [(3, .long (lZ (tt_sum g mm (tt_yr g mm) 0))), (2, .int (nI (tt_yr g mm))), (0, .ref (am 0)), (1, .int (nI mm))]) rfl (fun ls hl => ?_)
  refine lv_iconst hx hb d_M_heightAt_14 (v := (nI 0)) rfl ?_
  refine lv_istore hx hb d_M_heightAt_15 hl (by decide) (lv' := [(5, .int (nI 0)), (3, .long (lZ (tt_sum g mm (tt_yr g mm) 0))), (2, .int (nI (tt_yr g mm))), (0, .ref (am 0)), (1, .int (nI mm))]) rfl (fun ls hl => ?_)
  refine l_M_heightAt hx hb hts hT hown hml hK hg hM ⟨Nat.le_of_ble_eq_true rfl, Nat.le_of_ble_eq_true rfl⟩ ⟨Nat.zero_le _, Nat.zero_le _⟩ hmm hy (fun ls hl => ?_) 8 0 ls rfl hl
  have hsu := tt_sum_in hg (m := mm) hy 8 (Nat.le_refl _)
  refine lv_lload_n hx hb d_M_heightAt_73 rfl (lv_at hl 1 rfl) ?_
  refine lv_ldc2 hx hb (v := (lN 1073741824)) hown (hts _ (hT _ k_M_87)) d_M_heightAt_74 ?_
  refine tq_tl (show _ = (lZ 1073741824) from lN_lZ 1073741824) ?_
  refine tq_S ⟨hx, hb, hml, hown, hts⟩ hT (c_M_floor l (a := tt_sum g mm (tt_yr g mm) 8) (b := 1073741824) (by omega) (by omega) (by decide) (by decide)) lk_M_105 wN_mv trivial rfl hl.1 rfl (Nat.le_of_ble_eq_true rfl) d_M_heightAt_77 ⟨rfl, rfl, Nat.le_of_ble_eq_true rfl, Nat.le_of_ble_eq_true rfl⟩ ⟨Nat.zero_le _, Nat.zero_le _⟩ ?_
  refine lv_l2i hx hb d_M_heightAt_80 (v := (lZ (tt_sum g mm (tt_yr g mm) 8 / 1073741824)).toInt32) rfl ?_
  refine tq_ti (show _ = (iZ (tt_sum g mm (tt_yr g mm) 8 / 1073741824)) from lZ_i _) ?_
  refine lv_aload_n hx hb d_M_heightAt_81 rfl (lv_at hl 3 rfl) ?_
  refine va_get hx hb hts (fun w h => hT w (uM_in w h)) hown hK hM 0 rfl rfl 1 (by decide) (hts _ (hT _ k_M_51)) (fun _ h => h) rfl d_M_heightAt_82 ?_
  refine lv_iadd hx hb d_M_heightAt_85 ?_
  refine tq_ti (show _ = (iZ (tt_hgt g mm)) from iZ_add _ _) ?_
  exact W.iret hx hb hr (fun t ht hW => ⟨_, rfl, ⟨rfl, ht⟩⟩) (fun q hq => nomatch hq) d_M_heightAt_86
