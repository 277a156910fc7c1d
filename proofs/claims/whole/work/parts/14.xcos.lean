/-! the class's cosine and heights. Written by wip/whole/gen.py -/
section G14
variable {p : Program} {l : Launch} {e : Env} {R : Room} {s : State} {m : MethodId} {args : Array Value} {below : List Frame} {meth : Method} {c : Code} {H : Heap} {locs : List Loc} {cells slots : Nat} {Q : State → Prop} {Ts : List Cond}
variable {D : va_G} {ci : Nat → ClassId} {ad : Nat → Nat} {g : TS} {tc td : Int32} {tn : Nat → Int32}
set_option maxHeartbeats 4000000 in
set_option maxRecDepth 100000 in
theorem l_X_cos (hx : p.tables.exec = Jvm.exec) (hb : c.code = b_X_cosineOf) (hts : ∀ w ∈ Ts, w.before args s = true) (hT : ∀ w ∈ TT, w ∈ Ts) (hown : s.vm.findClass RX = some m.cls) {n : Nat} (hn : n < 281474976710656) (kk : ∀ ls : Array Slot, W p l e R s m args below meth c H locs cells slots Q (F0 m 115 ls [.int (iZ (tt_cos n))])) {ls : Array Slot} (hl : lv_has ls 15 [(3, .long (lN (tt_cr n))), (2, .int (nI (n / 70368744177664))), (0, .long (lN n))]) : W p l e R s m args below meth c H locs cells slots Q (F0 m 31 ls []) := by
  have hq : n / 70368744177664 < 4 := by omega
  have hr := tt_cr_le n
  have hs := tt_cs_le n
  have hrr : tt_cr n * tt_cr n ≤ 1073741824 * 1073741824 := Nat.mul_le_mul hr hr
  refine lv_lload_n hx hb d_X_cosineOf_31 rfl (lv_at hl 0 rfl) ?_
  refine lv_lload_n hx hb d_X_cosineOf_32 rfl (lv_at hl 0 rfl) ?_
  refine lv_lmul hx hb d_X_cosineOf_33 ?_
  refine tq_tl (show _ = (lN (tt_cr n * tt_cr n)) from lN_mul _ _) ?_
  refine lv_bipush hx hb d_X_cosineOf_34 (v := (nI 30)) rfl ?_
  refine lv_lshr hx hb d_X_cosineOf_36 (v := ((lN (tt_cr n * tt_cr n)) >>> ((nI 30).toInt64 &&& 63))) rfl ?_
  refine tq_tl (show _ = (lN (tt_cs n)) from lN_shr30 (by omega)) ?_
  refine lv_lstore hx hb d_X_cosineOf_37 hl (by decide) (lv' := [(5, .long (lN (tt_cs n))), (3, .long (lN (tt_cr n))), (2, .int (nI (n / 70368744177664))), (0, .long (lN n))]) rfl (fun ls hl => ?_)
  refine lv_ldc2 hx hb (v := (lN 22401992)) hown (hts _ (hT _ k_X_179)) d_X_cosineOf_39 ?_
  refine lv_ldc2 hx hb (v := (lN 960477)) hown (hts _ (hT _ k_X_181)) d_X_cosineOf_42 ?_
  refine lv_lload hx hb d_X_cosineOf_45 (lv_at hl 0 rfl) ?_
  refine lv_lmul hx hb d_X_cosineOf_47 ?_
  refine tq_tl (show _ = (lN (960477 * tt_cs n)) from lN_mul _ _) ?_
  refine lv_bipush hx hb d_X_cosineOf_48 (v := (nI 30)) rfl ?_
  refine lv_lshr hx hb d_X_cosineOf_50 (v := ((lN (960477 * tt_cs n)) >>> ((nI 30).toInt64 &&& 63))) rfl ?_
  refine tq_tl (show _ = (lN (960477 * tt_cs n / 1073741824)) from lN_shr30 (by omega)) ?_
  have h1 := (tt_ce_in hs).2
  refine lv_lsub hx hb d_X_cosineOf_51 ?_
  refine tq_tl (show _ = (lN (tt_ce (tt_cs n))) from lN_sub (by omega)) ?_
  have h2 : tt_ce (tt_cs n) * tt_cs n ≤ 22401992 * 1073741824 := Nat.mul_le_mul (tt_ce_in hs).1 hs
  refine lv_lstore hx hb d_X_cosineOf_52 hl (by decide) (lv' := [(7, .long (lN (tt_ce (tt_cs n)))), (5, .long (lN (tt_cs n))), (3, .long (lN (tt_cr n))), (2, .int (nI (n / 70368744177664))), (0, .long (lN n))]) rfl (fun ls hl => ?_)
  refine lv_ldc2 hx hb (v := (lN 272375561)) hown (hts _ (hT _ k_X_183)) d_X_cosineOf_54 ?_
  refine lv_lload hx hb d_X_cosineOf_57 (lv_at hl 0 rfl) ?_
  refine lv_lload hx hb d_X_cosineOf_59 (lv_at hl 1 rfl) ?_
  refine lv_lmul hx hb d_X_cosineOf_61 ?_
  refine tq_tl (show _ = (lN (tt_ce (tt_cs n) * tt_cs n)) from lN_mul _ _) ?_
  refine lv_bipush hx hb d_X_cosineOf_62 (v := (nI 30)) rfl ?_
  refine lv_lshr hx hb d_X_cosineOf_64 (v := ((lN (tt_ce (tt_cs n) * tt_cs n)) >>> ((nI 30).toInt64 &&& 63))) rfl ?_
  refine tq_tl (show _ = (lN (tt_ce (tt_cs n) * tt_cs n / 1073741824)) from lN_shr30 (by omega)) ?_
  have h3 := (tt_cf_in hs).2
  refine lv_lsub hx hb d_X_cosineOf_65 ?_
  refine tq_tl (show _ = (lN (tt_cf (tt_cs n))) from lN_sub (by omega)) ?_
  have h4 : tt_cf (tt_cs n) * tt_cs n ≤ 272375561 * 1073741824 := Nat.mul_le_mul (tt_cf_in hs).1 hs
  refine lv_lstore hx hb d_X_cosineOf_66 hl (by decide) (lv' := [(9, .long (lN (tt_cf (tt_cs n)))), (7, .long (lN (tt_ce (tt_cs n)))), (5, .long (lN (tt_cs n))), (3, .long (lN (tt_cr n))), (2, .int (nI (n / 70368744177664))), (0, .long (lN n))]) rfl (fun ls hl => ?_)
  refine lv_ldc2 hx hb (v := (lN 1324675870)) hown (hts _ (hT _ k_X_185)) d_X_cosineOf_68 ?_
  refine lv_lload hx hb d_X_cosineOf_71 (lv_at hl 0 rfl) ?_
  refine lv_lload hx hb d_X_cosineOf_73 (lv_at hl 2 rfl) ?_
  refine lv_lmul hx hb d_X_cosineOf_75 ?_
  refine tq_tl (show _ = (lN (tt_cf (tt_cs n) * tt_cs n)) from lN_mul _ _) ?_
  refine lv_bipush hx hb d_X_cosineOf_76 (v := (nI 30)) rfl ?_
  refine lv_lshr hx hb d_X_cosineOf_78 (v := ((lN (tt_cf (tt_cs n) * tt_cs n)) >>> ((nI 30).toInt64 &&& 63))) rfl ?_
  refine tq_tl (show _ = (lN (tt_cf (tt_cs n) * tt_cs n / 1073741824)) from lN_shr30 (by omega)) ?_
  have h5 := (tt_cg_in hs).2
  refine lv_lsub hx hb d_X_cosineOf_79 ?_
  refine tq_tl (show _ = (lN (tt_cg (tt_cs n))) from lN_sub (by omega)) ?_
  have h6 : tt_cg (tt_cs n) * tt_cs n ≤ 1324675870 * 1073741824 := Nat.mul_le_mul (tt_cg_in hs).1 hs
  refine lv_lstore hx hb d_X_cosineOf_80 hl (by decide) (lv' := [(11, .long (lN (tt_cg (tt_cs n)))), (9, .long (lN (tt_cf (tt_cs n)))), (7, .long (lN (tt_ce (tt_cs n)))), (5, .long (lN (tt_cs n))), (3, .long (lN (tt_cr n))), (2, .int (nI (n / 70368744177664))), (0, .long (lN n))]) rfl (fun ls hl => ?_)
  refine lv_ldc2 hx hb (v := (lN 1073741824)) hown (hts _ (hT _ k_X_177)) d_X_cosineOf_82 ?_
  refine lv_lload hx hb d_X_cosineOf_85 (lv_at hl 0 rfl) ?_
  refine lv_lload hx hb d_X_cosineOf_87 (lv_at hl 3 rfl) ?_
  refine lv_lmul hx hb d_X_cosineOf_89 ?_
  refine tq_tl (show _ = (lN (tt_cg (tt_cs n) * tt_cs n)) from lN_mul _ _) ?_
  refine lv_bipush hx hb d_X_cosineOf_90 (v := (nI 30)) rfl ?_
  refine lv_lshr hx hb d_X_cosineOf_92 (v := ((lN (tt_cg (tt_cs n) * tt_cs n)) >>> ((nI 30).toInt64 &&& 63))) rfl ?_
  refine tq_tl (show _ = (lN (tt_cg (tt_cs n) * tt_cs n / 1073741824)) from lN_shr30 (by omega)) ?_
  refine lv_lsub hx hb d_X_cosineOf_93 ?_
  refine tq_tl (show _ = (lZ (tt_cc (tt_cs n))) from (by rw [lN_lZ, lN_lZ, lZ_sub]; rfl)) ?_
  refine lv_lstore hx hb d_X_cosineOf_94 hl (by decide) (lv' := [(13, .long (lZ (tt_cc (tt_cs n)))), (11, .long (lN (tt_cg (tt_cs n)))), (9, .long (lN (tt_cf (tt_cs n)))), (7, .long (lN (tt_ce (tt_cs n)))), (5, .long (lN (tt_cs n))), (3, .long (lN (tt_cr n))), (2, .int (nI (n / 70368744177664))), (0, .long (lN n))]) rfl (fun ls hl => ?_)
  refine lv_iload_n hx hb d_X_cosineOf_96 rfl (lv_at hl 6 rfl) ?_
  refine lv_iconst hx hb d_X_cosineOf_97 (v := (nI 1)) rfl ?_
  refine lv_icmp_eq hx hb d_X_cosineOf_98 (tgt := 106) (by decide) (fun h7 => ?_) (fun h7 => ?_)
  · have h7 := (nI_eq (by omega) (by decide)).mp h7
    refine lv_lload hx hb d_X_cosineOf_106 (lv_at hl 0 rfl) ?_
    refine lv_lneg hx hb d_X_cosineOf_108 ?_
    refine tq_tl (show _ = (lZ (- tt_cc (tt_cs n))) from lZ_neg _) ?_
    refine lv_goto hx hb d_X_cosineOf_109 (tgt := 114) (by decide) ?_
    refine lv_l2i hx hb d_X_cosineOf_114 (v := (lZ (- tt_cc (tt_cs n))).toInt32) rfl ?_
    refine tq_ti (show _ = (iZ (tt_cos n)) from ((lZ_i _).trans (by unfold tt_cos; rw [if_pos (Or.inl h7)]))) ?_
    exact kk _
  · have h7 := mt (nI_eq (by omega) (by decide)).mpr h7
    refine lv_iload_n hx hb d_X_cosineOf_101 rfl (lv_at hl 6 rfl) ?_
    refine lv_iconst hx hb d_X_cosineOf_102 (v := (nI 2)) rfl ?_
    refine lv_icmp_ne hx hb d_X_cosineOf_103 (tgt := 112) (by decide) (fun h8 => ?_) (fun h8 => ?_)
    · have h8 := mt (nI_eq (by omega) (by decide)).mpr h8
      refine lv_lload hx hb d_X_cosineOf_112 (lv_at hl 0 rfl) ?_
      refine lv_l2i hx hb d_X_cosineOf_114 (v := (lZ (tt_cc (tt_cs n))).toInt32) rfl ?_
      refine tq_ti (show _ = (iZ (tt_cos n)) from ((lZ_i _).trans (by unfold tt_cos; rw [if_neg (fun h => h.elim h7 h8)]))) ?_
      exact kk _
    · have h8 := (nI_eq (by omega) (by decide)).mp h8
      refine lv_lload hx hb d_X_cosineOf_106 (lv_at hl 0 rfl) ?_
      refine lv_lneg hx hb d_X_cosineOf_108 ?_
      refine tq_tl (show _ = (lZ (- tt_cc (tt_cs n))) from lZ_neg _) ?_
      refine lv_goto hx hb d_X_cosineOf_109 (tgt := 114) (by decide) ?_
      refine lv_l2i hx hb d_X_cosineOf_114 (v := (lZ (- tt_cc (tt_cs n))).toInt32) rfl ?_
      refine tq_ti (show _ = (iZ (tt_cos n)) from ((lZ_i _).trans (by unfold tt_cos; rw [if_pos (Or.inr h8)]))) ?_
      exact kk _
end G14
set_option maxHeartbeats 4000000 in
set_option maxRecDepth 100000 in
theorem c_X_cosineOf (l : Launch) {n : Nat} (hn : n < 281474976710656) : Met l y_X_cosineOf (wT y_X_cosineOf b_X_cosineOf 15 (some .int)) (rP 0 0) (tb (wN) [.long (lN n)]) (tq_P (some (.int (iZ (tt_cos n))))) 0 0 tq_n := by
  refine Met.ofW (cc := b_X_cosineOf) (maxL := 15) (ret := (some .int)) (by decide) rfl ?_
  intro p e s m args below meth c s₁ B hml hv
  obtain ⟨rfl, hv⟩ := hv
  have hx := B.exec
  have hb := B.bytes
  have hr := B.returns
  have hts := atoms_spec (ws := wT y_X_cosineOf b_X_cosineOf 15 (some .int)) B.pre
  have hT : ∀ w ∈ TT, w ∈ wT y_X_cosineOf b_X_cosineOf 15 (some .int) := wT_T
  have hown : s.vm.findClass RX = some m.cls := findClass_of_methodNamed B.named
  have hlocks := B.notSynchronized
  have hl := lv_entry ([.long (lN n)]) (n := 15) (Nat.le_of_ble_eq_true rfl)
  rw [lg_entry_eq]
  generalize (lg_sl ([.long (lN n)]) ++ List.replicate (15 - (lg_sl ([.long (lN n)])).length) Slot.unset).toArray = ls at hl ⊢
  have hl : lv_has ls 15 [(0, .long (lN n))] := hl
  refine lv_lload_n hx hb d_X_cosineOf_0 rfl (lv_at hl 0 rfl) ?_
  refine lv_bipush hx hb d_X_cosineOf_1 (v := (nI 46)) rfl ?_
  refine lv_lshr hx hb d_X_cosineOf_3 (v := ((lN n) >>> ((nI 46).toInt64 &&& 63))) rfl ?_
  refine tq_tl (show _ = (lN (n / 70368744177664)) from lN_shr46 (by omega)) ?_
  refine lv_l2i hx hb d_X_cosineOf_4 (v := (lN (n / 70368744177664)).toInt32) rfl ?_
  refine tq_ti (show _ = (nI (n / 70368744177664)) from lN_i _) ?_
  refine lv_istore_n hx hb d_X_cosineOf_5 rfl hl (by decide) (lv' := [(2, .int (nI (n / 70368744177664))), (0, .long (lN n))]) rfl (fun ls hl => ?_)
  refine lv_lload_n hx hb d_X_cosineOf_6 rfl (lv_at hl 1 rfl) ?_
  refine lv_bipush hx hb d_X_cosineOf_7 (v := (nI 16)) rfl ?_
  refine lv_lshr hx hb d_X_cosineOf_9 (v := ((lN n) >>> ((nI 16).toInt64 &&& 63))) rfl ?_
  refine tq_tl (show _ = (lN (n / 65536)) from lN_shr16 (by omega)) ?_
  refine lv_ldc2 hx hb (v := (lN 1073741823)) hown (hts _ (hT _ k_X_175)) d_X_cosineOf_10 ?_
  refine lv_land hx hb d_X_cosineOf_13 ?_
  refine tq_tl (show _ = (lN (n / 65536 % 1073741824)) from lN_mask30 (by omega)) ?_
  refine lv_lstore_n hx hb d_X_cosineOf_14 rfl hl (by decide) (lv' := [(3, .long (lN (n / 65536 % 1073741824))), (2, .int (nI (n / 70368744177664))), (0, .long (lN n))]) rfl (fun ls hl => ?_)
  refine lv_iload_n hx hb d_X_cosineOf_15 rfl (lv_at hl 1 rfl) ?_
  refine lv_iconst hx hb d_X_cosineOf_16 (v := (nI 1)) rfl ?_
  refine lv_icmp_eq hx hb d_X_cosineOf_17 (tgt := 25) (by decide) (fun h1 => ?_) (fun h1 => ?_)
  · have h1 := (nI_eq (by omega) (by decide)).mp h1
    have e9 : tt_cr n = 1073741824 - n / 65536 % 1073741824 := by unfold tt_cr; rw [if_pos (by omega)]
    refine lv_ldc2 hx hb (v := (lN 1073741824)) hown (hts _ (hT _ k_X_177)) d_X_cosineOf_25 ?_
    refine lv_lload_n hx hb d_X_cosineOf_28 rfl (lv_at hl 0 rfl) ?_
    refine lv_lsub hx hb d_X_cosineOf_29 ?_
    refine tq_tl (show _ = (lN (tt_cr n)) from (e9 ▸ lN_sub (by omega))) ?_
    refine lv_lstore_n hx hb d_X_cosineOf_30 rfl hl (by decide) (lv' := [(3, .long (lN (tt_cr n))), (2, .int (nI (n / 70368744177664))), (0, .long (lN n))]) rfl (fun ls hl => ?_)
    exact l_X_cos hx hb hts hT hown hn (fun ls => W.iret hx hb hr (fun t ht hW => ⟨_, rfl, ⟨rfl, ht⟩⟩) (fun q hq => nomatch hq) d_X_cosineOf_115) hl
  · have h1 := mt (nI_eq (by omega) (by decide)).mpr h1
    refine lv_iload_n hx hb d_X_cosineOf_20 rfl (lv_at hl 1 rfl) ?_
    refine lv_iconst hx hb d_X_cosineOf_21 (v := (nI 3)) rfl ?_
    refine lv_icmp_ne hx hb d_X_cosineOf_22 (tgt := 31) (by decide) (fun h2 => ?_) (fun h2 => ?_)
    · have h2 := mt (nI_eq (by omega) (by decide)).mpr h2
      have e9 : tt_cr n = n / 65536 % 1073741824 := by unfold tt_cr; rw [if_neg (by omega)]
      rw [← e9] at hl
      exact l_X_cos hx hb hts hT hown hn (fun ls => W.iret hx hb hr (fun t ht hW => ⟨_, rfl, ⟨rfl, ht⟩⟩) (fun q hq => nomatch hq) d_X_cosineOf_115) hl
    · have h2 := (nI_eq (by omega) (by decide)).mp h2
      have e9 : tt_cr n = 1073741824 - n / 65536 % 1073741824 := by unfold tt_cr; rw [if_pos (by omega)]
      refine lv_ldc2 hx hb (v := (lN 1073741824)) hown (hts _ (hT _ k_X_177)) d_X_cosineOf_25 ?_
      refine lv_lload_n hx hb d_X_cosineOf_28 rfl (lv_at hl 0 rfl) ?_
      refine lv_lsub hx hb d_X_cosineOf_29 ?_
      refine tq_tl (show _ = (lN (tt_cr n)) from (e9 ▸ lN_sub (by omega))) ?_
      refine lv_lstore_n hx hb d_X_cosineOf_30 rfl hl (by decide) (lv' := [(3, .long (lN (tt_cr n))), (2, .int (nI (n / 70368744177664))), (0, .long (lN n))]) rfl (fun ls hl => ?_)
      exact l_X_cos hx hb hts hT hown hn (fun ls => W.iret hx hb hr (fun t ht hW => ⟨_, rfl, ⟨rfl, ht⟩⟩) (fun q hq => nomatch hq) d_X_cosineOf_115) hl
set_option maxHeartbeats 4000000 in
set_option maxRecDepth 100000 in
theorem c_X_partAt (l : Launch) (D : va_G) (ci : Nat → ClassId) (ad : Nat → Nat) (g : TS) (tc td : Int32) (tn : Nat → Int32) {i mm y : Nat} (hi : i < 8) (hmm : mm < 2147483648) (hy : y < 10) : Met l y_X_partAt (wT y_X_partAt b_X_partAt 6 (some .long)) (rP 1 34) (tb (wX D ci ad g tc td tn) [.ref (ad 0), .int (nI i), .int (nI mm), .int (nI y)]) (tq_P (some (.long (lZ (tt_prt g mm y i))))) 0 0 tq_n := by
  refine Met.ofW (cc := b_X_partAt) (maxL := 6) (ret := (some .long)) (by decide) rfl ?_
  intro p e s m args below meth c s₁ B hml hv
  obtain ⟨rfl, hK, hg, hX⟩ := hv
  have hx := B.exec
  have hb := B.bytes
  have hr := B.returns
  have hts := atoms_spec (ws := wT y_X_partAt b_X_partAt 6 (some .long)) B.pre
  have hT : ∀ w ∈ TT, w ∈ wT y_X_partAt b_X_partAt 6 (some .long) := wT_T
  have hown : s.vm.findClass RX = some m.cls := findClass_of_methodNamed B.named
  have hlocks := B.notSynchronized
  have hl := lv_entry ([.ref (ad 0), .int (nI i), .int (nI mm), .int (nI y)]) (n := 6) (Nat.le_of_ble_eq_true rfl)
  rw [lg_entry_eq]
  generalize (lg_sl ([.ref (ad 0), .int (nI i), .int (nI mm), .int (nI y)]) ++ List.replicate (6 - (lg_sl ([.ref (ad 0), .int (nI i), .int (nI mm), .int (nI y)])).length) Slot.unset).toArray = ls at hl ⊢
  have hl : lv_has ls 6 [(0, .ref (ad 0)), (1, .int (nI i)), (2, .int (nI mm)), (3, .int (nI y))] := hl
  have ha := (hg.2.1 i hi).1
  have hf := (hg.2.2.1 i hi y hy).1
  refine lv_aload_n hx hb d_X_partAt_0 rfl (lv_at hl 0 rfl) ?_
  refine va_get hx hb hts (fun w h => hT w (uX_in w h)) hown hK hX.1 0 rfl rfl 1 (by decide) (hts _ (hT _ k_X_9)) (fun _ h => h) rfl d_X_partAt_1 ?_
  refine lv_iload_n hx hb d_X_partAt_4 rfl (lv_at hl 1 rfl) ?_
  refine tq_iald hx hb hK hX.1 1 0 rfl rfl hi (by decide) d_X_partAt_5 ?_
  refine lv_i2l hx hb d_X_partAt_6 (v := (nI (tt_amp g i)).toInt64) rfl ?_
  refine tq_tl (show _ = (lN (tt_amp g i)) from nI_l (by omega)) ?_
  refine lv_aload_n hx hb d_X_partAt_7 rfl (lv_at hl 0 rfl) ?_
  refine va_get hx hb hts (fun w h => hT w (uX_in w h)) hown hK hX.1 0 rfl rfl 4 (by decide) (hts _ (hT _ k_X_22)) (fun _ h => h) rfl d_X_partAt_8 ?_
  refine lv_iload_n hx hb d_X_partAt_11 rfl (lv_at hl 1 rfl) ?_
  refine tq_aald hx hb hK hX.1 4 2 rfl rfl rfl hi (by decide) rfl d_X_partAt_12 ?_
  refine lv_iload_n hx hb d_X_partAt_13 rfl (lv_at hl 3 rfl) ?_
  refine tq_iald hx hb hK (hX.2.1 i hi) 0 0 rfl rfl hy (by decide) d_X_partAt_14 ?_
  refine lv_i2l hx hb d_X_partAt_15 (v := (nI (tt_fac g i y)).toInt64) rfl ?_
  refine tq_tl (show _ = (lN (tt_fac g i y)) from nI_l (by omega)) ?_
  refine lv_lmul hx hb d_X_partAt_16 ?_
  refine tq_tl (show _ = (lN (tt_amp g i * tt_fac g i y)) from lN_mul _ _) ?_
  refine lv_lstore hx hb d_X_partAt_17 hl (by decide) (lv' := [(4, .long (lN (tt_amp g i * tt_fac g i y))), (0, .ref (ad 0)), (1, .int (nI i)), (2, .int (nI mm)), (3, .int (nI y))]) rfl (fun ls hl => ?_)
  refine lv_lload hx hb d_X_partAt_19 (lv_at hl 0 rfl) ?_
  refine lv_aload_n hx hb d_X_partAt_21 rfl (lv_at hl 1 rfl) ?_
  refine lv_iload_n hx hb d_X_partAt_22 rfl (lv_at hl 2 rfl) ?_
  refine lv_iload_n hx hb d_X_partAt_23 rfl (lv_at hl 3 rfl) ?_
  refine lv_iload_n hx hb d_X_partAt_24 rfl (lv_at hl 4 rfl) ?_
  refine tq_V ⟨hx, hb, hml, hown, hts⟩ hT (c_X_positionAt l D ci ad g tc td tn hi hmm hy) lk_X_109 wX_mv ⟨hK, hg, hX⟩ (wX_rc ⟨hK, hg, hX⟩) rfl hl.1 rfl (Nat.le_of_ble_eq_true rfl) d_X_partAt_25 ⟨rfl, rfl, Nat.le_of_ble_eq_true rfl, Nat.le_of_ble_eq_true rfl⟩ ⟨Nat.zero_le _, Nat.zero_le _⟩ ?_
  refine tq_S ⟨hx, hb, hml, hown, hts⟩ hT (c_X_cosineOf l (tt_pos_lt g i mm y)) lk_X_115 wN_mv trivial rfl hl.1 rfl (Nat.le_of_ble_eq_true rfl) d_X_partAt_28 ⟨rfl, rfl, Nat.le_of_ble_eq_true rfl, Nat.le_of_ble_eq_true rfl⟩ ⟨Nat.zero_le _, Nat.zero_le _⟩ ?_
  have hc := tt_cos_in (tt_pos g i mm y)
  have hpr := tt_prd (tt_af_le hg hi hy) hc.1 hc.2
  refine lv_i2l hx hb d_X_partAt_31 (v := (iZ (tt_cos (tt_pos g i mm y))).toInt64) rfl ?_
  refine tq_tl (show _ = (lZ (tt_cos (tt_pos g i mm y))) from iZ_l (by omega) (by omega)) ?_
  refine lv_lmul hx hb d_X_partAt_32 ?_
  refine tq_tl (show _ = (lZ (((tt_amp g i * tt_fac g i y : Nat) : Int) * tt_cos (tt_pos g i mm y))) from (by rw [lN_lZ, lZ_mul])) ?_
  refine lv_bipush hx hb d_X_partAt_33 (v := (nI 16)) rfl ?_
  refine lv_lshr hx hb d_X_partAt_35 (v := ((lZ (((tt_amp g i * tt_fac g i y : Nat) : Int) * tt_cos (tt_pos g i mm y))) >>> ((nI 16).toInt64 &&& 63))) rfl ?_
  refine tq_tl (show _ = (lZ (tt_prt g mm y i)) from lZ_shr16 (by omega) (by omega)) ?_
  exact W.lret hx hb hr (fun t ht hW => ⟨_, rfl, ⟨rfl, ht⟩⟩) (fun q hq => nomatch hq) d_X_partAt_36
section G14b
variable {p : Program} {l : Launch} {e : Env} {R : Room} {s : State} {m : MethodId} {args : Array Value} {below : List Frame} {meth : Method} {c : Code} {H : Heap} {locs : List Loc} {cells slots : Nat} {Q : State → Prop} {Ts : List Cond}
variable {D : va_G} {ci : Nat → ClassId} {ad : Nat → Nat} {g : TS} {tc td : Int32} {tn : Nat → Int32}
set_option maxHeartbeats 4000000 in
set_option maxRecDepth 100000 in
theorem l_X_heightAt (hx : p.tables.exec = Jvm.exec) (hb : c.code = b_X_heightAt) (hts : ∀ w ∈ Ts, w.before args s = true) (hT : ∀ w ∈ TT, w ∈ Ts) (hown : s.vm.findClass RX = some m.cls) (hml : c.maxLocals = 6) (hK : tk D ci s) (hg : tt_ok g) (hX : tx D ci ad g tc td tn H) (hR : 1 + 1 ≤ R.frames ∧ 8 + (6 + 11) + 34 ≤ R.locals) (hf : cells ≤ R.cells ∧ slots ≤ R.slots) {mm y : Nat} (hmm : mm < 2147483648) (hy : y < 10)
    (kk : ∀ (ls : Array Slot), lv_has ls 6 [(5, .int (nI 8)), (3, .long (lZ (tt_sum g mm y 8))), (2, .int (nI y)), (0, .ref (ad 0)), (1, .int (nI mm))] → W p l e R s m args below meth c H locs cells slots Q (F0 m 47 ls [])) :
    ∀ (n k : Nat) (ls : Array Slot), k + n = 8 → lv_has ls 6 [(5, .int (nI k)), (3, .long (lZ (tt_sum g mm y k))), (2, .int (nI y)), (0, .ref (ad 0)), (1, .int (nI mm))] → W p l e R s m args below meth c H locs cells slots Q (F0 m 13 ls []) := by
  intro n
  induction n with
  | zero =>
    intro k ls hk hl
    obtain rfl : k = 8 := by omega
    refine lv_iload hx hb d_X_heightAt_13 (lv_at hl 0 rfl) ?_
    refine lv_bipush hx hb d_X_heightAt_15 (v := (nI 8)) rfl ?_
    refine lv_icmp_ge hx hb d_X_heightAt_17 (tgt := 47) (by decide) (fun _ => ?_) (fun hno => absurd (nI_le (Nat.le_refl 8) (by decide)) hno)
    exact kk ls hl
  | succ n ih =>
    intro k ls hk hl
    have hk8 : k < 8 := by omega
    have ha := (hg.2.1 k hk8).1
    refine lv_iload hx hb d_X_heightAt_13 (lv_at hl 0 rfl) ?_
    refine lv_bipush hx hb d_X_heightAt_15 (v := (nI 8)) rfl ?_
    refine lv_icmp_ge hx hb d_X_heightAt_17 (tgt := 47) (by decide) (fun hyes => absurd hyes (nI_ge hk8 (by decide))) (fun _ => ?_)
    refine lv_aload_n hx hb d_X_heightAt_20 rfl (lv_at hl 3 rfl) ?_
    refine va_get hx hb hts (fun w h => hT w (uX_in w h)) hown hK hX.1 0 rfl rfl 1 (by decide) (hts _ (hT _ k_X_9)) (fun _ h => h) rfl d_X_heightAt_21 ?_
    refine lv_iload hx hb d_X_heightAt_24 (lv_at hl 0 rfl) ?_
    refine tq_iald hx hb hK hX.1 1 0 rfl rfl hk8 (by decide) d_X_heightAt_26 ?_
    refine lv_if_eq hx hb d_X_heightAt_27 (tgt := 41) (by decide) (fun h1 => ?_) (fun h1 => ?_)
    · have h1 : tt_amp g k = 0 := (nI_eq (by omega) (by decide)).mp h1
      have e1 : tt_sum g mm y (k + 1) = tt_sum g mm y k := by show tt_sum g mm y k + tt_prt g mm y k = _; unfold tt_prt; rw [h1]; simp
      refine lv_iinc hx hb d_X_heightAt_41 hl (k := 0) rfl (v := (nI (k + 1))) (by rw [show Int32.ofInt 1 = 1 from rfl]; exact nI_1 k) (by decide) (lv' := [(5, .int (nI (k + 1))), (3, .long (lZ (tt_sum g mm y k))), (2, .int (nI y)), (0, .ref (ad 0)), (1, .int (nI mm))]) rfl (fun ls hl => ?_)
      refine lv_goto hx hb d_X_heightAt_44 (tgt := 13) (by decide) ?_
      rw [← e1] at hl
      exact ih (k + 1) ls (by omega) hl
    · refine lv_lload_n hx hb d_X_heightAt_30 rfl (lv_at hl 1 rfl) ?_
      refine lv_aload_n hx hb d_X_heightAt_31 rfl (lv_at hl 3 rfl) ?_
      refine lv_iload hx hb d_X_heightAt_32 (lv_at hl 0 rfl) ?_
      refine lv_iload_n hx hb d_X_heightAt_34 rfl (lv_at hl 4 rfl) ?_
      refine lv_iload_n hx hb d_X_heightAt_35 rfl (lv_at hl 2 rfl) ?_
      refine tq_V ⟨hx, hb, hml, hown, hts⟩ hT (c_X_partAt l D ci ad g tc td tn hk8 hmm hy) lk_X_189 wX_mv ⟨hK, hg, hX⟩ (wX_rc ⟨hK, hg, hX⟩) rfl hl.1 rfl (Nat.le_of_ble_eq_true rfl) d_X_heightAt_36 ⟨rfl, rfl, hR⟩ hf ?_
      refine lv_ladd hx hb d_X_heightAt_39 ?_
      refine tq_tl (show _ = (lZ (tt_sum g mm y (k + 1))) from lZ_add _ _) ?_
      refine lv_lstore_n hx hb d_X_heightAt_40 rfl hl (by decide) (lv' := [(3, .long (lZ (tt_sum g mm y (k + 1)))), (5, .int (nI k)), (2, .int (nI y)), (0, .ref (ad 0)), (1, .int (nI mm))]) rfl (fun ls hl => ?_)
      refine lv_iinc hx hb d_X_heightAt_41 hl (k := 1) rfl (v := (nI (k + 1))) (by rw [show Int32.ofInt 1 = 1 from rfl]; exact nI_1 k) (by decide) (lv' := [(5, .int (nI (k + 1))), (3, .long (lZ (tt_sum g mm y (k + 1)))), (2, .int (nI y)), (0, .ref (ad 0)), (1, .int (nI mm))]) rfl (fun ls hl => ?_)
      refine lv_goto hx hb d_X_heightAt_44 (tgt := 13) (by decide) ?_
      exact ih (k + 1) ls (by omega) hl
end G14b
set_option maxHeartbeats 4000000 in
set_option maxRecDepth 100000 in
theorem c_X_heightAt (l : Launch) (D : va_G) (ci : Nat → ClassId) (ad : Nat → Nat) (g : TS) (tc td : Int32) (tn : Nat → Int32) {mm : Nat} (hmm : mm < 2147483648) : Met l y_X_heightAt (wT y_X_heightAt b_X_heightAt 6 (some .int)) (rP 2 59) (tb (wX D ci ad g tc td tn) [.ref (ad 0), .int (nI mm)]) (tq_P (some (.int (iZ (tt_hgt g mm))))) 0 0 tq_n := by
  refine Met.ofW (cc := b_X_heightAt) (maxL := 6) (ret := (some .int)) (by decide) rfl ?_
  intro p e s m args below meth c s₁ B hml hv
  obtain ⟨rfl, hK, hg, hX⟩ := hv
  have hx := B.exec
  have hb := B.bytes
  have hr := B.returns
  have hts := atoms_spec (ws := wT y_X_heightAt b_X_heightAt 6 (some .int)) B.pre
  have hT : ∀ w ∈ TT, w ∈ wT y_X_heightAt b_X_heightAt 6 (some .int) := wT_T
  have hown : s.vm.findClass RX = some m.cls := findClass_of_methodNamed B.named
  have hlocks := B.notSynchronized
  have hl := lv_entry ([.ref (ad 0), .int (nI mm)]) (n := 6) (Nat.le_of_ble_eq_true rfl)
  rw [lg_entry_eq]
  generalize (lg_sl ([.ref (ad 0), .int (nI mm)]) ++ List.replicate (6 - (lg_sl ([.ref (ad 0), .int (nI mm)])).length) Slot.unset).toArray = ls at hl ⊢
  have hl : lv_has ls 6 [(0, .ref (ad 0)), (1, .int (nI mm))] := hl
  refine lv_aload_n hx hb d_X_heightAt_0 rfl (lv_at hl 0 rfl) ?_
  refine lv_iload_n hx hb d_X_heightAt_1 rfl (lv_at hl 1 rfl) ?_
  refine tq_V ⟨hx, hb, hml, hown, hts⟩ hT (c_X_yearOf l D ci ad g tc td tn hmm) lk_X_103 wX_mv ⟨hK, hg, hX⟩ (wX_rc ⟨hK, hg, hX⟩) rfl hl.1 rfl (Nat.le_of_ble_eq_true rfl) d_X_heightAt_2 ⟨rfl, rfl, Nat.le_of_ble_eq_true rfl, Nat.le_of_ble_eq_true rfl⟩ ⟨Nat.zero_le _, Nat.zero_le _⟩ ?_
  have hy := tt_yr_lt g mm
  refine lv_istore_n hx hb d_X_heightAt_5 rfl hl (by decide) (lv' := [(2, .int (nI (tt_yr g mm))), (0, .ref (ad 0)), (1, .int (nI mm))]) rfl (fun ls hl => ?_)
  refine lv_ldc2 hx hb (v := (lN 536870912)) hown (hts _ (hT _ k_X_187)) d_X_heightAt_6 ?_
  refine tq_tl (show _ = (lZ (tt_sum g mm (tt_yr g mm) 0)) from rfl) ?_
  refine lv_lstore_n hx hb d_X_heightAt_9 rfl hl (by decide) (lv' := [(3, .long (lZ (tt_sum g mm (tt_yr g mm) 0))), (2, .int (nI (tt_yr g mm))), (0, .ref (ad 0)), (1, .int (nI mm))]) rfl (fun ls hl => ?_)
  refine lv_iconst hx hb d_X_heightAt_10 (v := (nI 0)) rfl ?_
  refine lv_istore hx hb d_X_heightAt_11 hl (by decide) (lv' := [(5, .int (nI 0)), (3, .long (lZ (tt_sum g mm (tt_yr g mm) 0))), (2, .int (nI (tt_yr g mm))), (0, .ref (ad 0)), (1, .int (nI mm))]) rfl (fun ls hl => ?_)
  refine l_X_heightAt hx hb hts hT hown hml hK hg hX ⟨Nat.le_of_ble_eq_true rfl, Nat.le_of_ble_eq_true rfl⟩ ⟨Nat.zero_le _, Nat.zero_le _⟩ hmm hy (fun ls hl => ?_) 8 0 ls rfl hl
  have hs := tt_sum_in hg (m := mm) hy 8 (Nat.le_refl _)
  refine lv_lload_n hx hb d_X_heightAt_47 rfl (lv_at hl 1 rfl) ?_
  refine lv_bipush hx hb d_X_heightAt_48 (v := (nI 30)) rfl ?_
  refine lv_lshr hx hb d_X_heightAt_50 (v := ((lZ (tt_sum g mm (tt_yr g mm) 8)) >>> ((nI 30).toInt64 &&& 63))) rfl ?_
  refine tq_tl (show _ = (lZ (tt_sum g mm (tt_yr g mm) 8 / 1073741824)) from lZ_shr30 (by omega) (by omega)) ?_
  refine lv_l2i hx hb d_X_heightAt_51 (v := (lZ (tt_sum g mm (tt_yr g mm) 8 / 1073741824)).toInt32) rfl ?_
  refine tq_ti (show _ = (iZ (tt_sum g mm (tt_yr g mm) 8 / 1073741824)) from lZ_i _) ?_
  refine lv_aload_n hx hb d_X_heightAt_52 rfl (lv_at hl 3 rfl) ?_
  refine va_get hx hb hts (fun w h => hT w (uX_in w h)) hown hK hX.1 0 rfl rfl 0 (by decide) (hts _ (hT _ k_X_56)) (fun _ h => h) rfl d_X_heightAt_53 ?_
  refine lv_iadd hx hb d_X_heightAt_56 ?_
  refine tq_ti (show _ = (iZ (tt_hgt g mm)) from iZ_add _ _) ?_
  exact W.iret hx hb hr (fun t ht hW => ⟨_, rfl, ⟨rfl, ht⟩⟩) (fun q hq => nomatch hq) d_X_heightAt_57
