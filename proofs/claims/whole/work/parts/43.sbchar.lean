/-! the JDK's StringBuilder: room for more, one letter, a new one. Written by wip/whole/gen.py -/
section TGP
variable {p : Program} {l : Launch} {e : Env} {R : Room} {s : State} {m : MethodId} {args : Array Value} {below : List Frame} {meth : Method} {c : Code} {H : Heap} {locs : List Loc} {cells slots : Nat} {Q : State → Prop}
variable {pc : Nat} {ls : Array Slot} {rest st0 : List Value} {cc b : ByteArray} {nL i maxL n : Nat} {own C : String} {y : MethodName} {r : Option FieldType} {rm : Room} {Ts : List Cond} {K : State → Heap → Prop} {As : List Value} {rv : Option Value} {a0 : Addr}
theorem tg_Pp (S : CallFix p m c cc nL s args Ts own) (hT : ∀ w ∈ TT, w ∈ Ts) (hM : Met l y (wT y b maxL r) rm (tb K (.ref a0 :: As)) (tq_P rv) 0 0 tq_n) (k : tkP own i y b maxL r n) (hsel : (Cond.selects C y y).before #[] s = true) (hmv : tmov K) (hK : K s H) (hrc : ∃ cellB : Cell, H[a0]? = some cellB ∧ cellB.vm.isStatics = false ∧ s.vm.findClass C = some cellB.cls)
    (hn : As.length = n) (hsz : ls.size = nL) (hst : st0 = As.reverse ++ .ref a0 :: rest) (hW : (rest.map fun v => v.category).sum ≤ 8) (hd : decode cc pc = .ok (.invokevirtual i, 3)) (hR : rm.cells = 0 ∧ rm.slots = 0 ∧ rm.frames + 1 ≤ R.frames ∧ 8 + (maxL + 11) + rm.locals ≤ R.locals) (hf : cells ≤ R.cells ∧ slots ≤ R.slots)
    (kk : W p l e R s m args below meth c H locs cells slots Q (F0 m (pc + 3) ls (rv.toList ++ rest))) : W p l e R s m args below meth c H locs cells slots Q (F0 m pc ls st0) := by
  obtain ⟨k1, k2, k4, k5, k6, k7⟩ := k
  have ht := S.2.2.2.2
  have cw : CallW R s args own C i y b maxL r (wT y b maxL r) rm 0 0 n := by
    refine ⟨⟨hR.1, hR.2.1, hR.2.2.1, hR.2.2.2, pay_in ht (wT_in hT k5), List.mem_cons_self, ht _ (hT _ k5), ht _ (hT _ k4), k6, fun sig h => ?_, ht _ (hT _ k1)⟩, ht _ (hT _ k2), word_at (State.WarmedH.refl s) (Or.inl rfl) hsel⟩
    rw [h] at k7
    exact (Option.some.inj k7).symm
  exact tq_pure (va_runV S hM cw (tb_V hmv hK hrc) rfl hn hsz hst (lv_room hW) hd hf) kk
end TGP
theorem vP_hd {D : va_G} {cl : List vw_C} {x : Nat × va_E} {ws : va_W} {H : Heap} (h : va_P D cl (x :: ws) H) : va_P D cl [x] H := fun k q hk => by cases k with | zero => exact h 0 q hk | succ k => cases hk
theorem vP_tl {D : va_G} {cl : List vw_C} {x y : Nat × va_E} {H : Heap} (h : va_P D cl [x, y] H) : va_P D cl [y] H := fun k q hk => by cases k with | zero => exact h 1 q hk | succ k => cases hk
theorem sb_D {sz b v : Nat} {e1 e2 : va_E} (hb : sz ≤ b) (hv : sz ≤ v) (hn : b ≠ v) : va_D (aSz sz) [(b, e1), (v, e2)] := ⟨fun i j x y hi hj he => by match i, j, hi, hj with | 0, 0, _, _ => rfl | 1, 1, _, _ => rfl | 0, 1, rfl, rfl => exact absurd he hn | 1, 0, rfl, rfl => exact absurd he.symm hn, fun k x hk => by match k, hk with | 0, rfl => exact hb | 1, rfl => exact hv⟩
set_option maxHeartbeats 4000000 in
set_option maxRecDepth 100000 in
theorem c_A_ens (l : Launch) (D : va_G) (cB : ClassId) (sz b v n cap : Nat) (f : Nat → Int32) {q : Nat} (hcap : cap = 16 ∨ cap = 34) (hq : q ≤ 34) (hA9 : sb_A f) : Met l y_A_ens (wT y_A_ens b_A_ens 3 none) ({ frames := 3, cells := 1, slots := 34, locals := 86 }) (tb (wBA D cB sz b v n cap f) [.ref b, .int (nI q)]) (tq_Q (fun o9 H H1 => o9 = none ∧ ∃ v1 cap1 f1, va_P D scl (sb_w cB b v1 n cap1 f1) H1 ∧ va_D (aSz sz) (sb_w cB b v1 n cap1 f1) ∧ (cap1 = 16 ∨ cap1 = 34) ∧ q ≤ cap1 ∧ cap ≤ cap1 ∧ (∀ j, j < cap → f1 j = f j) ∧ sb_A f1 ∧ sO sz H H1)) 1 34 (aSz sz) := by
  refine va_MetF (cc := b_A_ens) (maxL := 3) (ret := none) (by decide +kernel) rfl ?_
  intro p e s m args below meth c s₁ B hml hv
  obtain ⟨rfl, hK, hC, hP, hD⟩ := hv
  have hx := B.exec
  have hb := B.bytes
  have hr := B.returns
  have hts := atoms_spec (ws := wT y_A_ens b_A_ens 3 none) B.pre
  have hT : ∀ w ∈ TT, w ∈ wT y_A_ens b_A_ens 3 none := wT_T
  have hown : s.vm.findClass RA = some m.cls := findClass_of_methodNamed B.named
  have hlocks := B.notSynchronized
  have hl := lv_entry ([.ref b, .int (nI q)]) (n := 3) (Nat.le_of_ble_eq_true rfl)
  rw [lg_entry_eq]
  generalize (lg_sl ([.ref b, .int (nI q)]) ++ List.replicate (3 - (lg_sl ([.ref b, .int (nI q)])).length) Slot.unset).toArray = ls at hl ⊢
  have hl : lv_has ls 3 [(0, .ref b), (1, .int (nI q))] := hl
  have hS : va_S (aSz sz) s.heap s.heap [] := va_S.rf
  refine lv_aload_n hx hb d_A_ens_0 rfl (lv_at hl 0 rfl) ?_
  refine va_get hx hb hts (fun w h => hT w (uS_in w h)) hown hK hP 0 rfl rfl 0 (by decide) (hts _ (hT _ k_A_15)) (fun _ h => h) rfl d_A_ens_1 ?_
  refine va_alen hx hb hK hP 1 0 rfl rfl (v := (nI cap)) rfl d_A_ens_4 ?_
  refine lv_aload_n hx hb d_A_ens_5 rfl (lv_at hl 0 rfl) ?_
  refine va_get hx hb hts (fun w h => hT w (uS_in w h)) hown hK hP 0 rfl rfl 1 (by decide) (hts _ (hT _ k_A_22)) (fun _ h => h) rfl d_A_ens_6 ?_
  refine lv_ishr hx hb d_A_ens_9 ?_
  refine tq_ti (show _ = (nI cap) from sb_shr0 _) ?_
  refine lv_istore_n hx hb d_A_ens_10 rfl hl (by decide) (lv' := [(2, .int (nI cap)), (0, .ref b), (1, .int (nI q))]) rfl (fun ls hl => ?_)
  refine lv_iload_n hx hb d_A_ens_11 rfl (lv_at hl 2 rfl) ?_
  refine lv_iload_n hx hb d_A_ens_12 rfl (lv_at hl 0 rfl) ?_
  refine lv_isub hx hb d_A_ens_13 ?_
  have e1 : (nI q - nI cap).toInt = (q : Int) - cap := pk_sub_toInt (by omega) (by omega)
  refine lv_if_le hx hb d_A_ens_14 (tgt := 38) (by decide) (fun h1 => ?_) (fun h1 => ?_)
  · have h1 : q ≤ cap := by rw [Int32.le_iff_toInt_le, e1, Int32.toInt_zero] at h1; omega
    refine W.widen (k := 1) (n := 34) (by decide) (by decide) ?_
    exact W.vret hx hb hr (fun t ht hW => ⟨_, rfl, rfl, v, cap, f, by rw [ht]; exact hP, hD, hcap, h1, Nat.le_refl _, fun _ _ => rfl, hA9, by rw [ht]; exact sO.rf⟩) hS.2.2 d_A_ens_38
  · have h1 : cap < q := by rw [Int32.le_iff_toInt_le, e1, Int32.toInt_zero] at h1; omega
    obtain rfl : cap = 16 := by omega
    refine lv_aload_n hx hb d_A_ens_17 rfl (lv_at hl 1 rfl) ?_
    refine lv_aload_n hx hb d_A_ens_18 rfl (lv_at hl 1 rfl) ?_
    refine va_get hx hb hts (fun w h => hT w (uS_in w h)) hown hK hP 0 rfl rfl 0 (by decide) (hts _ (hT _ k_A_15)) (fun _ h => h) rfl d_A_ens_19 ?_
    refine lv_aload_n hx hb d_A_ens_22 rfl (lv_at hl 1 rfl) ?_
    refine lv_iload_n hx hb d_A_ens_23 rfl (lv_at hl 2 rfl) ?_
    refine tg_Pp ⟨hx, hb, hml, hown, hts⟩ hT (c_A_newCap l D cB sz b v n 16 f (q := q) (by omega) h1) lk_A_104 (hC.2.2.2.2.2.1 _ (List.mem_of_getElem? (i := 1) rfl)) wBA_mv ⟨hK, hC, hP, hD⟩ (sb_rc hK hP rfl) rfl hl.1 rfl (Nat.le_of_ble_eq_true rfl) d_A_ens_24 ⟨rfl, rfl, Nat.le_of_ble_eq_true rfl, Nat.le_of_ble_eq_true rfl⟩ ⟨Nat.zero_le _, Nat.zero_le _⟩ ?_
    refine tq_ti (show _ = (nI 34) from (by rw [show 16 + max (q - 16) (16 + 2) = 34 by omega])) ?_
    refine lv_aload_n hx hb d_A_ens_27 rfl (lv_at hl 1 rfl) ?_
    refine va_get hx hb hts (fun w h => hT w (uS_in w h)) hown hK hP 0 rfl rfl 1 (by decide) (hts _ (hT _ k_A_22)) (fun _ h => h) rfl d_A_ens_28 ?_
    refine lv_ishl hx hb d_A_ens_31 ?_
    refine tq_ti (show _ = (nI 34) from sb_shl0 _) ?_
    have hbl : b < s.heap.size := (hP 0 _ rfl).lt
    have hb9 := hD.2 0 _ rfl
    have hv9 := hD.2 1 _ rfl
    refine tg_S ⟨hx, hb, hml, hown, hts⟩ hT (c_R_copyOf l D cB sz v 16 f hA9 hv9 (q := 34) (by decide) (by decide)) lk_A_108 (fun _ _ _ hW h => ⟨tkB_mv hW h.1, h.2⟩) ⟨hK, vP_tl hP, hC.2.2.2.2.2.2⟩ rfl hl.1 rfl (Nat.le_of_ble_eq_true rfl) d_A_ens_32 ⟨rfl, rfl, Nat.le_of_ble_eq_true rfl, Nat.le_of_ble_eq_true rfl⟩ ⟨Nat.le_of_ble_eq_true rfl, Nat.le_of_ble_eq_true rfl⟩ hS.2.2 (fun v9 H1 locs1 hF9 hL9 => ?_)
    obtain ⟨rfl, hz1, hk1, hP1⟩ := hF9
    have hP : va_P D scl [(b, .inr (0, sb_o v n)), (s.heap.size, .inl (cB, 34, .inl (va_cpy f (fun _ => 0) 0 0 16)))] H1 := vP_cons ((vP_hd hP).kept (fun k y hy => hk1 y.1 (by cases k with | zero => cases hy; exact hbl | succ k => cases hy))) hP1
    have hD : va_D (aSz sz) [(b, (Sum.inr (0, sb_o v n) : va_E)), (s.heap.size, .inl (cB, 34, .inl (va_cpy f (fun _ => 0) 0 0 16)))] := sb_D hb9 hC.2.2.2.2.2.2 (by omega)
    have hS : va_S (aSz sz) s.heap H1 locs1 := sO.S ⟨by omega, fun z hz => hk1 z (Nat.lt_of_lt_of_le hz hC.2.2.2.2.2.2)⟩ hL9
    refine va_put hx hb hts (fun w h => hT w (uS_in w h)) tSB tSB_ok nSB hown hK hP hD hS 0 rfl rfl 0 (by decide) (hts _ (hT _ k_A_15)) (fun _ h => h) rfl (ty := .array .byte) rfl rfl rfl (Nat.le_of_ble_eq_true rfl) d_A_ens_35 (fun H1 locs1 hP hD hS => ?_)
    have hP : va_P D scl (sb_w cB b s.heap.size n 34 (va_cpy f (fun _ => 0) 0 0 16)) H1 := hP
    have hD : va_D (aSz sz) (sb_w cB b s.heap.size n 34 (va_cpy f (fun _ => 0) 0 0 16)) := hD
    exact W.vret hx hb hr (fun t ht hW => ⟨_, rfl, rfl, s.heap.size, 34, _, by rw [ht]; exact hP, hD, Or.inr rfl, hq, by decide, fun j hj => sb_cpy0 hj, sb_Ac hA9 sb_A0, by rw [ht]; exact sO.of hC.2.2.2.2.2.2 hS⟩) hS.2.2 d_A_ens_38
set_option maxHeartbeats 4000000 in
set_option maxRecDepth 100000 in
theorem c_A_appC (l : Launch) (D : va_G) (cB : ClassId) (sz b : Nat) {L : List Nat} {ch : Nat} (hc : ch < 128) (h34 : L.length + 1 ≤ 34) : Met l y_A_appC (wT y_A_appC b_A_appC 2 (some (.object "java/lang/AbstractStringBuilder"))) ({ frames := 4, cells := 1, slots := 34, locals := 112 }) (tb (wS D cB sz b L) [.ref b, .int (nI ch)]) (sbQ D cB sz b (L ++ [ch]) (some (.ref b))) 1 34 (aSz sz) := by
  refine va_MetF (cc := b_A_appC) (maxL := 2) (ret := (some (.object "java/lang/AbstractStringBuilder"))) (by decide +kernel) rfl ?_
  intro p e s m args below meth c s₁ B hml hv
  obtain ⟨rfl, hK, hC, v, cap, f, hP, hD, hcap, hlen, hTX, hA9⟩ := hv
  have hx := B.exec
  have hb := B.bytes
  have hr := B.returns
  have hts := atoms_spec (ws := wT y_A_appC b_A_appC 2 (some (.object "java/lang/AbstractStringBuilder"))) B.pre
  have hT : ∀ w ∈ TT, w ∈ wT y_A_appC b_A_appC 2 (some (.object "java/lang/AbstractStringBuilder")) := wT_T
  have hown : s.vm.findClass RA = some m.cls := findClass_of_methodNamed B.named
  have hlocks := B.notSynchronized
  have hl := lv_entry ([.ref b, .int (nI ch)]) (n := 2) (Nat.le_of_ble_eq_true rfl)
  rw [lg_entry_eq]
  generalize (lg_sl ([.ref b, .int (nI ch)]) ++ List.replicate (2 - (lg_sl ([.ref b, .int (nI ch)])).length) Slot.unset).toArray = ls at hl ⊢
  have hl : lv_has ls 2 [(0, .ref b), (1, .int (nI ch))] := hl
  have hS : va_S (aSz sz) s.heap s.heap [] := va_S.rf
  refine lv_aload_n hx hb d_A_appC_0 rfl (lv_at hl 0 rfl) ?_
  refine lv_aload_n hx hb d_A_appC_1 rfl (lv_at hl 0 rfl) ?_
  refine va_get hx hb hts (fun w h => hT w (uS_in w h)) hown hK hP 0 rfl rfl 3 (by decide) (hts _ (hT _ k_A_79)) (fun _ h => h) rfl d_A_appC_2 ?_
  refine lv_iconst hx hb d_A_appC_5 (v := (nI 1)) rfl ?_
  refine lv_iadd hx hb d_A_appC_6 ?_
  refine tq_ti (show _ = (nI (L.length + 1)) from nI_add _ 1) ?_
  refine tg_P ⟨hx, hb, hml, hown, hts⟩ hT (c_A_ens l D cB sz b v L.length cap f (q := L.length + 1) hcap h34 hA9) lk_A_100 (hC.2.2.2.2.2.1 _ (List.mem_of_getElem? (i := 0) rfl)) wBA_mv ⟨hK, hC, hP, hD⟩ (sb_rc hK hP rfl) rfl hl.1 rfl (Nat.le_of_ble_eq_true rfl) d_A_appC_7 ⟨rfl, rfl, Nat.le_of_ble_eq_true rfl, Nat.le_of_ble_eq_true rfl⟩ ⟨Nat.le_of_ble_eq_true rfl, Nat.le_of_ble_eq_true rfl⟩ hS.2.2 (fun v9 H1 locs1 hF9 hL9 => ?_)
  obtain ⟨rfl, v1, cap1, f1, hP, hD, hcap1, hq1, hcc, hk9, hA1, hO9⟩ := hF9
  have hS : va_S (aSz sz) s.heap H1 locs1 := va_S.st hC.2.2.2.2.2.2 hS hO9 hL9
  have hC1 := kc_kept hC hO9.1 hO9.2
  refine lv_aload_n hx hb d_A_appC_10 rfl (lv_at hl 0 rfl) ?_
  refine tq_V ⟨hx, hb, hml, hown, hts⟩ hT (c_A_isL1 l D cB sz b (.ref v1) (.int 0) (.int (nI L.length))) lk_A_83 wB_mv ⟨hK, hC1, vP_hd hP⟩ (sb_rc hK hP rfl) rfl hl.1 rfl (Nat.le_of_ble_eq_true rfl) d_A_appC_11 ⟨rfl, rfl, Nat.le_of_ble_eq_true rfl, Nat.le_of_ble_eq_true rfl⟩ ⟨Nat.le_of_ble_eq_true rfl, Nat.le_of_ble_eq_true rfl⟩ ?_
  refine lv_if_eq hx hb d_A_appC_14 (tgt := 45) (by decide) (fun hyes => absurd hyes (by decide)) (fun _ => ?_)
  refine lv_iload_n hx hb d_A_appC_17 rfl (lv_at hl 1 rfl) ?_
  refine tq_S ⟨hx, hb, hml, hown, hts⟩ hT (c_N_canEnc l hc) lk_A_191 wN_mv trivial rfl hl.1 rfl (Nat.le_of_ble_eq_true rfl) d_A_appC_18 ⟨rfl, rfl, Nat.le_of_ble_eq_true rfl, Nat.le_of_ble_eq_true rfl⟩ ⟨Nat.le_of_ble_eq_true rfl, Nat.le_of_ble_eq_true rfl⟩ ?_
  refine lv_if_eq hx hb d_A_appC_21 (tgt := 45) (by decide) (fun hyes => absurd hyes (by decide)) (fun _ => ?_)
  refine lv_aload_n hx hb d_A_appC_24 rfl (lv_at hl 0 rfl) ?_
  refine va_get hx hb hts (fun w h => hT w (uS_in w h)) hown hK hP 0 rfl rfl 0 (by decide) (hts _ (hT _ k_A_15)) (fun _ h => h) rfl d_A_appC_25 ?_
  refine lv_aload_n hx hb d_A_appC_28 rfl (lv_at hl 0 rfl) ?_
  refine lv_dup hx hb d_A_appC_29 rfl ?_
  refine va_get hx hb hts (fun w h => hT w (uS_in w h)) hown hK hP 0 rfl rfl 3 (by decide) (hts _ (hT _ k_A_79)) (fun _ h => h) rfl d_A_appC_30 ?_
  refine lv_dup_x1 hx hb d_A_appC_33 rfl rfl ?_
  refine lv_iconst hx hb d_A_appC_34 (v := (nI 1)) rfl ?_
  refine lv_iadd hx hb d_A_appC_35 ?_
  refine tq_ti (show _ = (nI (L.length + 1)) from nI_add _ 1) ?_
  refine va_put hx hb hts (fun w h => hT w (uS_in w h)) tSB tSB_ok nSB hown hK hP hD hS 0 rfl rfl 3 (by decide) (hts _ (hT _ k_A_79)) (fun _ h => h) rfl (ty := .int) rfl rfl rfl (Nat.le_of_ble_eq_true rfl) d_A_appC_36 (fun H1 locs1 hP hD hS => ?_)
  have hP : va_P D scl (sb_w cB b v1 (L.length + 1) cap1 f1) H1 := hP
  have hD : va_D (aSz sz) (sb_w cB b v1 (L.length + 1) cap1 f1) := hD
  refine lv_iload_n hx hb d_A_appC_39 rfl (lv_at hl 1 rfl) ?_
  refine lv_i2b hx hb d_A_appC_40 (v := nI ch) (sb_nar ch hc).2.1 ?_
  refine va_bast hx hb hK hP hD hS 1 0 rfl rfl (vp_in_nI (show L.length < cap1 by omega) (by omega)) d_A_appC_41 (fun H1 locs1 hP hD hS => ?_)
  rw [nI_clamp (by omega), (sb_nar ch hc).1] at hP hD
  have hP : va_P D scl (sb_w cB b v1 (L.length + 1) cap1 (upd f1 L.length (nI ch))) H1 := hP
  have hD : va_D (aSz sz) (sb_w cB b v1 (L.length + 1) cap1 (upd f1 L.length (nI ch))) := hD
  refine lv_goto hx hb d_A_appC_42 (tgt := 75) (by decide) ?_
  refine lv_aload_n hx hb d_A_appC_75 rfl (lv_at hl 0 rfl) ?_
  have eL : (L ++ [ch]).length = L.length + 1 := by simp
  rw [← eL] at hP hD
  have hB : sbS D cB sz b (L ++ [ch]) H1 := ⟨v1, cap1, _, hP, hD, hcap1, by omega, tt_TX_add rfl (fun i hi => (hk9 i (by omega)).trans (hTX i hi)), sb_Au hA1 hc⟩
  have hO := sO.of hC.2.2.2.2.2.2 hS
  exact W.aret hx hb hr (Or.inl ⟨_, rfl⟩) (Or.inr ⟨_, rfl⟩) (fun t ht hW => ⟨_, rfl, rfl, by rw [ht]; exact hB, by rw [ht]; exact hO⟩) hS.2.2 d_A_appC_76
set_option maxHeartbeats 4000000 in
set_option maxRecDepth 100000 in
theorem c_S_appC (l : Launch) (D : va_G) (cB : ClassId) (sz b : Nat) {L : List Nat} {ch : Nat} (hc : ch < 128) (h34 : L.length + 1 ≤ 34) : Met l y_S_appC (wT y_S_appC b_S_appC 2 (some (.object "java/lang/StringBuilder"))) ({ frames := 5, cells := 1, slots := 34, locals := 133 }) (tb (wS D cB sz b L) [.ref b, .int (nI ch)]) (sbQ D cB sz b (L ++ [ch]) (some (.ref b))) 1 34 (aSz sz) := by
  refine va_MetF (cc := b_S_appC) (maxL := 2) (ret := (some (.object "java/lang/StringBuilder"))) (by decide +kernel) rfl ?_
  intro p e s m args below meth c s₁ B hml hv
  obtain ⟨rfl, hK, hC, hB⟩ := hv
  have hx := B.exec
  have hb := B.bytes
  have hr := B.returns
  have hts := atoms_spec (ws := wT y_S_appC b_S_appC 2 (some (.object "java/lang/StringBuilder"))) B.pre
  have hT : ∀ w ∈ TT, w ∈ wT y_S_appC b_S_appC 2 (some (.object "java/lang/StringBuilder")) := wT_T
  have hown : s.vm.findClass RS = some m.cls := findClass_of_methodNamed B.named
  have hlocks := B.notSynchronized
  have hl := lv_entry ([.ref b, .int (nI ch)]) (n := 2) (Nat.le_of_ble_eq_true rfl)
  rw [lg_entry_eq]
  generalize (lg_sl ([.ref b, .int (nI ch)]) ++ List.replicate (2 - (lg_sl ([.ref b, .int (nI ch)])).length) Slot.unset).toArray = ls at hl ⊢
  have hl : lv_has ls 2 [(0, .ref b), (1, .int (nI ch))] := hl
  have hS : va_S (aSz sz) s.heap s.heap [] := va_S.rf
  refine lv_aload_n hx hb d_S_appC_0 rfl (lv_at hl 0 rfl) ?_
  refine lv_iload_n hx hb d_S_appC_1 rfl (lv_at hl 1 rfl) ?_
  refine tg_U (hK.1 0 _ rfl).2 ⟨hx, hb, hml, hown, hts⟩ hT (c_A_appC l D cB sz b hc h34) lk_S_50 wS_mv ⟨hK, hC, hB⟩ (sbS_rc hK hB) rfl hl.1 rfl (Nat.le_of_ble_eq_true rfl) d_S_appC_2 ⟨rfl, rfl, Nat.le_of_ble_eq_true rfl, Nat.le_of_ble_eq_true rfl⟩ ⟨Nat.le_of_ble_eq_true rfl, Nat.le_of_ble_eq_true rfl⟩ hS.2.2 (fun v9 H1 locs1 hF9 hL9 => ?_)
  obtain ⟨rfl, hB, hO⟩ := hF9
  refine lv_pop hx hb d_S_appC_5 rfl ?_
  refine lv_aload_n hx hb d_S_appC_6 rfl (lv_at hl 0 rfl) ?_
  exact W.aret hx hb hr (Or.inl ⟨_, rfl⟩) (Or.inr ⟨_, rfl⟩) (fun t ht hW => ⟨_, rfl, rfl, by rw [ht]; exact hB, by rw [ht]; exact hO⟩) hL9 d_S_appC_7
set_option maxHeartbeats 4000000 in
set_option maxRecDepth 100000 in
theorem c_A_init (l : Launch) (D : va_G) (cB : ClassId) (sz b : Nat) (hb9 : sz ≤ b) : Met l y_A_init (wT y_A_init b_A_init 2 none) ({ frames := 1, cells := 1, slots := 16, locals := 20 }) (tb (wB D cB sz b [.null, .int 0, .int 0, .int (nI 0)]) [.ref b, .int (nI 16)]) (sbQ D cB sz b [] none) 1 16 (aSz sz) := by
  refine va_MetF (cc := b_A_init) (maxL := 2) (ret := none) (by decide +kernel) rfl ?_
  intro p e s m args below meth c s₁ B hml hv
  obtain ⟨rfl, hK, hC, hP⟩ := hv
  have hx := B.exec
  have hb := B.bytes
  have hr := B.returns
  have hts := atoms_spec (ws := wT y_A_init b_A_init 2 none) B.pre
  have hT : ∀ w ∈ TT, w ∈ wT y_A_init b_A_init 2 none := wT_T
  have hown : s.vm.findClass RA = some m.cls := findClass_of_methodNamed B.named
  have hlocks := B.notSynchronized
  have hl := lv_entry ([.ref b, .int (nI 16)]) (n := 2) (Nat.le_of_ble_eq_true rfl)
  rw [lg_entry_eq]
  generalize (lg_sl ([.ref b, .int (nI 16)]) ++ List.replicate (2 - (lg_sl ([.ref b, .int (nI 16)])).length) Slot.unset).toArray = ls at hl ⊢
  have hl : lv_has ls 2 [(0, .ref b), (1, .int (nI 16))] := hl
  have hS : va_S (aSz sz) s.heap s.heap [] := va_S.rf
  refine lv_aload_n hx hb d_A_init_0 rfl (lv_at hl 0 rfl) ?_
  refine W.objInit hx hb hown (hts _ (hT _ k_oi_A)) (hts _ (hT _ k_oi_i)) (hts _ (hT _ k_oi_c)) rfl (hl.1.trans hml.symm) rfl d_A_init_1 (Nat.le_of_ble_eq_true rfl) (Nat.le_of_ble_eq_true rfl) ?_
  show W p l e _ s m _ below meth c _ _ _ _ _ (F0 m 4 ls [])
  refine va_gets hx hb hC.1 hS hown (hts _ (hT _ k_A_18)) (fun _ h => h) d_A_init_4 ?_
  refine lv_if_eq hx hb d_A_init_7 (tgt := 25) (by decide) (fun hyes => absurd hyes (by decide)) (fun _ => ?_)
  refine lv_aload_n hx hb d_A_init_10 rfl (lv_at hl 0 rfl) ?_
  refine lv_iload_n hx hb d_A_init_11 rfl (lv_at hl 1 rfl) ?_
  refine va_newaK (atype := .byte) hx hb (hts _ (hT _ k_arr_byte)) rfl d_A_init_12 rfl (N := 16) (by decide) (by decide) (by decide) (Nat.le_of_ble_eq_true rfl) (Nat.le_of_ble_eq_true rfl) rfl (fun H1 cA e1 z1 o1 hAr hNm => ?_)
  obtain rfl : cA = cB := Option.some.inj (hNm.symm.trans (hK.2 0 _ rfl).2)
  show W p l e _ s m _ below meth c _ _ _ _ _ (F0 m 14 ls [.ref s.heap.size, .ref b])
  have hbl : b < s.heap.size := (hP 0 _ rfl).lt
  have hP : va_P D scl [(b, .inr (0, [.null, .int 0, .int 0, .int (nI 0)])), (s.heap.size, .inl (cA, 16, .inl (fun _ => 0)))] H1 := vP_cons (hP.kept (fun k y hy => o1 y.1 (by cases k with | zero => cases hy; exact hbl | succ k => cases hy))) (fun k x hx => by cases k with | zero => cases hx; exact e1 | succ k => cases hx)
  have hD : va_D (aSz sz) [(b, (Sum.inr (0, [.null, .int 0, .int 0, .int (nI 0)]) : va_E)), (s.heap.size, .inl (cA, 16, .inl (fun _ => 0)))] := sb_D hb9 hC.2.2.2.2.2.2 (by omega)
  have hS : va_S (aSz sz) s.heap H1 [] := sO.S ⟨by omega, fun z hz => o1 z (Nat.lt_of_lt_of_le hz hC.2.2.2.2.2.2)⟩ (fun _ h => nomatch h)
  refine va_put hx hb hts (fun w h => hT w (uS_in w h)) tSB tSB_ok nSB hown hK hP hD hS 0 rfl rfl 0 (by decide) (hts _ (hT _ k_A_15)) (fun _ h => h) rfl (ty := .array .byte) rfl rfl rfl (Nat.le_of_ble_eq_true rfl) d_A_init_14 (fun H1 locs1 hP hD hS => ?_)
  have hP : va_P D scl (sb_w cA b s.heap.size 0 16 (fun _ => 0)) H1 := hP
  have hD : va_D (aSz sz) (sb_w cA b s.heap.size 0 16 (fun _ => 0)) := hD
  refine lv_aload_n hx hb d_A_init_17 rfl (lv_at hl 0 rfl) ?_
  refine lv_iconst hx hb d_A_init_18 (v := (nI 0)) rfl ?_
  refine va_put hx hb hts (fun w h => hT w (uS_in w h)) tSB tSB_ok nSB hown hK hP hD hS 0 rfl rfl 1 (by decide) (hts _ (hT _ k_A_22)) (fun _ h => h) rfl (ty := .byte) rfl rfl rfl (Nat.le_of_ble_eq_true rfl) d_A_init_19 (fun H1 locs1 hP hD hS => ?_)
  have hP : va_P D scl (sb_w cA b s.heap.size 0 16 (fun _ => 0)) H1 := hP
  have hD : va_D (aSz sz) (sb_w cA b s.heap.size 0 16 (fun _ => 0)) := hD
  refine lv_goto hx hb d_A_init_22 (tgt := 38) (by decide) ?_
  exact W.vret hx hb hr (fun t ht hW => ⟨_, rfl, rfl, ⟨s.heap.size, 16, _, by rw [ht]; exact hP, hD, Or.inl rfl, Nat.zero_le _, fun i hi => absurd hi (Nat.not_lt_zero i), sb_A0⟩, by rw [ht]; exact sO.of hC.2.2.2.2.2.2 hS⟩) hS.2.2 d_A_init_38
set_option maxHeartbeats 4000000 in
set_option maxRecDepth 100000 in
theorem c_S_init (l : Launch) (D : va_G) (cB : ClassId) (sz b : Nat) (hb9 : sz ≤ b) : Met l y_S_init (wT y_S_init b_S_init 1 none) ({ frames := 2, cells := 1, slots := 16, locals := 41 }) (tb (wB D cB sz b [.null, .int 0, .int 0, .int (nI 0)]) [.ref b]) (sbQ D cB sz b [] none) 1 16 (aSz sz) := by
  refine va_MetF (cc := b_S_init) (maxL := 1) (ret := none) (by decide +kernel) rfl ?_
  intro p e s m args below meth c s₁ B hml hv
  obtain ⟨rfl, hK, hC, hP⟩ := hv
  have hx := B.exec
  have hb := B.bytes
  have hr := B.returns
  have hts := atoms_spec (ws := wT y_S_init b_S_init 1 none) B.pre
  have hT : ∀ w ∈ TT, w ∈ wT y_S_init b_S_init 1 none := wT_T
  have hown : s.vm.findClass RS = some m.cls := findClass_of_methodNamed B.named
  have hlocks := B.notSynchronized
  have hl := lv_entry ([.ref b]) (n := 1) (Nat.le_of_ble_eq_true rfl)
  rw [lg_entry_eq]
  generalize (lg_sl ([.ref b]) ++ List.replicate (1 - (lg_sl ([.ref b])).length) Slot.unset).toArray = ls at hl ⊢
  have hl : lv_has ls 1 [(0, .ref b)] := hl
  have hS : va_S (aSz sz) s.heap s.heap [] := va_S.rf
  refine lv_aload_n hx hb d_S_init_0 rfl (lv_at hl 0 rfl) ?_
  refine lv_bipush hx hb d_S_init_1 (v := (nI 16)) rfl ?_
  refine tg_I ⟨hx, hb, hml, hown, hts⟩ hT (c_A_init l D cB sz b hb9) lk_S_1 wB_mv ⟨hK, hC, hP⟩ rfl hl.1 rfl (Nat.le_of_ble_eq_true rfl) d_S_init_3 ⟨rfl, rfl, Nat.le_of_ble_eq_true rfl, Nat.le_of_ble_eq_true rfl⟩ ⟨Nat.le_of_ble_eq_true rfl, Nat.le_of_ble_eq_true rfl⟩ hS.2.2 (fun v9 H1 locs1 hF9 hL9 => ?_)
  obtain ⟨rfl, hB, hO⟩ := hF9
  exact W.vret hx hb hr (fun t ht hW => ⟨_, rfl, rfl, by rw [ht]; exact hB, by rw [ht]; exact hO⟩) hL9 d_S_init_6
