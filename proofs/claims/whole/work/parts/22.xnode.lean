/-! node, days. Written by wip/whole/gen.py -/
theorem tx_wne {ci : Nat → ClassId} {ad : Nat → Nat} {g : TS} {tc td : Int32} {tn : Nat → Int32} (hD : tx_D ad) {k : Nat} (hk : 8 ≤ k) (hk2 : k < 24) : ∀ x ∈ tx_w ci ad g tc td tn, x.1 ≠ ad k := by
  intro x hx
  simp only [tx_w, List.mem_cons, List.not_mem_nil, or_false] at hx
  rcases hx with rfl | rfl | rfl | rfl | rfl | rfl | rfl | rfl <;> exact hD.ne (by omega) hk2 (by omega)
theorem tx_setF {D : va_G} {ci : Nat → ClassId} {ad : Nat → Nat} {g : TS} {tc td : Int32} {tn : Nat → Int32} {H H1 : Heap} (hD : tx_D ad) (h : tx D ci ad g tc td tn H) {i y f : Nat} (hi : i < 8) (hP : va_P D tcl [(ad (8 + i), .inl (ci 0, 10, .inl (fun j => nI (if j = y then f else tt_fac g i j))))] H1) (hq : ∀ q : Nat, q ≠ ad (8 + i) → H1[q]? = H[q]?) : tx D ci ad (ts_fac g i y f) tc td tn H1 := by
  refine ⟨vP_but h.1 (tx_wne hD (by omega) (by omega)) hq, fun k hk => ?_, fun k hk => vP_but (h.2.2 k hk) (fun x hx => by rw [List.mem_singleton.mp hx]; exact hD.ne (by omega) (by omega) (by omega)) hq⟩
  by_cases e : k = i
  · subst e
    have e9 : (fun j => nI (tt_fac (ts_fac g k y f) k j)) = fun j => nI (if j = y then f else tt_fac g k j) := by
      funext j
      show nI (if k = k ∧ j = y then f else tt_fac g k j) = _
      by_cases z : j = y <;> simp [z]
    rw [e9]
    exact hP
  · have e9 : (fun j => nI (tt_fac (ts_fac g i y f) k j)) = fun j => nI (tt_fac g k j) := by
      funext j
      show nI (if k = i ∧ j = y then f else tt_fac g k j) = _
      simp [e]
    rw [e9]
    exact vP_but (h.2.1 k hk) (fun x hx => by rw [List.mem_singleton.mp hx]; exact hD.ne (by omega) (by omega) (by omega)) hq
theorem tx_setS {D : va_G} {ci : Nat → ClassId} {ad : Nat → Nat} {g : TS} {tc td : Int32} {tn : Nat → Int32} {H H1 : Heap} (hD : tx_D ad) (h : tx D ci ad g tc td tn H) {i y f : Nat} (hi : i < 8) (hP : va_P D tcl [(ad (16 + i), .inl (ci 1, 10, .inr (.inl (fun j => lN (if j = y then f else tt_shf g i j)))))] H1) (hq : ∀ q : Nat, q ≠ ad (16 + i) → H1[q]? = H[q]?) : tx D ci ad (ts_shf g i y f) tc td tn H1 := by
  refine ⟨vP_but h.1 (tx_wne hD (by omega) (by omega)) hq, fun k hk => vP_but (h.2.1 k hk) (fun x hx => by rw [List.mem_singleton.mp hx]; exact hD.ne (by omega) (by omega) (by omega)) hq, fun k hk => ?_⟩
  by_cases e : k = i
  · subst e
    have e9 : (fun j => lN (tt_shf (ts_shf g k y f) k j)) = fun j => lN (if j = y then f else tt_shf g k j) := by
      funext j
      show lN (if k = k ∧ j = y then f else tt_shf g k j) = _
      by_cases z : j = y <;> simp [z]
    rw [e9]
    exact hP
  · have e9 : (fun j => lN (tt_shf (ts_shf g i y f) k j)) = fun j => lN (tt_shf g k j) := by
      funext j
      show lN (if k = i ∧ j = y then f else tt_shf g k j) = _
      simp [e]
    rw [e9]
    exact vP_but (h.2.2 k hk) (fun x hx => by rw [List.mem_singleton.mp hx]; exact hD.ne (by omega) (by omega) (by omega)) hq
theorem tt_db_lo (d : Nat → Nat) (y n : Nat) : ∀ j, j ≤ y → tt_db (fun k => if k = y then n else d k) j = tt_db d j := by
  intro j
  induction j with
  | zero => intro _; rfl
  | succ j ih =>
    intro h
    show tt_db _ j + (if j = y then n else d j) = tt_db d j + d j
    rw [ih (by omega), if_neg (by omega)]
theorem tt_db_hi (d : Nat → Nat) (y n : Nat) : ∀ j, y < j → tt_db (fun k => if k = y then n else d k) j + d y = tt_db d j + n := by
  intro j
  induction j with
  | zero => intro h; omega
  | succ j ih =>
    intro h
    show tt_db (fun k => if k = y then n else d k) j + (if j = y then n else d j) + d y = tt_db d j + d j + n
    by_cases e : j = y
    · subst e
      rw [if_pos rfl, tt_db_lo d j n j (Nat.le_refl _)]
      omega
    · rw [if_neg e]
      have := ih (by omega)
      omega
set_option maxHeartbeats 4000000 in
set_option maxRecDepth 100000 in
theorem c_X_node (l : Launch) (D : va_G) (ci : Nat → ClassId) (ad : Nat → Nat) (g : TS) (tc td : Int32) (tn : Nat → Int32) {i y f sh : Nat} (hi : i < 8) (hy : y < 10) (hf : f ≤ 81920) (hsh : sh < 281474976710656) : Met l y_X_node (wT y_X_node b_X_node 6 none) (rP 1 21) (tb (wXW D ci ad g tc td tn) [.ref (ad 0), .int (nI i), .int (nI y), .int (nI f), .long (lN sh)]) (qX D ci ad (ts_shf (ts_fac g i y f) i y sh) tc (-1) tn none) 0 0 (txF ad) := by
  refine Met.ofW (cc := b_X_node) (maxL := 6) (ret := none) (by decide) rfl ?_
  intro p e s m args below meth c s₁ B hml hv
  obtain ⟨rfl, hK, hX, hD⟩ := hv
  have hx := B.exec
  have hb := B.bytes
  have hr := B.returns
  have hts := atoms_spec (ws := wT y_X_node b_X_node 6 none) B.pre
  have hT : ∀ w ∈ TT, w ∈ wT y_X_node b_X_node 6 none := wT_T
  have hown : s.vm.findClass RX = some m.cls := findClass_of_methodNamed B.named
  have hlocks := B.notSynchronized
  have hl := lv_entry ([.ref (ad 0), .int (nI i), .int (nI y), .int (nI f), .long (lN sh)]) (n := 6) (Nat.le_of_ble_eq_true rfl)
  rw [lg_entry_eq]
  generalize (lg_sl ([.ref (ad 0), .int (nI i), .int (nI y), .int (nI f), .long (lN sh)]) ++ List.replicate (6 - (lg_sl ([.ref (ad 0), .int (nI i), .int (nI y), .int (nI f), .long (lN sh)])).length) Slot.unset).toArray = ls at hl ⊢
  have hl : lv_has ls 6 [(0, .ref (ad 0)), (1, .int (nI i)), (2, .int (nI y)), (3, .int (nI f)), (4, .long (lN sh))] := hl
  have hL : ∀ q ∈ ([] : List Loc), txF ad q.base := fun q hq => nomatch hq
  have hO : txO ad s.heap s.heap := txO.rf
  have ei : (nI i).toInt = i := nI_toInt (by omega)
  have ey : (nI y).toInt = y := nI_toInt (by omega)
  have ef : (nI f).toInt = f := nI_toInt (by omega)
  have es : (lN sh).toInt = sh := pk_lT (by omega)
  refine lv_iload_n hx hb d_X_node_0 rfl (lv_at hl 1 rfl) ?_
  refine tq_S ⟨hx, hb, hml, hown, hts⟩ hT (c_X_isConstituent l (nI i)) lk_X_59 wN_mv trivial rfl hl.1 rfl (Nat.le_of_ble_eq_true rfl) d_X_node_1 ⟨rfl, rfl, Nat.le_of_ble_eq_true rfl, Nat.le_of_ble_eq_true rfl⟩ ⟨Nat.zero_le _, Nat.zero_le _⟩ ?_
  refine lv_if_eq hx hb d_X_node_4 (tgt := 14) (by decide) (fun q1 => ?_) (fun q1 => ?_)
  · have q1 := zb_f q1
    exfalso
    omega
  · have q1 := zb_t q1
    refine lv_iload_n hx hb d_X_node_7 rfl (lv_at hl 2 rfl) ?_
    refine tq_S ⟨hx, hb, hml, hown, hts⟩ hT (c_X_isYear l (nI y)) lk_X_84 wN_mv trivial rfl hl.1 rfl (Nat.le_of_ble_eq_true rfl) d_X_node_8 ⟨rfl, rfl, Nat.le_of_ble_eq_true rfl, Nat.le_of_ble_eq_true rfl⟩ ⟨Nat.zero_le _, Nat.zero_le _⟩ ?_
    refine lv_if_ne hx hb d_X_node_11 (tgt := 24) (by decide) (fun q2 => ?_) (fun q2 => ?_)
    · have q2 := zb_t q2
      refine lv_iload_n hx hb d_X_node_24 rfl (lv_at hl 3 rfl) ?_
      refine lv_if_lt hx hb d_X_node_25 (tgt := 34) (by decide) (fun q3 => ?_) (fun q3 => ?_)
      · have q3 := iv_lt0.mp q3
        exfalso
        omega
      · have q3 := mt iv_lt0.mpr q3
        refine lv_iload_n hx hb d_X_node_28 rfl (lv_at hl 3 rfl) ?_
        refine lv_ldc hx hb (v := (nI 81920)) hown (hts _ (hT _ k_X_89)) d_X_node_29 ?_
        refine lv_icmp_le hx hb d_X_node_31 (tgt := 44) (by decide) (fun q4 => ?_) (fun q4 => ?_)
        · have q4 := Int32.le_iff_toInt_le.mp q4
          rw [nI_toInt (n := 81920) (by decide)] at q4
          refine lv_lload hx hb d_X_node_44 (lv_at hl 4 rfl) ?_
          refine tq_S ⟨hx, hb, hml, hown, hts⟩ hT (c_X_isPosition l (lN sh)) lk_X_75 wN_mv trivial rfl hl.1 rfl (Nat.le_of_ble_eq_true rfl) d_X_node_46 ⟨rfl, rfl, Nat.le_of_ble_eq_true rfl, Nat.le_of_ble_eq_true rfl⟩ ⟨Nat.zero_le _, Nat.zero_le _⟩ ?_
          refine lv_if_ne hx hb d_X_node_49 (tgt := 62) (by decide) (fun q5 => ?_) (fun q5 => ?_)
          · have q5 := zb_t q5
            refine lv_aload_n hx hb d_X_node_62 rfl (lv_at hl 0 rfl) ?_
            refine va_get hx hb hts (fun w h => hT w (uX_in w h)) hown hK hX.1 0 rfl rfl 4 (by decide) (hts _ (hT _ k_X_22)) (fun _ h => h) rfl d_X_node_63 ?_
            refine lv_iload_n hx hb d_X_node_66 rfl (lv_at hl 1 rfl) ?_
            refine tq_aald hx hb hK hX.1 4 2 rfl rfl rfl hi (by decide) rfl d_X_node_67 ?_
            refine lv_iload_n hx hb d_X_node_68 rfl (lv_at hl 2 rfl) ?_
            refine lv_iload_n hx hb d_X_node_69 rfl (lv_at hl 3 rfl) ?_
            refine tq_iast (F := txF ad) hx hb hK 0 (hX.2.1 i hi) rfl hy (by decide) ⟨8 + i, by omega, rfl⟩ hL d_X_node_70 (fun H1 locs1 hP1 hz1 hq1 hL => ?_)
            rw [up_nI] at hP1
            have hX := tx_setF hD hX hi hP1 hq1
            have hO := hO.tr (txO.put (k := 8 + i) (by omega) hz1 hq1)
            refine lv_aload_n hx hb d_X_node_71 rfl (lv_at hl 0 rfl) ?_
            refine va_get hx hb hts (fun w h => hT w (uX_in w h)) hown hK hX.1 0 rfl rfl 5 (by decide) (hts _ (hT _ k_X_27)) (fun _ h => h) rfl d_X_node_72 ?_
            refine lv_iload_n hx hb d_X_node_75 rfl (lv_at hl 1 rfl) ?_
            refine tq_aald hx hb hK hX.1 5 3 rfl rfl rfl hi (by decide) rfl d_X_node_76 ?_
            refine lv_iload_n hx hb d_X_node_77 rfl (lv_at hl 2 rfl) ?_
            refine lv_lload hx hb d_X_node_78 (lv_at hl 4 rfl) ?_
            refine tq_last (F := txF ad) hx hb hK 1 (hX.2.2 i hi) rfl hy (by decide) ⟨16 + i, by omega, rfl⟩ hL d_X_node_80 (fun H1 locs1 hP1 hz1 hq1 hL => ?_)
            rw [up_lN] at hP1
            have hX := tx_setS hD hX hi hP1 hq1
            have hO := hO.tr (txO.put (k := 16 + i) (by omega) hz1 hq1)
            refine lv_aload_n hx hb d_X_node_81 rfl (lv_at hl 0 rfl) ?_
            refine tq_VW ⟨hx, hb, hml, hown, hts⟩ hT (c_X_forgetTurns l D ci ad (ts_shf (ts_fac g i y f) i y sh) tc td tn) lk_X_81 wXW_mv ⟨hK, hX, hD⟩ (wXW_rc hK hX) rfl hl.1 rfl (Nat.le_of_ble_eq_true rfl) d_X_node_82 ⟨rfl, rfl, Nat.le_of_ble_eq_true rfl, Nat.le_of_ble_eq_true rfl⟩ ⟨Nat.zero_le _, Nat.zero_le _⟩ hL (fun v9 H1 locs1 hF9 hL => ?_)
            obtain ⟨rfl, hX, hO9⟩ := hF9
            have hO := hO.tr hO9
            exact W.vret hx hb hr (fun t ht hW => ⟨_, rfl, rfl, by rw [ht]; exact hX, by rw [ht]; exact hO⟩) hL d_X_node_85
          · have q5 := zb_f q5
            exfalso
            omega
        · have q4 := mt Int32.le_iff_toInt_le.mpr q4
          rw [nI_toInt (n := 81920) (by decide)] at q4
          exfalso
          omega
    · have q2 := zb_f q2
      exfalso
      omega
set_option maxHeartbeats 4000000 in
set_option maxRecDepth 100000 in
theorem x_X_nodeI (l : Launch) (htr : l.stackTraces = false) (D : va_G) (ci : Nat → ClassId) (ad : Nat → Nat) (g : TS) (tc td : Int32) (tn : Nat → Int32) (u v x : Int32) (z : Int64) (hv0 : ¬ ((0 ≤ u.toInt ∧ u.toInt < 8) ∧ 0 ≤ v.toInt ∧ v.toInt < 10)) : vx_Met l y_X_node (wT y_X_node b_X_node 6 none) ({ frames := 6, cells := 1, slots := 6, locals := 82 }) (tb (wXE D ci ad g tc td tn) [.ref (ad 0), .int u, .int v, .int x, .long z]) tw_N (vx_X (fun _ : Unit => True) (fun E _ _ => E = eI) (fun _ => False)) 1 6 tq_n := by
  refine vx_ofW (cc := b_X_node) (maxL := 6) (ret := none) (by decide) rfl ?_
  intro p e s m args below meth c s₁ B hml hno hv
  obtain ⟨rfl, ⟨hK, hg, hX⟩, hE⟩ := hv
  have hx := B.exec
  have hb := B.bytes
  have hr := B.returns
  have hts := atoms_spec (ws := wT y_X_node b_X_node 6 none) B.pre
  have hT : ∀ w ∈ TT, w ∈ wT y_X_node b_X_node 6 none := wT_T
  have hown : s.vm.findClass RX = some m.cls := findClass_of_methodNamed B.named
  have hlocks := B.notSynchronized
  have hl := lv_entry ([.ref (ad 0), .int u, .int v, .int x, .long z]) (n := 6) (Nat.le_of_ble_eq_true rfl)
  rw [lg_entry_eq]
  generalize (lg_sl ([.ref (ad 0), .int u, .int v, .int x, .long z]) ++ List.replicate (6 - (lg_sl ([.ref (ad 0), .int u, .int v, .int x, .long z])).length) Slot.unset).toArray = ls at hl ⊢
  have hl : lv_has ls 6 [(0, .ref (ad 0)), (1, .int u), (2, .int v), (3, .int x), (4, .long z)] := hl
  refine lv_iload_n hx hb d_X_node_0 rfl (lv_at hl 1 rfl) ?_
  refine tq_S ⟨hx, hb, hml, hown, hts⟩ hT (c_X_isConstituent l u) lk_X_59 wN_mv trivial rfl hl.1 rfl (Nat.le_of_ble_eq_true rfl) d_X_node_1 ⟨rfl, rfl, Nat.le_of_ble_eq_true rfl, Nat.le_of_ble_eq_true rfl⟩ ⟨Nat.zero_le _, Nat.zero_le _⟩ ?_
  refine lv_if_eq hx hb d_X_node_4 (tgt := 14) (by decide) (fun q1 => ?_) (fun q1 => ?_)
  · have q1 := zb_f q1
    exact tw_I hx hb htr hown (fun w h => hts w (hT w h)) hE (fun _ _ _ h => h) (is := 87) (text := "no such constituent or year") (by decide) va_S.rf (hl.1.trans hml.symm) d_X_node_14 d_X_node_17 d_X_node_18 d_X_node_20 d_X_node_23 hno ⟨by decide, by decide, by decide, by decide⟩ hlocks (fun t ha h1 h2 => ⟨(), trivial, rfl, h1, fun q hq _ => h2 q hq⟩) (fun z hz => nomatch hz) (Nat.le_refl _) (Nat.le_refl _)
  · have q1 := zb_t q1
    refine lv_iload_n hx hb d_X_node_7 rfl (lv_at hl 2 rfl) ?_
    refine tq_S ⟨hx, hb, hml, hown, hts⟩ hT (c_X_isYear l v) lk_X_84 wN_mv trivial rfl hl.1 rfl (Nat.le_of_ble_eq_true rfl) d_X_node_8 ⟨rfl, rfl, Nat.le_of_ble_eq_true rfl, Nat.le_of_ble_eq_true rfl⟩ ⟨Nat.zero_le _, Nat.zero_le _⟩ ?_
    refine lv_if_ne hx hb d_X_node_11 (tgt := 24) (by decide) (fun q2 => ?_) (fun q2 => ?_)
    · have q2 := zb_t q2
      exfalso
      omega
    · have q2 := zb_f q2
      exact tw_I hx hb htr hown (fun w h => hts w (hT w h)) hE (fun _ _ _ h => h) (is := 87) (text := "no such constituent or year") (by decide) va_S.rf (hl.1.trans hml.symm) d_X_node_14 d_X_node_17 d_X_node_18 d_X_node_20 d_X_node_23 hno ⟨by decide, by decide, by decide, by decide⟩ hlocks (fun t ha h1 h2 => ⟨(), trivial, rfl, h1, fun q hq _ => h2 q hq⟩) (fun z hz => nomatch hz) (Nat.le_refl _) (Nat.le_refl _)
set_option maxHeartbeats 4000000 in
set_option maxRecDepth 100000 in
theorem x_X_nodeA (l : Launch) (htr : l.stackTraces = false) (D : va_G) (ci : Nat → ClassId) (ad : Nat → Nat) (g : TS) (tc td : Int32) (tn : Nat → Int32) (u v x : Int32) (z : Int64) (hv1 : (0 ≤ u.toInt ∧ u.toInt < 8) ∧ 0 ≤ v.toInt ∧ v.toInt < 10) (hv0 : ¬ ((0 ≤ x.toInt ∧ x.toInt ≤ 81920) ∧ 0 ≤ z.toInt ∧ z.toInt < 281474976710656)) : vx_Met l y_X_node (wT y_X_node b_X_node 6 none) ({ frames := 6, cells := 1, slots := 6, locals := 82 }) (tb (wXE D ci ad g tc td tn) [.ref (ad 0), .int u, .int v, .int x, .long z]) tw_N (vx_X (fun _ : Unit => True) (fun E _ _ => E = eA) (fun _ => False)) 1 6 tq_n := by
  refine vx_ofW (cc := b_X_node) (maxL := 6) (ret := none) (by decide) rfl ?_
  intro p e s m args below meth c s₁ B hml hno hv
  obtain ⟨rfl, ⟨hK, hg, hX⟩, hE⟩ := hv
  have hx := B.exec
  have hb := B.bytes
  have hr := B.returns
  have hts := atoms_spec (ws := wT y_X_node b_X_node 6 none) B.pre
  have hT : ∀ w ∈ TT, w ∈ wT y_X_node b_X_node 6 none := wT_T
  have hown : s.vm.findClass RX = some m.cls := findClass_of_methodNamed B.named
  have hlocks := B.notSynchronized
  have hl := lv_entry ([.ref (ad 0), .int u, .int v, .int x, .long z]) (n := 6) (Nat.le_of_ble_eq_true rfl)
  rw [lg_entry_eq]
  generalize (lg_sl ([.ref (ad 0), .int u, .int v, .int x, .long z]) ++ List.replicate (6 - (lg_sl ([.ref (ad 0), .int u, .int v, .int x, .long z])).length) Slot.unset).toArray = ls at hl ⊢
  have hl : lv_has ls 6 [(0, .ref (ad 0)), (1, .int u), (2, .int v), (3, .int x), (4, .long z)] := hl
  refine lv_iload_n hx hb d_X_node_0 rfl (lv_at hl 1 rfl) ?_
  refine tq_S ⟨hx, hb, hml, hown, hts⟩ hT (c_X_isConstituent l u) lk_X_59 wN_mv trivial rfl hl.1 rfl (Nat.le_of_ble_eq_true rfl) d_X_node_1 ⟨rfl, rfl, Nat.le_of_ble_eq_true rfl, Nat.le_of_ble_eq_true rfl⟩ ⟨Nat.zero_le _, Nat.zero_le _⟩ ?_
  refine lv_if_eq hx hb d_X_node_4 (tgt := 14) (by decide) (fun q1 => ?_) (fun q1 => ?_)
  · have q1 := zb_f q1
    exfalso
    omega
  · have q1 := zb_t q1
    refine lv_iload_n hx hb d_X_node_7 rfl (lv_at hl 2 rfl) ?_
    refine tq_S ⟨hx, hb, hml, hown, hts⟩ hT (c_X_isYear l v) lk_X_84 wN_mv trivial rfl hl.1 rfl (Nat.le_of_ble_eq_true rfl) d_X_node_8 ⟨rfl, rfl, Nat.le_of_ble_eq_true rfl, Nat.le_of_ble_eq_true rfl⟩ ⟨Nat.zero_le _, Nat.zero_le _⟩ ?_
    refine lv_if_ne hx hb d_X_node_11 (tgt := 24) (by decide) (fun q2 => ?_) (fun q2 => ?_)
    · have q2 := zb_t q2
      refine lv_iload_n hx hb d_X_node_24 rfl (lv_at hl 3 rfl) ?_
      refine lv_if_lt hx hb d_X_node_25 (tgt := 34) (by decide) (fun q3 => ?_) (fun q3 => ?_)
      · have q3 := iv_lt0.mp q3
        exact tw_A hx hb htr hown (fun w h => hts w (hT w h)) hE (fun _ _ _ h => h) (is := 90) (text := "no such factor") (by decide) va_S.rf (hl.1.trans hml.symm) d_X_node_34 d_X_node_37 d_X_node_38 d_X_node_40 d_X_node_43 hno ⟨by decide, by decide, by decide, by decide⟩ hlocks (fun t ha h1 h2 => ⟨(), trivial, rfl, h1, fun q hq _ => h2 q hq⟩) (fun z hz => nomatch hz) (Nat.le_refl _) (Nat.le_refl _)
      · have q3 := mt iv_lt0.mpr q3
        refine lv_iload_n hx hb d_X_node_28 rfl (lv_at hl 3 rfl) ?_
        refine lv_ldc hx hb (v := (nI 81920)) hown (hts _ (hT _ k_X_89)) d_X_node_29 ?_
        refine lv_icmp_le hx hb d_X_node_31 (tgt := 44) (by decide) (fun q4 => ?_) (fun q4 => ?_)
        · have q4 := Int32.le_iff_toInt_le.mp q4
          rw [nI_toInt (n := 81920) (by decide)] at q4
          refine lv_lload hx hb d_X_node_44 (lv_at hl 4 rfl) ?_
          refine tq_S ⟨hx, hb, hml, hown, hts⟩ hT (c_X_isPosition l z) lk_X_75 wN_mv trivial rfl hl.1 rfl (Nat.le_of_ble_eq_true rfl) d_X_node_46 ⟨rfl, rfl, Nat.le_of_ble_eq_true rfl, Nat.le_of_ble_eq_true rfl⟩ ⟨Nat.zero_le _, Nat.zero_le _⟩ ?_
          refine lv_if_ne hx hb d_X_node_49 (tgt := 62) (by decide) (fun q5 => ?_) (fun q5 => ?_)
          · have q5 := zb_t q5
            exfalso
            omega
          · have q5 := zb_f q5
            exact tw_A hx hb htr hown (fun w h => hts w (hT w h)) hE (fun _ _ _ h => h) (is := 92) (text := "no such shift") (by decide) va_S.rf (hl.1.trans hml.symm) d_X_node_52 d_X_node_55 d_X_node_56 d_X_node_58 d_X_node_61 hno ⟨by decide, by decide, by decide, by decide⟩ hlocks (fun t ha h1 h2 => ⟨(), trivial, rfl, h1, fun q hq _ => h2 q hq⟩) (fun z hz => nomatch hz) (Nat.le_refl _) (Nat.le_refl _)
        · have q4 := mt Int32.le_iff_toInt_le.mpr q4
          rw [nI_toInt (n := 81920) (by decide)] at q4
          exact tw_A hx hb htr hown (fun w h => hts w (hT w h)) hE (fun _ _ _ h => h) (is := 90) (text := "no such factor") (by decide) va_S.rf (hl.1.trans hml.symm) d_X_node_34 d_X_node_37 d_X_node_38 d_X_node_40 d_X_node_43 hno ⟨by decide, by decide, by decide, by decide⟩ hlocks (fun t ha h1 h2 => ⟨(), trivial, rfl, h1, fun q hq _ => h2 q hq⟩) (fun z hz => nomatch hz) (Nat.le_refl _) (Nat.le_refl _)
    · have q2 := zb_f q2
      exfalso
      omega
section G22
variable {p : Program} {l : Launch} {e : Env} {R : Room} {s : State} {m : MethodId} {args : Array Value} {below : List Frame} {meth : Method} {c : Code} {cells slots : Nat} {Q : State → Prop} {Ts : List Cond}
variable {D : va_G} {ci : Nat → ClassId} {ad : Nat → Nat} {g : TS} {tc td : Int32} {tn : Nat → Int32}
set_option maxHeartbeats 4000000 in
set_option maxRecDepth 100000 in
theorem l_X_days (hx : p.tables.exec = Jvm.exec) (hb : c.code = b_X_days) (hts : ∀ w ∈ Ts, w.before args s = true) (hT : ∀ w ∈ TT, w ∈ Ts) (hown : s.vm.findClass RX = some m.cls) (hK : tk D ci s) (hg : tt_ok g) (hD : tx_D ad) {H0 : Heap} {y n : Nat} (hy : y < 10) (hn : n ≤ 366)
    (kk : ∀ (H : Heap) (locs : List Loc) (ls : Array Slot), va_P D tcl [(ad 6, .inl (ci 0, 11, .inl (fun j => nI (if j < 11 then tt_fst (ts_day g y n) j else tt_fst g j))))] H → H.size = H0.size → (∀ q : Nat, q ≠ ad 6 → H[q]? = H0[q]?) → (∀ q ∈ locs, txF ad q.base) → lv_has ls 5 [(4, .int (nI 11)), (3, .int (nI (tt_day g y))), (0, .ref (ad 0)), (1, .int (nI y)), (2, .int (nI n))] → W p l e R s m args below meth c H locs cells slots Q (F0 m 96 ls [])) :
    ∀ (d k : Nat) (H : Heap) (locs : List Loc) (ls : Array Slot), k + d = 11 → y < k → va_P D tcl [(ad 0, .inr (0, [.int (iZ (tt_lev g)), .ref (ad 1), .ref (ad 2), .ref (ad 3), .ref (ad 4), .ref (ad 5), .ref (ad 6), .ref (ad 7), .int tc, .int td]))] H → va_P D tcl [(ad 6, .inl (ci 0, 11, .inl (fun j => nI (if j < k then tt_fst (ts_day g y n) j else tt_fst g j))))] H → H.size = H0.size → (∀ q : Nat, q ≠ ad 6 → H[q]? = H0[q]?) → (∀ q ∈ locs, txF ad q.base) → lv_has ls 5 [(4, .int (nI k)), (3, .int (nI (tt_day g y))), (0, .ref (ad 0)), (1, .int (nI y)), (2, .int (nI n))] → W p l e R s m args below meth c H locs cells slots Q (F0 m 66 ls []) := by
  intro d
  induction d with
  | zero =>
    intro k H locs ls hk hyk hB hA hz hq hL hl
    obtain rfl : k = 11 := by omega
    refine lv_iload hx hb d_X_days_66 (lv_at hl 0 rfl) ?_
    refine lv_bipush hx hb d_X_days_68 (v := (nI 10)) rfl ?_
    refine lv_icmp_gt hx hb d_X_days_70 (tgt := 96) (by decide) (fun _ => ?_) (fun hno => absurd (nI_lt (show 10 < 11 by decide) (by decide)) hno)
    exact kk H locs ls hA hz hq hL hl
  | succ d ih =>
    intro k H locs ls hk hyk hB hA hz hq hL hl
    have hdy := tt_db_hi (tt_day g) y n k hyk
    have hle := (tt_db_in hg.2.2.2 k (by omega)).2
    have hdd := hg.2.2.2 y hy
    refine lv_iload hx hb d_X_days_66 (lv_at hl 0 rfl) ?_
    refine lv_bipush hx hb d_X_days_68 (v := (nI 10)) rfl ?_
    refine lv_icmp_gt hx hb d_X_days_70 (tgt := 96) (by decide) (fun hyes => absurd hyes (nI_nlt (show k ≤ 10 by omega) (by decide))) (fun _ => ?_)
    refine lv_aload_n hx hb d_X_days_73 rfl (lv_at hl 2 rfl) ?_
    refine va_get hx hb hts (fun w h => hT w (uX_in w h)) hown hK hB 0 rfl rfl 6 (by decide) (hts _ (hT _ k_X_30)) (fun _ h => h) rfl d_X_days_74 ?_
    refine lv_iload hx hb d_X_days_77 (lv_at hl 0 rfl) ?_
    refine lv_dup2_11 hx hb d_X_days_79 rfl rfl ?_
    refine tq_iald hx hb hK hA 0 0 rfl rfl (show k < 11 by omega) (by decide) d_X_days_80 ?_
    refine tq_ti (show _ = (nI (tt_fst g k)) from (by show nI (if k < k then _ else _) = _; rw [if_neg (Nat.lt_irrefl k)])) ?_
    refine lv_iload_n hx hb d_X_days_81 rfl (lv_at hl 4 rfl) ?_
    refine lv_iload_n hx hb d_X_days_82 rfl (lv_at hl 1 rfl) ?_
    refine lv_isub hx hb d_X_days_83 ?_
    refine lv_sipush hx hb d_X_days_84 (v := (nI 1440)) rfl ?_
    refine lv_imul hx hb d_X_days_87 ?_
    refine lv_iadd hx hb d_X_days_88 ?_
    refine tq_ti (show _ = (nI (tt_fst (ts_day g y n) k)) from (by have e5 : tt_db (tt_day (ts_day g y n)) k = tt_db (fun j => if j = y then n else tt_day g j) k := rfl; rw [show nI 1440 = iZ 1440 from rfl, nI_iZ, nI_iZ, nI_iZ, nI_iZ, iZ_sub, iZ_mul, iZ_add]; congr 1; unfold tt_fst; omega)) ?_
    refine tq_iast (F := txF ad) hx hb hK 0 hA rfl (show k < 11 by omega) (by decide) ⟨6, by decide, rfl⟩ hL d_X_days_89 (fun H1 locs1 hP1 hz1 hq1 hL => ?_)
    have hA : va_P D tcl [(ad 6, .inl (ci 0, 11, .inl (fun j => nI (if j < k + 1 then tt_fst (ts_day g y n) j else tt_fst g j))))] H1 := vP_same hP1 (fun j _ => by unfold upd; by_cases e : j = k; rw [if_pos e, if_pos (by omega), e]; rw [if_neg e]; dsimp only; by_cases e2 : j < k; rw [if_pos e2, if_pos (by omega)]; rw [if_neg e2, if_neg (by omega)])
    have hB := vP_but hB (fun x hx => by rw [List.mem_singleton.mp hx]; exact hD.ne (i := 0) (j := 6) (by decide) (by decide) (by decide)) hq1
    refine lv_iinc hx hb d_X_days_90 hl (k := 0) rfl (v := (nI (k + 1))) (by rw [show Int32.ofInt 1 = 1 from rfl]; exact nI_1 k) (by decide) (lv' := [(4, .int (nI (k + 1))), (3, .int (nI (tt_day g y))), (0, .ref (ad 0)), (1, .int (nI y)), (2, .int (nI n))]) rfl (fun ls hl => ?_)
    refine lv_goto hx hb d_X_days_93 (tgt := 66) (by decide) ?_
    exact ih (k + 1) H1 locs1 ls (by omega) (by omega) hB hA (hz1.trans hz) (fun q h => (hq1 q h).trans (hq q h)) hL hl
end G22
def wXO (D : va_G) (ci : Nat → ClassId) (ad : Nat → Nat) (g : TS) (tc td : Int32) (tn : Nat → Int32) (U : State) (H : Heap) : Prop := tk D ci U ∧ tt_ok g ∧ tx D ci ad g tc td tn H ∧ tx_D ad
theorem wXO_mv {D : va_G} {ci : Nat → ClassId} {ad : Nat → Nat} {g : TS} {tc td : Int32} {tn : Nat → Int32} : tmov (wXO D ci ad g tc td tn) := fun _ _ _ hW h => ⟨tk.moved hW h.1, h.2⟩
set_option maxHeartbeats 4000000 in
set_option maxRecDepth 100000 in
theorem c_X_days (l : Launch) (D : va_G) (ci : Nat → ClassId) (ad : Nat → Nat) (g : TS) (tc td : Int32) (tn : Nat → Int32) {y n : Nat} (hy : y < 10) (hn : n = 365 ∨ n = 366) : Met l y_X_days (wT y_X_days b_X_days 5 (some .int)) (rP 1 21) (tb (wXO D ci ad g tc td tn) [.ref (ad 0), .int (nI y), .int (nI n)]) (qX D ci ad (ts_day g y n) tc (-1) tn (some (.int (nI (tt_day g y))))) 0 0 (txF ad) := by
  refine Met.ofW (cc := b_X_days) (maxL := 5) (ret := (some .int)) (by decide) rfl ?_
  intro p e s m args below meth c s₁ B hml hv
  obtain ⟨rfl, hK, hg, hX, hD⟩ := hv
  have hx := B.exec
  have hb := B.bytes
  have hr := B.returns
  have hts := atoms_spec (ws := wT y_X_days b_X_days 5 (some .int)) B.pre
  have hT : ∀ w ∈ TT, w ∈ wT y_X_days b_X_days 5 (some .int) := wT_T
  have hown : s.vm.findClass RX = some m.cls := findClass_of_methodNamed B.named
  have hlocks := B.notSynchronized
  have hl := lv_entry ([.ref (ad 0), .int (nI y), .int (nI n)]) (n := 5) (Nat.le_of_ble_eq_true rfl)
  rw [lg_entry_eq]
  generalize (lg_sl ([.ref (ad 0), .int (nI y), .int (nI n)]) ++ List.replicate (5 - (lg_sl ([.ref (ad 0), .int (nI y), .int (nI n)])).length) Slot.unset).toArray = ls at hl ⊢
  have hl : lv_has ls 5 [(0, .ref (ad 0)), (1, .int (nI y)), (2, .int (nI n))] := hl
  have hL : ∀ q ∈ ([] : List Loc), txF ad q.base := fun q hq => nomatch hq
  have hO : txO ad s.heap s.heap := txO.rf
  have ey : (nI y).toInt = y := nI_toInt (by omega)
  have en : (nI n).toInt = n := nI_toInt (by omega)
  have h1 := (tt_db_in hg.2.2.2 (y + 1) (by omega)).2
  have h2 : tt_db (tt_day g) (y + 1) = tt_db (tt_day g) y + tt_day g y := rfl
  have h3 := hg.2.2.2 y hy
  refine lv_iload_n hx hb d_X_days_0 rfl (lv_at hl 1 rfl) ?_
  refine tq_S ⟨hx, hb, hml, hown, hts⟩ hT (c_X_isYear l (nI y)) lk_X_84 wN_mv trivial rfl hl.1 rfl (Nat.le_of_ble_eq_true rfl) d_X_days_1 ⟨rfl, rfl, Nat.le_of_ble_eq_true rfl, Nat.le_of_ble_eq_true rfl⟩ ⟨Nat.zero_le _, Nat.zero_le _⟩ ?_
  refine lv_if_ne hx hb d_X_days_4 (tgt := 17) (by decide) (fun q1 => ?_) (fun q1 => ?_)
  · have q1 := zb_t q1
    refine lv_iload_n hx hb d_X_days_17 rfl (lv_at hl 2 rfl) ?_
    refine lv_sipush hx hb d_X_days_18 (v := (nI 365)) rfl ?_
    refine lv_icmp_eq hx hb d_X_days_21 (tgt := 41) (by decide) (fun q2 => ?_) (fun q2 => ?_)
    · have q2 := Int32.toInt_inj.symm.mp q2
      rw [nI_toInt (n := 365) (by decide)] at q2
      refine lv_aload_n hx hb d_X_days_41 rfl (lv_at hl 0 rfl) ?_
      refine va_get hx hb hts (fun w h => hT w (uX_in w h)) hown hK hX.1 0 rfl rfl 6 (by decide) (hts _ (hT _ k_X_30)) (fun _ h => h) rfl d_X_days_42 ?_
      refine lv_iload_n hx hb d_X_days_45 rfl (lv_at hl 1 rfl) ?_
      refine lv_iconst hx hb d_X_days_46 (v := (nI 1)) rfl ?_
      refine lv_iadd hx hb d_X_days_47 ?_
      refine tq_ti (show _ = (nI (y + 1)) from nI_add y 1) ?_
      refine tq_iald hx hb hK hX.1 6 0 rfl rfl (show y + 1 < 11 by omega) (by decide) d_X_days_48 ?_
      refine lv_aload_n hx hb d_X_days_49 rfl (lv_at hl 0 rfl) ?_
      refine va_get hx hb hts (fun w h => hT w (uX_in w h)) hown hK hX.1 0 rfl rfl 6 (by decide) (hts _ (hT _ k_X_30)) (fun _ h => h) rfl d_X_days_50 ?_
      refine lv_iload_n hx hb d_X_days_53 rfl (lv_at hl 1 rfl) ?_
      refine tq_iald hx hb hK hX.1 6 0 rfl rfl (show y < 11 by omega) (by decide) d_X_days_54 ?_
      refine lv_isub hx hb d_X_days_55 ?_
      refine tq_ti (show _ = (nI (tt_fst g (y + 1) - tt_fst g y)) from pk_sub (by unfold tt_fst; omega)) ?_
      refine lv_sipush hx hb d_X_days_56 (v := (nI 1440)) rfl ?_
      refine lv_idiv hx hb d_X_days_59 (by decide) ?_
      refine tq_ti (show _ = (nI (tt_day g y)) from (by rw [show nI 1440 = nI 1440 from rfl, pk_div (by unfold tt_fst; omega) (by decide) (by decide)]; congr 1; unfold tt_fst; omega)) ?_
      refine lv_istore_n hx hb d_X_days_60 rfl hl (by decide) (lv' := [(3, .int (nI (tt_day g y))), (0, .ref (ad 0)), (1, .int (nI y)), (2, .int (nI n))]) rfl (fun ls hl => ?_)
      refine lv_iload_n hx hb d_X_days_61 rfl (lv_at hl 2 rfl) ?_
      refine lv_iconst hx hb d_X_days_62 (v := (nI 1)) rfl ?_
      refine lv_iadd hx hb d_X_days_63 ?_
      refine tq_ti (show _ = (nI (y + 1)) from nI_add y 1) ?_
      refine lv_istore hx hb d_X_days_64 hl (by decide) (lv' := [(4, .int (nI (y + 1))), (3, .int (nI (tt_day g y))), (0, .ref (ad 0)), (1, .int (nI y)), (2, .int (nI n))]) rfl (fun ls hl => ?_)
      refine l_X_days hx hb hts hT hown hK hg hD (H0 := s.heap) hy (by omega) (fun H1 locs1 ls hA hz1 hq1 hL hl => ?_) (10 - y) (y + 1) s.heap [] ls (by omega) (by omega) (tx_one hX 0 rfl) (vP_same (tx_one hX 6 rfl) (fun j _ => by by_cases e : j < y + 1; rw [if_pos e]; exact (congrArg (fun z => nI (1440 * z)) (tt_db_lo (tt_day g) y n j (by omega))).symm; rw [if_neg e])) rfl (fun _ _ => rfl) hL hl
      have hA := vP_same (f' := fun j => nI (tt_fst (ts_day g y n) j)) hA (fun j hj => by rw [if_pos hj])
      have hX : tx D ci ad (ts_day g y n) tc td tn H1 := tx_set hD hX 6 (by decide) rfl rfl rfl hA (fun j hj => by rcases j with _ | _ | _ | _ | _ | _ | _ | _ | j <;> first | rfl | exact absurd rfl hj) hq1
      have hO := hO.tr (txO.put (k := 6) (by decide) hz1 hq1)
      refine lv_aload_n hx hb d_X_days_96 rfl (lv_at hl 2 rfl) ?_
      refine tq_VW ⟨hx, hb, hml, hown, hts⟩ hT (c_X_forgetTurns l D ci ad (ts_day g y n) tc td tn) lk_X_81 wXW_mv ⟨hK, hX, hD⟩ (wXW_rc hK hX) rfl hl.1 rfl (Nat.le_of_ble_eq_true rfl) d_X_days_97 ⟨rfl, rfl, Nat.le_of_ble_eq_true rfl, Nat.le_of_ble_eq_true rfl⟩ ⟨Nat.zero_le _, Nat.zero_le _⟩ hL (fun v9 H1 locs1 hF9 hL => ?_)
      obtain ⟨rfl, hX, hO9⟩ := hF9
      have hO := hO.tr hO9
      refine lv_iload_n hx hb d_X_days_100 rfl (lv_at hl 1 rfl) ?_
      exact W.iret hx hb hr (fun t ht hW => ⟨_, rfl, rfl, by rw [ht]; exact hX, by rw [ht]; exact hO⟩) hL d_X_days_101
    · have q2 := mt Int32.toInt_inj.symm.mpr q2
      rw [nI_toInt (n := 365) (by decide)] at q2
      refine lv_iload_n hx hb d_X_days_24 rfl (lv_at hl 2 rfl) ?_
      refine lv_sipush hx hb d_X_days_25 (v := (nI 366)) rfl ?_
      refine lv_icmp_eq hx hb d_X_days_28 (tgt := 41) (by decide) (fun q3 => ?_) (fun q3 => ?_)
      · have q3 := Int32.toInt_inj.symm.mp q3
        rw [nI_toInt (n := 366) (by decide)] at q3
        refine lv_aload_n hx hb d_X_days_41 rfl (lv_at hl 0 rfl) ?_
        refine va_get hx hb hts (fun w h => hT w (uX_in w h)) hown hK hX.1 0 rfl rfl 6 (by decide) (hts _ (hT _ k_X_30)) (fun _ h => h) rfl d_X_days_42 ?_
        refine lv_iload_n hx hb d_X_days_45 rfl (lv_at hl 1 rfl) ?_
        refine lv_iconst hx hb d_X_days_46 (v := (nI 1)) rfl ?_
        refine lv_iadd hx hb d_X_days_47 ?_
        refine tq_ti (show _ = (nI (y + 1)) from nI_add y 1) ?_
        refine tq_iald hx hb hK hX.1 6 0 rfl rfl (show y + 1 < 11 by omega) (by decide) d_X_days_48 ?_
        refine lv_aload_n hx hb d_X_days_49 rfl (lv_at hl 0 rfl) ?_
        refine va_get hx hb hts (fun w h => hT w (uX_in w h)) hown hK hX.1 0 rfl rfl 6 (by decide) (hts _ (hT _ k_X_30)) (fun _ h => h) rfl d_X_days_50 ?_
        refine lv_iload_n hx hb d_X_days_53 rfl (lv_at hl 1 rfl) ?_
        refine tq_iald hx hb hK hX.1 6 0 rfl rfl (show y < 11 by omega) (by decide) d_X_days_54 ?_
        refine lv_isub hx hb d_X_days_55 ?_
        refine tq_ti (show _ = (nI (tt_fst g (y + 1) - tt_fst g y)) from pk_sub (by unfold tt_fst; omega)) ?_
        refine lv_sipush hx hb d_X_days_56 (v := (nI 1440)) rfl ?_
        refine lv_idiv hx hb d_X_days_59 (by decide) ?_
        refine tq_ti (show _ = (nI (tt_day g y)) from (by rw [show nI 1440 = nI 1440 from rfl, pk_div (by unfold tt_fst; omega) (by decide) (by decide)]; congr 1; unfold tt_fst; omega)) ?_
        refine lv_istore_n hx hb d_X_days_60 rfl hl (by decide) (lv' := [(3, .int (nI (tt_day g y))), (0, .ref (ad 0)), (1, .int (nI y)), (2, .int (nI n))]) rfl (fun ls hl => ?_)
        refine lv_iload_n hx hb d_X_days_61 rfl (lv_at hl 2 rfl) ?_
        refine lv_iconst hx hb d_X_days_62 (v := (nI 1)) rfl ?_
        refine lv_iadd hx hb d_X_days_63 ?_
        refine tq_ti (show _ = (nI (y + 1)) from nI_add y 1) ?_
        refine lv_istore hx hb d_X_days_64 hl (by decide) (lv' := [(4, .int (nI (y + 1))), (3, .int (nI (tt_day g y))), (0, .ref (ad 0)), (1, .int (nI y)), (2, .int (nI n))]) rfl (fun ls hl => ?_)
        refine l_X_days hx hb hts hT hown hK hg hD (H0 := s.heap) hy (by omega) (fun H1 locs1 ls hA hz1 hq1 hL hl => ?_) (10 - y) (y + 1) s.heap [] ls (by omega) (by omega) (tx_one hX 0 rfl) (vP_same (tx_one hX 6 rfl) (fun j _ => by by_cases e : j < y + 1; rw [if_pos e]; exact (congrArg (fun z => nI (1440 * z)) (tt_db_lo (tt_day g) y n j (by omega))).symm; rw [if_neg e])) rfl (fun _ _ => rfl) hL hl
        have hA := vP_same (f' := fun j => nI (tt_fst (ts_day g y n) j)) hA (fun j hj => by rw [if_pos hj])
        have hX : tx D ci ad (ts_day g y n) tc td tn H1 := tx_set hD hX 6 (by decide) rfl rfl rfl hA (fun j hj => by rcases j with _ | _ | _ | _ | _ | _ | _ | _ | j <;> first | rfl | exact absurd rfl hj) hq1
        have hO := hO.tr (txO.put (k := 6) (by decide) hz1 hq1)
        refine lv_aload_n hx hb d_X_days_96 rfl (lv_at hl 2 rfl) ?_
        refine tq_VW ⟨hx, hb, hml, hown, hts⟩ hT (c_X_forgetTurns l D ci ad (ts_day g y n) tc td tn) lk_X_81 wXW_mv ⟨hK, hX, hD⟩ (wXW_rc hK hX) rfl hl.1 rfl (Nat.le_of_ble_eq_true rfl) d_X_days_97 ⟨rfl, rfl, Nat.le_of_ble_eq_true rfl, Nat.le_of_ble_eq_true rfl⟩ ⟨Nat.zero_le _, Nat.zero_le _⟩ hL (fun v9 H1 locs1 hF9 hL => ?_)
        obtain ⟨rfl, hX, hO9⟩ := hF9
        have hO := hO.tr hO9
        refine lv_iload_n hx hb d_X_days_100 rfl (lv_at hl 1 rfl) ?_
        exact W.iret hx hb hr (fun t ht hW => ⟨_, rfl, rfl, by rw [ht]; exact hX, by rw [ht]; exact hO⟩) hL d_X_days_101
      · have q3 := mt Int32.toInt_inj.symm.mpr q3
        rw [nI_toInt (n := 366) (by decide)] at q3
        exfalso
        omega
  · have q1 := zb_f q1
    exfalso
    omega
set_option maxHeartbeats 4000000 in
set_option maxRecDepth 100000 in
theorem x_X_daysI (l : Launch) (htr : l.stackTraces = false) (D : va_G) (ci : Nat → ClassId) (ad : Nat → Nat) (g : TS) (tc td : Int32) (tn : Nat → Int32) (u v : Int32) (hv0 : ¬ (0 ≤ u.toInt ∧ u.toInt < 10)) : vx_Met l y_X_days (wT y_X_days b_X_days 5 (some .int)) ({ frames := 6, cells := 1, slots := 6, locals := 82 }) (tb (wXE D ci ad g tc td tn) [.ref (ad 0), .int u, .int v]) tw_N (vx_X (fun _ : Unit => True) (fun E _ _ => E = eI) (fun _ => False)) 1 6 tq_n := by
  refine vx_ofW (cc := b_X_days) (maxL := 5) (ret := (some .int)) (by decide) rfl ?_
  intro p e s m args below meth c s₁ B hml hno hv
  obtain ⟨rfl, ⟨hK, hg, hX⟩, hE⟩ := hv
  have hx := B.exec
  have hb := B.bytes
  have hr := B.returns
  have hts := atoms_spec (ws := wT y_X_days b_X_days 5 (some .int)) B.pre
  have hT : ∀ w ∈ TT, w ∈ wT y_X_days b_X_days 5 (some .int) := wT_T
  have hown : s.vm.findClass RX = some m.cls := findClass_of_methodNamed B.named
  have hlocks := B.notSynchronized
  have hl := lv_entry ([.ref (ad 0), .int u, .int v]) (n := 5) (Nat.le_of_ble_eq_true rfl)
  rw [lg_entry_eq]
  generalize (lg_sl ([.ref (ad 0), .int u, .int v]) ++ List.replicate (5 - (lg_sl ([.ref (ad 0), .int u, .int v])).length) Slot.unset).toArray = ls at hl ⊢
  have hl : lv_has ls 5 [(0, .ref (ad 0)), (1, .int u), (2, .int v)] := hl
  refine lv_iload_n hx hb d_X_days_0 rfl (lv_at hl 1 rfl) ?_
  refine tq_S ⟨hx, hb, hml, hown, hts⟩ hT (c_X_isYear l u) lk_X_84 wN_mv trivial rfl hl.1 rfl (Nat.le_of_ble_eq_true rfl) d_X_days_1 ⟨rfl, rfl, Nat.le_of_ble_eq_true rfl, Nat.le_of_ble_eq_true rfl⟩ ⟨Nat.zero_le _, Nat.zero_le _⟩ ?_
  refine lv_if_ne hx hb d_X_days_4 (tgt := 17) (by decide) (fun q1 => ?_) (fun q1 => ?_)
  · have q1 := zb_t q1
    exfalso
    omega
  · have q1 := zb_f q1
    exact tw_I hx hb htr hown (fun w h => hts w (hT w h)) hE (fun _ _ _ h => h) (is := 94) (text := "no such year") (by decide) va_S.rf (hl.1.trans hml.symm) d_X_days_7 d_X_days_10 d_X_days_11 d_X_days_13 d_X_days_16 hno ⟨by decide, by decide, by decide, by decide⟩ hlocks (fun t ha h1 h2 => ⟨(), trivial, rfl, h1, fun q hq _ => h2 q hq⟩) (fun z hz => nomatch hz) (Nat.le_refl _) (Nat.le_refl _)
set_option maxHeartbeats 4000000 in
set_option maxRecDepth 100000 in
theorem x_X_daysA (l : Launch) (htr : l.stackTraces = false) (D : va_G) (ci : Nat → ClassId) (ad : Nat → Nat) (g : TS) (tc td : Int32) (tn : Nat → Int32) (u v : Int32) (hv1 : 0 ≤ u.toInt ∧ u.toInt < 10) (hv0 : ¬ (v.toInt = 365 ∨ v.toInt = 366)) : vx_Met l y_X_days (wT y_X_days b_X_days 5 (some .int)) ({ frames := 6, cells := 1, slots := 6, locals := 82 }) (tb (wXE D ci ad g tc td tn) [.ref (ad 0), .int u, .int v]) tw_N (vx_X (fun _ : Unit => True) (fun E _ _ => E = eA) (fun _ => False)) 1 6 tq_n := by
  refine vx_ofW (cc := b_X_days) (maxL := 5) (ret := (some .int)) (by decide) rfl ?_
  intro p e s m args below meth c s₁ B hml hno hv
  obtain ⟨rfl, ⟨hK, hg, hX⟩, hE⟩ := hv
  have hx := B.exec
  have hb := B.bytes
  have hr := B.returns
  have hts := atoms_spec (ws := wT y_X_days b_X_days 5 (some .int)) B.pre
  have hT : ∀ w ∈ TT, w ∈ wT y_X_days b_X_days 5 (some .int) := wT_T
  have hown : s.vm.findClass RX = some m.cls := findClass_of_methodNamed B.named
  have hlocks := B.notSynchronized
  have hl := lv_entry ([.ref (ad 0), .int u, .int v]) (n := 5) (Nat.le_of_ble_eq_true rfl)
  rw [lg_entry_eq]
  generalize (lg_sl ([.ref (ad 0), .int u, .int v]) ++ List.replicate (5 - (lg_sl ([.ref (ad 0), .int u, .int v])).length) Slot.unset).toArray = ls at hl ⊢
  have hl : lv_has ls 5 [(0, .ref (ad 0)), (1, .int u), (2, .int v)] := hl
  refine lv_iload_n hx hb d_X_days_0 rfl (lv_at hl 1 rfl) ?_
  refine tq_S ⟨hx, hb, hml, hown, hts⟩ hT (c_X_isYear l u) lk_X_84 wN_mv trivial rfl hl.1 rfl (Nat.le_of_ble_eq_true rfl) d_X_days_1 ⟨rfl, rfl, Nat.le_of_ble_eq_true rfl, Nat.le_of_ble_eq_true rfl⟩ ⟨Nat.zero_le _, Nat.zero_le _⟩ ?_
  refine lv_if_ne hx hb d_X_days_4 (tgt := 17) (by decide) (fun q1 => ?_) (fun q1 => ?_)
  · have q1 := zb_t q1
    refine lv_iload_n hx hb d_X_days_17 rfl (lv_at hl 2 rfl) ?_
    refine lv_sipush hx hb d_X_days_18 (v := (nI 365)) rfl ?_
    refine lv_icmp_eq hx hb d_X_days_21 (tgt := 41) (by decide) (fun q2 => ?_) (fun q2 => ?_)
    · have q2 := Int32.toInt_inj.symm.mp q2
      rw [nI_toInt (n := 365) (by decide)] at q2
      exfalso
      omega
    · have q2 := mt Int32.toInt_inj.symm.mpr q2
      rw [nI_toInt (n := 365) (by decide)] at q2
      refine lv_iload_n hx hb d_X_days_24 rfl (lv_at hl 2 rfl) ?_
      refine lv_sipush hx hb d_X_days_25 (v := (nI 366)) rfl ?_
      refine lv_icmp_eq hx hb d_X_days_28 (tgt := 41) (by decide) (fun q3 => ?_) (fun q3 => ?_)
      · have q3 := Int32.toInt_inj.symm.mp q3
        rw [nI_toInt (n := 366) (by decide)] at q3
        exfalso
        omega
      · have q3 := mt Int32.toInt_inj.symm.mpr q3
        rw [nI_toInt (n := 366) (by decide)] at q3
        exact tw_A hx hb htr hown (fun w h => hts w (hT w h)) hE (fun _ _ _ h => h) (is := 96) (text := "a year has 365 or 366 days") (by decide) va_S.rf (hl.1.trans hml.symm) d_X_days_31 d_X_days_34 d_X_days_35 d_X_days_37 d_X_days_40 hno ⟨by decide, by decide, by decide, by decide⟩ hlocks (fun t ha h1 h2 => ⟨(), trivial, rfl, h1, fun q hq _ => h2 q hq⟩) (fun z hz => nomatch hz) (Nat.le_refl _) (Nat.le_refl _)
  · have q1 := zb_f q1
    exfalso
    omega
