/-! a StringBuilder's world: the constants that the JDK's code reads; the builder and its bytes; calls that make cells -/
abbrev aSz (sz : Nat) : Nat → Prop := fun q => sz ≤ q
def kB : List (List Int32) := [[32, 72, 73, 71, 72, 32], [32, 76, 79, 87, 32]]
def kS (sz : Nat) (adK adV : Nat → Nat) (U : State) (H : Heap) : Prop := vk_S 2 [6, 5] kB adK adV (aSz sz) U H
def kc (sz : Nat) (U : State) (H : Heap) : Prop :=
  va_Z RT "COMPACT_STRINGS" "Z" (.int 1) (aSz sz) U H ∧
  (∃ t1, va_Z RI "DigitOnes" "[B" (.ref t1) (aSz sz) U H ∧ va_T .byte t1 100 (fun k => .int (nI (48 + k % 10))) (aSz sz) U H) ∧
  (∃ t2, va_Z RI "DigitTens" "[B" (.ref t2) (aSz sz) U H ∧ va_T .byte t2 100 (fun k => .int (nI (48 + k / 10))) (aSz sz) U H) ∧
  va_Zq RO "SIOOBE_FORMATTER" "Ljava/util/function/BiFunction;" (aSz sz) U H ∧
  (∃ adK adV, kS sz adK adV U H ∧ vk_R RX 208 " HIGH " (adK 0) U ∧ vk_R RX 210 " LOW " (adK 1) U) ∧
  (∀ w ∈ sP, w.before #[] U = true) ∧ sz ≤ H.size
theorem sP_good : ∀ w ∈ sP, (w.onTables && w.keeps) = true := by decide +kernel
theorem kS_mv {sz : Nat} {adK adV : Nat → Nat} : tmov (kS sz adK adV) := fun _ _ _ hW h => vk_S.moved hW.alike h
theorem kc_mv {sz : Nat} : tmov (kc sz) := fun _ _ _ hW h => by
  obtain ⟨h1, ⟨t1, a1, b1⟩, ⟨t2, a2, b2⟩, h4, ⟨adK, adV, c1, c2, c3⟩, h6, h7⟩ := h
  exact ⟨va_Z.moved hW.alike h1, ⟨t1, va_Z.moved hW.alike a1, va_T.moved hW.alike b1⟩, ⟨t2, va_Z.moved hW.alike a2, va_T.moved hW.alike b2⟩, va_Zq.moved hW.alike h4, ⟨adK, adV, kS_mv _ _ _ hW c1, vk_R.warm hW c2, vk_R.warm hW c3⟩, fun w hw => word_at hW (Or.inl (sP_good w hw)) (h6 w hw), h7⟩
theorem kS_kept {sz : Nat} {adK adV : Nat → Nat} {U : State} {H H1 : Heap} (h : kS sz adK adV U H) (hq : ∀ q : Nat, q < sz → H1[q]? = H[q]?) : kS sz adK adV U H1 := vk_S.kept h (fun a _ h2 => hq a (Nat.not_le.mp h2))
theorem kc_kept {sz : Nat} {U : State} {H H1 : Heap} (h : kc sz U H) (hz : H.size ≤ H1.size) (hq : ∀ q : Nat, q < sz → H1[q]? = H[q]?) : kc sz U H1 := by
  obtain ⟨h1, ⟨t1, a1, b1⟩, ⟨t2, a2, b2⟩, h4, ⟨adK, adV, c1, c2, c3⟩, h6, h7⟩ := h
  have hq' : ∀ a : Nat, a < H.size → ¬ aSz sz a → H1[a]? = H[a]? := fun a _ h2 => hq a (Nat.not_le.mp h2)
  exact ⟨h1.kept hq', ⟨t1, a1.kept hq', b1.kept hq'⟩, ⟨t2, a2.kept hq', b2.kept hq'⟩, h4.kept hq', ⟨adK, adV, kS_kept c1 hq, c2, c3⟩, h6, Nat.le_trans h7 hz⟩
theorem kc_narrow {sz sz' : Nat} {U : State} {H : Heap} (h : kc sz U H) (hs : sz ≤ sz') (hz : sz' ≤ H.size) : kc sz' U H := by
  obtain ⟨h1, ⟨t1, a1, b1⟩, ⟨t2, a2, b2⟩, h4, ⟨adK, adV, c1, c2, c3⟩, h6, h7⟩ := h
  have hq : ∀ q, aSz sz' q → aSz sz q := fun q h => Nat.le_trans hs h
  exact ⟨h1.narrow hq, ⟨t1, a1.narrow hq, b1.narrow hq⟩, ⟨t2, a2.narrow hq, b2.narrow hq⟩, h4.narrow hq, ⟨adK, adV, vk_S.narrow c1 hq, c2, c3⟩, h6, hz⟩
def tkB (D : va_G) (cB : ClassId) (U : State) : Prop := va_K D scl [(cB, .byte)] U
theorem tkB_mv {D : va_G} {cB : ClassId} {u U : State} (hW : u.WarmedH U.vm) (h : tkB D cB u) : tkB D cB U := va_K.moved hW.alike h
abbrev sb_o (v n : Nat) : List Value := [.ref v, .int 0, .int 0, .int (nI n)]
abbrev sb_w (cB : ClassId) (b v n cap : Nat) (f : Nat → Int32) : va_W := [(b, .inr (0, sb_o v n)), (v, .inl (cB, cap, .inl f))]
/-- every byte is a sign of seven bits -/
def sb_A (f : Nat → Int32) : Prop := ∀ j, ∃ c, c < 128 ∧ f j = nI c
theorem sb_A0 : sb_A (fun _ => 0) := fun _ => ⟨0, by decide, rfl⟩
theorem sb_Au {f : Nat → Int32} {k c : Nat} (h : sb_A f) (hc : c < 128) : sb_A (upd f k (nI c)) := fun j => by
  unfold upd
  by_cases e : j = k
  · rw [if_pos e]; exact ⟨c, hc, rfl⟩
  · rw [if_neg e]; exact h j
theorem sb_Ac {f g : Nat → Int32} {sp dp n : Nat} (hf : sb_A f) (hg : sb_A g) : sb_A (va_cpy f g sp dp n) := fun j => by
  unfold va_cpy
  by_cases e : dp ≤ j ∧ j < dp + n
  · rw [if_pos e]; exact hf _
  · rw [if_neg e]; exact hg _
theorem sb_fit {f : Nat → Int32} (h : sb_A f) (j : Nat) : fits .byte (.int (f j)) = true := by
  obtain ⟨c, hc, e⟩ := h j
  rw [e]
  have h9 : ∀ c, c < 128 → fits .byte (.int (nI c)) = true := by decide +kernel
  exact h9 c hc
theorem sb_nar : ∀ c, c < 128 → vp_nar .byte (nI c) = nI c ∧ (nI c).toInt8.toInt32 = nI c ∧ (nI c &&& 255) = nI c ∧ ((nI c).toUInt32 % 65536).toInt32 = nI c ∧ narrow .char (.int (nI c)) = .int (nI c) := by decide +kernel
/-- the builder at b holds the text L -/
def sbS (D : va_G) (cB : ClassId) (sz b : Nat) (L : List Nat) (H : Heap) : Prop :=
  ∃ (v cap : Nat) (f : Nat → Int32), va_P D scl (sb_w cB b v L.length cap f) H ∧ va_D (aSz sz) (sb_w cB b v L.length cap f) ∧ (cap = 16 ∨ cap = 34) ∧ L.length ≤ cap ∧ tt_TX L f ∧ sb_A f
def wS (D : va_G) (cB : ClassId) (sz b : Nat) (L : List Nat) (U : State) (H : Heap) : Prop := tkB D cB U ∧ kc sz U H ∧ sbS D cB sz b L H
theorem wS_mv {D : va_G} {cB : ClassId} {sz b : Nat} {L : List Nat} : tmov (wS D cB sz b L) := fun _ _ _ hW h => ⟨tkB_mv hW h.1, kc_mv _ _ _ hW h.2.1, h.2.2⟩
theorem sbS_rc {D : va_G} {cB : ClassId} {sz b : Nat} {L : List Nat} {s : State} {H : Heap} (hK : tkB D cB s) (h : sbS D cB sz b L H) : ∃ cellB : Cell, H[b]? = some cellB ∧ cellB.vm.isStatics = false ∧ s.vm.findClass RS = some cellB.cls := by
  obtain ⟨v, cap, f, h1, -⟩ := h
  exact va_recv (q0 := 0) hK h1 (q := (RS, TSB, 4)) (ci := 0) rfl rfl
/-- nothing below sz has changed -/
def sO (sz : Nat) (H H1 : Heap) : Prop := H.size ≤ H1.size ∧ ∀ q : Nat, q < sz → H1[q]? = H[q]?
theorem sO.rf {sz : Nat} {H : Heap} : sO sz H H := ⟨Nat.le_refl _, fun _ _ => rfl⟩
theorem sO.tr {sz : Nat} {H H1 H2 : Heap} (h1 : sO sz H H1) (h2 : sO sz H1 H2) : sO sz H H2 := ⟨Nat.le_trans h1.1 h2.1, fun q hq => (h2.2 q hq).trans (h1.2 q hq)⟩
theorem sO.S {sz : Nat} {H H1 : Heap} {locs : List Loc} (h : sO sz H H1) (hL : ∀ q ∈ locs, aSz sz q.base) : va_S (aSz sz) H H1 locs := ⟨h.1, fun q _ h2 => h.2 q (Nat.not_le.mp h2), hL⟩
theorem sO.of {sz : Nat} {H H1 : Heap} {locs : List Loc} (hz : sz ≤ H.size) (h : va_S (aSz sz) H H1 locs) : sO sz H H1 := ⟨h.1, fun q hq => h.2.1 q (by omega) (Nat.not_le.mpr hq)⟩
theorem va_S.st {sz : Nat} {H H1 H2 : Heap} {locs locs1 : List Loc} (hz : sz ≤ H.size) (h : va_S (aSz sz) H H1 locs) (h2 : sO sz H1 H2) (hL : ∀ q ∈ locs1, aSz sz q.base) : va_S (aSz sz) H H2 locs1 := ((sO.of hz h).tr h2).S hL
abbrev sbQ (D : va_G) (cB : ClassId) (sz b : Nat) (L : List Nat) (o : Option Value) : Array Value → State → Outcome → State → Prop := tq_Q (fun v H H1 => v = o ∧ sbS D cB sz b L H1 ∧ sO sz H H1)
section TGR
variable {p : Program} {l : Launch} {e : Env} {R : Room} {s : State} {m : MethodId} {args : Array Value} {below : List Frame} {meth : Method} {c : Code} {H : Heap} {locs : List Loc} {cells slots : Nat} {Q : State → Prop}
variable {pc : Nat} {ls : Array Slot} {rest st0 : List Value} {cc b : ByteArray} {nL i maxL n mc ms : Nat} {own C : String} {y : MethodName} {r : Option FieldType} {rm : Room} {Ts : List Cond} {K : State → Heap → Prop} {As : List Value} {a0 : Addr} {Φ : Option Value → Heap → Heap → Prop} {F : Nat → Prop}
/-- calls that write and make: virtual, private, super, static, a constructor -/
theorem tg_V (S : CallFix p m c cc nL s args Ts own) (hT : ∀ w ∈ TT, w ∈ Ts) (hM : Met l y (wT y b maxL r) rm (tb K (.ref a0 :: As)) (tq_Q Φ) mc ms F) (k : tkV own i C y b maxL r n) (hmv : tmov K) (hK : K s H) (hrc : ∃ cellB : Cell, H[a0]? = some cellB ∧ cellB.vm.isStatics = false ∧ s.vm.findClass C = some cellB.cls)
    (hn : As.length = n) (hsz : ls.size = nL) (hst : st0 = As.reverse ++ .ref a0 :: rest) (hW : (rest.map fun v => v.category).sum ≤ 8) (hd : decode cc pc = .ok (.invokevirtual i, 3)) (hR : rm.cells = mc ∧ rm.slots = ms ∧ rm.frames + 1 ≤ R.frames ∧ 8 + (maxL + 11) + rm.locals ≤ R.locals) (hf : cells + mc ≤ R.cells ∧ slots + ms ≤ R.slots) (hL : ∀ q ∈ locs, F q.base)
    (kk : ∀ (v : Option Value) (H1 : Heap) (locs1 : List Loc), Φ v H H1 → (∀ q ∈ locs1, F q.base) → W p l e R s m args below meth c H1 locs1 (cells + mc) (slots + ms) Q (F0 m (pc + 3) ls (v.toList ++ rest))) : W p l e R s m args below meth c H locs cells slots Q (F0 m pc ls st0) :=
  tq_call (va_runV S hM (tcV k S.2.2.2.2 hT hR) (tb_V hmv hK hrc) rfl hn hsz hst (lv_room hW) hd hf) (fun v H1 L hF hL1 => kk v H1 _ hF (fun q hq => (List.mem_append.mp hq).elim (hL q) (hL1 q)))
theorem tg_P (S : CallFix p m c cc nL s args Ts own) (hT : ∀ w ∈ TT, w ∈ Ts) (hM : Met l y (wT y b maxL r) rm (tb K (.ref a0 :: As)) (tq_Q Φ) mc ms F) (k : tkP own i y b maxL r n) (hsel : (Cond.selects C y y).before #[] s = true) (hmv : tmov K) (hK : K s H) (hrc : ∃ cellB : Cell, H[a0]? = some cellB ∧ cellB.vm.isStatics = false ∧ s.vm.findClass C = some cellB.cls)
    (hn : As.length = n) (hsz : ls.size = nL) (hst : st0 = As.reverse ++ .ref a0 :: rest) (hW : (rest.map fun v => v.category).sum ≤ 8) (hd : decode cc pc = .ok (.invokevirtual i, 3)) (hR : rm.cells = mc ∧ rm.slots = ms ∧ rm.frames + 1 ≤ R.frames ∧ 8 + (maxL + 11) + rm.locals ≤ R.locals) (hf : cells + mc ≤ R.cells ∧ slots + ms ≤ R.slots) (hL : ∀ q ∈ locs, F q.base)
    (kk : ∀ (v : Option Value) (H1 : Heap) (locs1 : List Loc), Φ v H H1 → (∀ q ∈ locs1, F q.base) → W p l e R s m args below meth c H1 locs1 (cells + mc) (slots + ms) Q (F0 m (pc + 3) ls (v.toList ++ rest))) : W p l e R s m args below meth c H locs cells slots Q (F0 m pc ls st0) := by
  obtain ⟨k1, k2, k4, k5, k6, k7⟩ := k
  have ht := S.2.2.2.2
  have cw : CallW R s args own C i y b maxL r (wT y b maxL r) rm mc ms n := by
    refine ⟨⟨hR.1, hR.2.1, hR.2.2.1, hR.2.2.2, pay_in ht (wT_in hT k5), List.mem_cons_self, ht _ (hT _ k5), ht _ (hT _ k4), k6, fun sig h => ?_, ht _ (hT _ k1)⟩, ht _ (hT _ k2), word_at (State.WarmedH.refl s) (Or.inl rfl) hsel⟩
    rw [h] at k7
    exact (Option.some.inj k7).symm
  exact tq_call (va_runV S hM cw (tb_V hmv hK hrc) rfl hn hsz hst (lv_room hW) hd hf) (fun v H1 L hF hL1 => kk v H1 _ hF (fun q hq => (List.mem_append.mp hq).elim (hL q) (hL1 q)))
theorem tg_U {cC : ClassId} (hat : ClassAt s C cC) (S : CallFix p m c cc nL s args Ts own) (hT : ∀ w ∈ TT, w ∈ Ts) (hM : Met l y (wT y b maxL r) rm (tb K (.ref a0 :: As)) (tq_Q Φ) mc ms F) (k : tkU own i y b maxL r n) (hmv : tmov K) (hK : K s H) (hrc : ∃ cellB : Cell, H[a0]? = some cellB ∧ cellB.vm.isStatics = false ∧ s.vm.findClass C = some cellB.cls)
    (hn : As.length = n) (hsz : ls.size = nL) (hst : st0 = As.reverse ++ .ref a0 :: rest) (hW : (rest.map fun v => v.category).sum ≤ 8) (hd : decode cc pc = .ok (.invokespecial i, 3)) (hR : rm.cells = mc ∧ rm.slots = ms ∧ rm.frames + 1 ≤ R.frames ∧ 8 + (maxL + 11) + rm.locals ≤ R.locals) (hf : cells + mc ≤ R.cells ∧ slots + ms ≤ R.slots) (hL : ∀ q ∈ locs, F q.base)
    (kk : ∀ (v : Option Value) (H1 : Heap) (locs1 : List Loc), Φ v H H1 → (∀ q ∈ locs1, F q.base) → W p l e R s m args below meth c H1 locs1 (cells + mc) (slots + ms) Q (F0 m (pc + 3) ls (v.toList ++ rest))) : W p l e R s m args below meth c H locs cells slots Q (F0 m pc ls st0) := by
  obtain ⟨k1, k2, k3, k4, k5, k6, k7, k8⟩ := k
  have ht := S.2.2.2.2
  have cw : va_CS R s args own i y b maxL r (wT y b maxL r) rm mc ms n := by
    refine ⟨⟨hR.1, hR.2.1, hR.2.2.1, hR.2.2.2, pay_in ht (wT_in hT k6), List.mem_cons_self⟩, ht _ (hT _ k1), ht _ (hT _ k2), ht _ (hT _ k3), ht _ (hT _ k4), ht _ (hT _ k5), ht _ (hT _ k6), k7, fun sig h => ?_⟩
    rw [h] at k8
    exact (Option.some.inj k8).symm
  exact tq_call (va_runSU hat S hM cw (tb_V hmv hK hrc) rfl hn hsz hst (lv_room hW) hd hf) (fun v H1 L hF hL1 => kk v H1 _ hF (fun q hq => (List.mem_append.mp hq).elim (hL q) (hL1 q)))
theorem tg_S (S : CallFix p m c cc nL s args Ts own) (hT : ∀ w ∈ TT, w ∈ Ts) (hM : Met l y (wT y b maxL r) rm (tb K As) (tq_Q Φ) mc ms F) (k : tkS own i y b maxL r n) (hmv : tmov K) (hK : K s H)
    (hn : As.length = n) (hsz : ls.size = nL) (hst : st0 = As.reverse ++ rest) (hW : (rest.map fun v => v.category).sum ≤ 8) (hd : decode cc pc = .ok (.invokestatic i, 3)) (hR : rm.cells = mc ∧ rm.slots = ms ∧ rm.frames + 1 ≤ R.frames ∧ 8 + (maxL + 11) + rm.locals ≤ R.locals) (hf : cells + mc ≤ R.cells ∧ slots + ms ≤ R.slots) (hL : ∀ q ∈ locs, F q.base)
    (kk : ∀ (v : Option Value) (H1 : Heap) (locs1 : List Loc), Φ v H H1 → (∀ q ∈ locs1, F q.base) → W p l e R s m args below meth c H1 locs1 (cells + mc) (slots + ms) Q (F0 m (pc + 3) ls (v.toList ++ rest))) : W p l e R s m args below meth c H locs cells slots Q (F0 m pc ls st0) :=
  tq_call (va_runS S hM (tcS k S.2.2.2.2 hT hR) (tb_S hmv hK) rfl hn hsz hst (lv_room hW) hd hf) (fun v H1 L hF hL1 => kk v H1 _ hF (fun q hq => (List.mem_append.mp hq).elim (hL q) (hL1 q)))
theorem tg_I (S : CallFix p m c cc nL s args Ts own) (hT : ∀ w ∈ TT, w ∈ Ts) (hM : Met l y (wT y b maxL none) rm (tb K (.ref a0 :: As)) (tq_Q Φ) mc ms F) (k : tkI own i y b maxL none n) (hmv : tmov K) (hK : K s H)
    (hn : As.length = n) (hsz : ls.size = nL) (hst : st0 = As.reverse ++ .ref a0 :: rest) (hW : (rest.map fun v => v.category).sum ≤ 8) (hd : decode cc pc = .ok (.invokespecial i, 3)) (hR : rm.cells = mc ∧ rm.slots = ms ∧ rm.frames + 1 ≤ R.frames ∧ 8 + (maxL + 11) + rm.locals ≤ R.locals) (hf : cells + mc ≤ R.cells ∧ slots + ms ≤ R.slots) (hL : ∀ q ∈ locs, F q.base)
    (kk : ∀ (v : Option Value) (H1 : Heap) (locs1 : List Loc), Φ v H H1 → (∀ q ∈ locs1, F q.base) → W p l e R s m args below meth c H1 locs1 (cells + mc) (slots + ms) Q (F0 m (pc + 3) ls (v.toList ++ rest))) : W p l e R s m args below meth c H locs cells slots Q (F0 m pc ls st0) := by
  obtain ⟨k1, k2, k4, k5, ⟨k6, k8⟩, k7⟩ := k
  have ht := S.2.2.2.2
  have cw : CallB R s args own i y b maxL none (wT y b maxL none) rm mc ms n ∧ y.name = "<init>" ∧ (Cond.instanceMethod y).before args s = true := by
    refine ⟨⟨hR.1, hR.2.1, hR.2.2.1, hR.2.2.2, pay_in ht (wT_in hT k5), List.mem_cons_self, ht _ (hT _ k5), ht _ (hT _ k4), k6, fun sig h => ?_, ht _ (hT _ k1)⟩, k8, ht _ (hT _ k2)⟩
    rw [h] at k7
    exact (Option.some.inj k7).symm
  exact tq_call (va_runI S hM cw (tb_S hmv hK) rfl hn hsz hst (lv_room hW) hd hf) (fun v H1 L hF hL1 => kk v H1 _ hF (fun q hq => (List.mem_append.mp hq).elim (hL q) (hL1 q)))
end TGR
