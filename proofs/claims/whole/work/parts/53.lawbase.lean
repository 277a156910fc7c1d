/-! the law's questions: what both sides say; rows for its calls -/
theorem Met.weak {l : Launch} {y : MethodName} {ws : List Cond} {rm : Room} {Pc : Array Value → State → Prop} {Φ Ψ : Option Value → Heap → Heap → Prop} {mc ms : Nat} {F : Nat → Prop} (h : Met l y ws rm Pc (tq_Q Φ) mc ms F) (hq : ∀ v H H1, Φ v H H1 → Ψ v H H1) : Met l y ws rm Pc (tq_Q Ψ) mc ms F :=
  MetFree.mono h (fun _ _ q => q) (fun _ _ _ _ _ q => q) (fun _ _ _ _ _ q => by
    obtain ⟨⟨v, h1, h2⟩, h3⟩ := q
    exact ⟨⟨v, h1, hq _ _ _ h2⟩, h3⟩)
theorem iv_ex {v : Int32} (h : 0 ≤ v.toInt) : ∃ n : Nat, v.toInt = n ∧ v = nI n := ⟨v.toInt.toNat, by omega, by rw [nI_iZ, Int.toNat_of_nonneg h, iZ_of]⟩
theorem lv_ex {x : Int64} (h : 0 ≤ x.toInt) : ∃ n : Nat, x.toInt = n ∧ x = lN n := ⟨x.toInt.toNat, by omega, by rw [lN_lZ, Int.toNat_of_nonneg h, lZ_of]⟩
theorem iv_big (v : Int32) : v.toInt < 2147483648 := v.toInt_lt
def lO (ad : Nat → Nat) (ao : Nat) (H H1 : Heap) : Prop := H.size ≤ H1.size ∧ ∀ q : Nat, q < H.size → ¬ txF ad q → q ≠ ao → H1[q]? = H[q]?
def lF (ad : Nat → Nat) (ao : Nat) : Nat → Prop := fun q => txF ad q ∨ q = ao
def lP (D : va_G) (ci : Nat → ClassId) (ao : Nat) (o : Nat → Int64) (H : Heap) : Prop := va_P D tcl [(ao, .inl (ci 1, 1, .inr (.inl o)))] H
def lQ (D : va_G) (ci : Nat → ClassId) (ad : Nat → Nat) (ao : Nat) (rs : Int32 × Int64 × TS) : Array Value → State → Outcome → State → Prop := tq_Q (fun v H H1 => v = some (.int rs.1) ∧ ∃ tc1 td1 tn1 o1, tx D ci ad rs.2.2 tc1 td1 tn1 H1 ∧ tt_ok rs.2.2 ∧ tt_CI rs.2.2 tc1 td1 tn1 ∧ lP D ci ao o1 H1 ∧ (rs.1 = nI 0 → o1 0 = rs.2.1) ∧ lO ad ao H H1)
def mR (D : va_G) (ci : Nat → ClassId) (am : Nat → Nat) (rs : Int32 × Int64 × TS) (H H1 : Heap) : Prop := ∃ fo sz hs mi hi tx, tm D ci am rs.2.2 rs.1 fo sz hs mi hi tx H1 ∧ mO am H H1
def mQi (D : va_G) (ci : Nat → ClassId) (am : Nat → Nat) (rs : Int32 × Int64 × TS) : Array Value → State → Outcome → State → Prop := tq_Q (fun v H H1 => ∃ b : Int32, v = some (.int b) ∧ (rs.1 = nI 0 → b.toInt64 = rs.2.1) ∧ mR D ci am rs H H1)
def mQl (D : va_G) (ci : Nat → ClassId) (am : Nat → Nat) (rs : Int32 × Int64 × TS) : Array Value → State → Outcome → State → Prop := tq_Q (fun v H H1 => ∃ b : Int64, v = some (.long b) ∧ (rs.1 = nI 0 → b = rs.2.1) ∧ mR D ci am rs H H1)
def mQv (D : va_G) (ci : Nat → ClassId) (am : Nat → Nat) (rs : Int32 × Int64 × TS) : Array Value → State → Outcome → State → Prop := tq_Q (fun v H H1 => v = none ∧ mR D ci am rs H H1)
/-- what a question of the class begins with, in the law -/
def wl (D : va_G) (ci : Nat → ClassId) (ad : Nat → Nat) (g : TS) (tc td : Int32) (tn : Nat → Int32) (D2 : va_G) (cB : ClassId) (sz0 ao : Nat) (o : Nat → Int64) (U : State) (H : Heap) : Prop := wXLE D ci ad g tc td tn D2 cB sz0 U H ∧ lP D ci ao o H ∧ ∀ k, k < 24 → ad k ≠ ao
theorem wl_mv {D : va_G} {ci : Nat → ClassId} {ad : Nat → Nat} {g : TS} {tc td : Int32} {tn : Nat → Int32} {D2 : va_G} {cB : ClassId} {sz0 ao : Nat} {o : Nat → Int64} : tmov (wl D ci ad g tc td tn D2 cB sz0 ao o) := fun _ _ _ hW h => ⟨wXLE_mv _ _ _ hW h.1, h.2⟩
theorem txG.rf {ad : Nat → Nat} {H : Heap} : txG ad H H := ⟨Nat.le_refl _, fun _ _ _ => rfl⟩
theorem txG.ofO {ad : Nat → Nat} {H H1 : Heap} (h : txO ad H H1) : txG ad H H1 := ⟨Nat.le_of_eq h.1.symm, fun q _ hn => h.2 q hn⟩
theorem lP_keep {D : va_G} {ci : Nat → ClassId} {ad : Nat → Nat} {ao : Nat} {o : Nat → Int64} {H H1 : Heap} (hne : ∀ k, k < 24 → ad k ≠ ao) (h : lP D ci ao o H) (hG : txG ad H H1) : lP D ci ao o H1 := by
  have hlt : ao < H.size := (h 0 _ rfl).lt
  exact va_P.kept h (fun k x hx => by
    cases k with
    | zero => cases hx; exact hG.2 ao hlt (fun ⟨k, hk, e⟩ => hne k hk e.symm)
    | succ k => cases hx)
theorem lO.ofG {ad : Nat → Nat} {ao : Nat} {H H1 H2 : Heap} (hG : txG ad H H1) (hz : H2.size = H1.size) (hq : ∀ q : Nat, q ≠ ao → H2[q]? = H1[q]?) : lO ad ao H H2 := ⟨by rw [hz]; exact hG.1, fun q h1 h2 h3 => (hq q h3).trans (hG.2 q h1 h2)⟩
theorem lO.ofG0 {ad : Nat → Nat} {ao : Nat} {H H1 : Heap} (hG : txG ad H H1) : lO ad ao H H1 := ⟨hG.1, fun q h1 h2 _ => hG.2 q h1 h2⟩
theorem txG.ofF0 {ad : Nat → Nat} {st t : State} (h : va_F (fun _ => False) st t) : txG ad st.heap t.heap := ⟨h.1, fun q hq _ => h.2 q hq (fun z => z)⟩
theorem txG.ofF {ad : Nat → Nat} {st t : State} (h : va_F (txF ad) st t) : txG ad st.heap t.heap := ⟨h.1, fun q hq hn => h.2 q hq hn⟩
theorem updL_0 {o : Nat → Int64} {r : Int64} : vp_updL o 0 r 0 = r := by unfold vp_updL; rw [if_pos rfl]
theorem tt_dh_lev (g : TS) (z : Int) (d : Nat) : tt_dh (ts_lev g z) d = fun k => tt_dh g d k + (z - tt_lev g) := by
  funext k
  show tt_sum g (1440 * d + k) (tt_yr g (1440 * d + k)) 8 / 1073741824 + z = tt_sum g (1440 * d + k) (tt_yr g (1440 * d + k)) 8 / 1073741824 + tt_lev g + (z - tt_lev g)
  omega
theorem tt_CI_lev {g : TS} {tc td : Int32} {tn : Nat → Int32} (z : Int) (h : tt_CI g tc td tn) : tt_CI (ts_lev g z) tc td tn := by
  rcases h with h | ⟨d, h1, h2, h3⟩
  · exact Or.inl h
  · exact Or.inr ⟨d, h1, h2, by rw [tt_dh_lev, tt_L_add]; exact h3⟩
theorem ok_lev {g : TS} {z : Int} (h : tt_ok g) (h1 : -1000000 ≤ z) (h2 : z ≤ 1000000) : tt_ok (ts_lev g z) := ⟨⟨h1, h2⟩, h.2⟩
theorem ok_con {g : TS} {i a sp ph : Nat} (h : tt_ok g) (ha : a ≤ 100000) (hs : sp < 1099511627776) (hp : ph < 281474976710656) : tt_ok (ts_pha (ts_spd (ts_amp g i a) i sp) i ph) := by
  refine ⟨h.1, fun j hj => ?_, h.2.2⟩
  have h9 := h.2.1 j hj
  show (if j = i then a else tt_amp g j) ≤ 100000 ∧ (if j = i then sp else tt_spd g j) < 1099511627776 ∧ (if j = i then ph else tt_pha g j) < 281474976710656
  by_cases e : j = i
  · rw [if_pos e, if_pos e, if_pos e]; exact ⟨ha, hs, hp⟩
  · rw [if_neg e, if_neg e, if_neg e]; exact h9
theorem ok_nod {g : TS} {i y f sh : Nat} (h : tt_ok g) (hf : f ≤ 81920) (hs : sh < 281474976710656) : tt_ok (ts_shf (ts_fac g i y f) i y sh) := by
  refine ⟨h.1, h.2.1, fun j hj z hz => ?_, h.2.2.2⟩
  have h9 := h.2.2.1 j hj z hz
  show (if j = i ∧ z = y then f else tt_fac g j z) ≤ 81920 ∧ (if j = i ∧ z = y then sh else tt_shf g j z) < 281474976710656
  by_cases e : j = i ∧ z = y
  · rw [if_pos e, if_pos e]; exact ⟨hf, hs⟩
  · rw [if_neg e, if_neg e]; exact h9
theorem ok_day {g : TS} {y n : Nat} (h : tt_ok g) (hn : n = 365 ∨ n = 366) : tt_ok (ts_day g y n) := by
  refine ⟨h.1, h.2.1, h.2.2.1, fun j hj => ?_⟩
  show (if j = y then n else tt_day g j) = 365 ∨ (if j = y then n else tt_day g j) = 366
  by_cases e : j = y
  · rw [if_pos e]; exact hn
  · rw [if_neg e]; exact h.2.2.2 j hj
theorem wH_in {y : MethodName} {b : ByteArray} {n : Nat} {r : Option FieldType} {hh : List (Nat × Nat × Nat × Nat)} {Ts : List Cond} (hT : ∀ w ∈ TT, w ∈ Ts) (hc : Cond.codeWith y b n r hh ∈ TT) : GoodIn Ts (wH y b n r hh) := fun w h => by
  rcases List.mem_cons.mp h with e | h
  · rw [e]; exact ⟨hT _ hc, good_of_word (TT_good _ hc)⟩
  · exact ⟨hT _ h, good_of_word (TT_good w h)⟩
section TLR
variable {p : Program} {l : Launch} {e : Env} {R : Room} {s : State} {m : MethodId} {args : Array Value} {below : List Frame} {meth : Method} {c : Code} {H : Heap} {locs : List Loc} {cells slots : Nat} {Q : State → Prop}
variable {pc : Nat} {ls : Array Slot} {rest st0 : List Value} {cc b : ByteArray} {nL i maxL n mc ms : Nat} {own C : String} {y : MethodName} {r : Option FieldType} {rm : Room} {Ts : List Cond} {K : State → Heap → Prop} {As : List Value} {a0 : Addr} {Φ : Option Value → Heap → Heap → Prop} {F F2 : Nat → Prop} {hh : List (Nat × Nat × Nat × Nat)} {XC : String → State → State → Prop}
/-- a call, where more may be written than the called method writes -/
theorem tl_V (hF : ∀ q, F q → F2 q) (S : CallFix p m c cc nL s args Ts own) (hT : ∀ w ∈ TT, w ∈ Ts) (hM : Met l y (wT y b maxL r) rm (tb K (.ref a0 :: As)) (tq_Q Φ) mc ms F) (k : tkV own i C y b maxL r n) (hmv : tmov K) (hK : K s H) (hrc : ∃ cellB : Cell, H[a0]? = some cellB ∧ cellB.vm.isStatics = false ∧ s.vm.findClass C = some cellB.cls)
    (hn : As.length = n) (hsz : ls.size = nL) (hst : st0 = As.reverse ++ .ref a0 :: rest) (hW : (rest.map fun v => v.category).sum ≤ 8) (hd : decode cc pc = .ok (.invokevirtual i, 3)) (hR : rm.cells = mc ∧ rm.slots = ms ∧ rm.frames + 1 ≤ R.frames ∧ 8 + (maxL + 11) + rm.locals ≤ R.locals) (hf : cells + mc ≤ R.cells ∧ slots + ms ≤ R.slots) (hL : ∀ q ∈ locs, F2 q.base)
    (kk : ∀ (v : Option Value) (H1 : Heap) (locs1 : List Loc), Φ v H H1 → (∀ q ∈ locs1, F2 q.base) → W p l e R s m args below meth c H1 locs1 (cells + mc) (slots + ms) Q (F0 m (pc + 3) ls (v.toList ++ rest))) : W p l e R s m args below meth c H locs cells slots Q (F0 m pc ls st0) :=
  tq_call (va_runV S hM (tcV k S.2.2.2.2 hT hR) (tb_V hmv hK hrc) rfl hn hsz hst (lv_room hW) hd hf) (fun v H1 L hQ hL1 => kk v H1 _ hQ (fun q hq => (List.mem_append.mp hq).elim (hL q) (fun z => hF _ (hL1 q z))))
/-- a call that throws -/
theorem tl_X (hF : ∀ q, F q → F2 q) (S : CallFix p m c cc nL s args Ts own) (hT : ∀ w ∈ TT, w ∈ Ts) (hM : vx_Met l y (wT y b maxL r) rm (tb K (.ref a0 :: As)) tw_N XC mc ms F) (k : tkV own i C y b maxL r n) (hmv : tmov K) (hK : K s H) (hrc : ∃ cellB : Cell, H[a0]? = some cellB ∧ cellB.vm.isStatics = false ∧ s.vm.findClass C = some cellB.cls)
    (hn : As.length = n) (hsz : ls.size = nL) (hst : st0 = As.reverse ++ .ref a0 :: rest) (hW : (rest.map fun v => v.category).sum ≤ 8) (hd : decode cc pc = .ok (.invokevirtual i, 3)) (hR : rm.cells = mc ∧ rm.slots = ms ∧ rm.frames + 1 ≤ R.frames ∧ 8 + (maxL + 11) + rm.locals ≤ R.locals) (hf : cells + mc ≤ R.cells ∧ slots + ms ≤ R.slots) (hL : ∀ q ∈ locs, F2 q.base)
    (kx : ∀ (E : String) (ce : Cell) (q9 : Addr) (st t : State) (locs1 : List Loc), st.heap = H → XC E st t → (∀ z ∈ locs1, F2 z.base) → t.heap[q9]? = some ce → ce.vm = .none → s.vm.findClass E = some ce.cls → vx_W p l e R s m args below meth c t.heap locs1 (cells + mc) (slots + ms) Q (F0 m pc ls rest) q9) : W p l e R s m args below meth c H locs cells slots Q (F0 m pc ls st0) :=
  tw_call (vx_runV S hM (tcV k S.2.2.2.2 hT hR) (tb_V hmv hK hrc) rfl hn hsz hst (lv_room hW) hd hf) (fun E ce q9 st t L h1 h2 h3 h4 h5 h6 => kx E ce q9 st t _ h1 h2 (fun q hq => (List.mem_append.mp hq).elim (hL q) (fun z => hF _ (h3 q z))) h4 h5 h6)
/-- a call of a static method with a catch -/
theorem tl_L (S : CallFix p m c cc nL s args Ts own) (hT : ∀ w ∈ TT, w ∈ Ts) (hM : Met l y (wH y b maxL r hh) rm (tb K As) (tq_Q Φ) mc ms F) (k : tkH own i y b maxL r hh n) (hmv : tmov K) (hK : K s H)
    (hF : ∀ q, F q → F2 q) (hn : As.length = n) (hsz : ls.size = nL) (hst : st0 = As.reverse ++ rest) (hW : (rest.map fun v => v.category).sum ≤ 8) (hd : decode cc pc = .ok (.invokestatic i, 3)) (hR : rm.cells = mc ∧ rm.slots = ms ∧ rm.frames + 1 ≤ R.frames ∧ 8 + (maxL + 11) + rm.locals ≤ R.locals) (hf : cells + mc ≤ R.cells ∧ slots + ms ≤ R.slots) (hL : ∀ q ∈ locs, F2 q.base)
    (kk : ∀ (v : Option Value) (H1 : Heap) (locs1 : List Loc), Φ v H H1 → (∀ q ∈ locs1, F2 q.base) → W p l e R s m args below meth c H1 locs1 (cells + mc) (slots + ms) Q (F0 m (pc + 3) ls (v.toList ++ rest))) : W p l e R s m args below meth c H locs cells slots Q (F0 m pc ls st0) := by
  obtain ⟨k1, k2, k4, k5, k6, k7⟩ := k
  have ht := S.2.2.2.2
  have cw : vx_CSW R s args own i y b maxL r hh (wH y b maxL r hh) rm mc ms n := by
    refine ⟨⟨hR.1, hR.2.1, hR.2.2.1, hR.2.2.2, pay_in ht (wH_in hT k5), List.mem_cons_self⟩, ht _ (hT _ k5), ht _ (hT _ k4), k6, fun sig h => ?_, ht _ (hT _ k1), ht _ (hT _ k2)⟩
    rw [h] at k7
    exact (Option.some.inj k7).symm
  exact tq_call (vx_runSW S hM cw (tb_S hmv hK) rfl hn hsz hst (lv_room hW) hd hf) (fun v H1 L hQ hL1 => kk v H1 _ hQ (fun q hq => (List.mem_append.mp hq).elim (hL q) (fun z => hF _ (hL1 q z))))
end TLR
