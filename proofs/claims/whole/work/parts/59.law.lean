/-! THE CLAIM OUT OF ONE WALK OF THE LAW'S BODY. Your part is whole_start (and what it stands on); all else here is the same for every law, but numbers. -/
def R_law : String := "TideTablesLaw"
def lw_P (b : Addr) (xs : List Int32) (args : Array Value) (s : State) : Prop := args = #[.ref b] ∧ s.IntsAt b xs ∧ xs.length ≤ 3584 ∧ (Jvm.Cond.and given_1 narrow_1).before args s = true
def lw_Q (_ : Array Value) (s : State) (o : Outcome) (t : State) : Prop := o = .returned (some (.int 1)) ∧ Framed s o t [] 601024 7293034
def lw_Z (below : List Frame) (a : Array Value) (s : State) : State → Prop := fun t => ∃ o, t.status = .running ∧ Ended t below o ∧ lw_Q a s o t
/-- the law's own end, with 1 on the stack, nothing written that was there before, its room as the claim has it -/
theorem lw_ret {p : Program} {l : Launch} {e : Env} {s : State} {m : MethodId} {below : List Frame} {meth : Method} {c : Code} {b : Nat} (hx : p.tables.exec = Jvm.exec) (hb : c.code = code) (hr : meth.sig.returnType = ret) (hlocks : meth.locks = false) {pc : Nat} {H : Heap} {ls : Array Slot} (hdg : decode code pc = .ok (.ireturn, 1)) : W p l e room_1 s m #[Value.ref b] below meth c H [] 601024 7293034 (lw_Z below #[Value.ref b] s) (F0 m pc ls [.int 1]) := by
  intro T hT X
  obtain ⟨fs, hret, hrun, hended, hW, hframe⟩ := X.leave (v := some (.int 1)) (hlocks := hlocks) (fun h => by rw [hr] at h; cases h)
  have hmeth' : T.vm.method? m = some meth := X.method'
  refine ⟨T.setFrames fs, ?_, .returned (some (.int 1)), hrun, hended, rfl, ⟨_, rfl⟩, hW, hframe⟩
  jvm_step X.here [X.here.top, hx, hb, hdg, hmeth', hr, ret, narrow_b1]
  (try refine ⟨rfl, ?_⟩); (try refine ⟨rfl, ?_⟩)
  first | (intro acts; rw [hret _ acts rfl rfl rfl]) | rw [hret _ _ rfl rfl rfl]
  exact Steps.refl _
/-- what holds at the law's entry: the machine, the code, the tables' words (any of lw_tbl by 'hts w (by decide +kernel)'), the script of L ints xs at the cell b, what the Statement gives of the start (any of its parts by flat_of_before) -/
def lw_At (p : Program) (s : State) (m : MethodId) (meth : Method) (c : Code) (b L : Nat) (xs : Nat → Int32) : Prop :=
  p.tables.exec = Jvm.exec ∧ c.code = code ∧ meth.sig.returnType = ret ∧ c.maxLocals = 8 ∧ s.vm.findClass R_law = some m.cls ∧ (∀ w ∈ lw_tbl, w.before #[Value.ref b] s = true) ∧ va_X b L xs s s.heap ∧ b < s.heap.size ∧ meth.locks = false ∧ (Jvm.Cond.and given_1 narrow_1).before #[Value.ref b] s = true
theorem iv_and15 (x : Int32) : ∃ k : Nat, k < 16 ∧ (x &&& nI 15) = nI k := by
  refine ⟨x.toBitVec.toNat % 16, Nat.mod_lt _ (by decide), ?_⟩
  rw [← Int32.toBitVec_inj]
  show x.toBitVec &&& 15#32 = BitVec.ofNat 32 (x.toBitVec.toNat % 16)
  apply BitVec.eq_of_toNat_eq
  have e1 : (15#32).toNat = 15 := rfl
  have e2 : (BitVec.ofNat 32 (x.toBitVec.toNat % 16)).toNat = x.toBitVec.toNat % 16 := by rw [BitVec.toNat_ofNat]; exact Nat.mod_eq_of_lt (by omega)
  rw [BitVec.toNat_and, e1, e2]
  exact Nat.and_two_pow_sub_one_eq_mod _ 4
section TLI
variable {p : Program} {l : Launch} {e : Env} {R : Room} {s : State} {m : MethodId} {args : Array Value} {below : List Frame} {meth : Method} {c : Code} {H : Heap} {locs : List Loc} {cells slots : Nat} {Q : State → Prop}
variable {pc : Nat} {ls : Array Slot} {rest st0 : List Value} {cc b : ByteArray} {nL i maxL n mc ms : Nat} {own : String} {y : MethodName} {rm : Room} {Ts : List Cond} {K : State → Heap → Prop} {As : List Value} {a0 : Addr} {Φ : Option Value → Heap → Heap → Prop} {F F2 : Nat → Prop}
theorem tl_I (hF : ∀ q, F q → F2 q) (S : CallFix p m c cc nL s args Ts own) (hT : ∀ w ∈ TT, w ∈ Ts) (hM : Met l y (wT y b maxL none) rm (tb K (.ref a0 :: As)) (tq_Q Φ) mc ms F) (k : tkI own i y b maxL none n) (hmv : tmov K) (hK : K s H)
    (hn : As.length = n) (hsz : ls.size = nL) (hst : st0 = As.reverse ++ .ref a0 :: rest) (hW : (rest.map fun v => v.category).sum ≤ 8) (hd : decode cc pc = .ok (.invokespecial i, 3)) (hR : rm.cells = mc ∧ rm.slots = ms ∧ rm.frames + 1 ≤ R.frames ∧ 8 + (maxL + 11) + rm.locals ≤ R.locals) (hf : cells + mc ≤ R.cells ∧ slots + ms ≤ R.slots) (hL : ∀ q ∈ locs, F2 q.base)
    (kk : ∀ (v : Option Value) (H1 : Heap) (locs1 : List Loc), Φ v H H1 → (∀ q ∈ locs1, F2 q.base) → W p l e R s m args below meth c H1 locs1 (cells + mc) (slots + ms) Q (F0 m (pc + 3) ls (v.toList ++ rest))) : W p l e R s m args below meth c H locs cells slots Q (F0 m pc ls st0) := by
  obtain ⟨k1, k2, k4, k5, ⟨k6, k8⟩, k7⟩ := k
  have ht := S.2.2.2.2
  have cw : CallB R s args own i y b maxL none (wT y b maxL none) rm mc ms n ∧ y.name = "<init>" ∧ (Cond.instanceMethod y).before args s = true := by
    refine ⟨⟨hR.1, hR.2.1, hR.2.2.1, hR.2.2.2, pay_in ht (wT_in hT k5), List.mem_cons_self, ht _ (hT _ k5), ht _ (hT _ k4), k6, fun sig h => ?_, ht _ (hT _ k1)⟩, k8, ht _ (hT _ k2)⟩
    rw [h] at k7
    exact (Option.some.inj k7).symm
  exact tq_call (va_runI S hM cw (tb_S hmv hK) rfl hn hsz hst (lv_room hW) hd hf) (fun v H1 L hQ hL1 => kk v H1 _ hQ (fun q hq => (List.mem_append.mp hq).elim (hL q) (fun z => hF _ (hL1 q z))))
end TLI
section G59
variable {p : Program} {l : Launch} {e : Env} {s : State} {m : MethodId} {below : List Frame} {meth : Method} {c : Code} {D : va_G} {ci : Nat → ClassId} {D2 : va_G} {cB : ClassId} {b L : Nat} {xs : Nat → Int32}
set_option maxHeartbeats 4000000 in
set_option maxRecDepth 100000 in
theorem l_law (hx : p.tables.exec = Jvm.exec) (hb : c.code = b_L_law) (hml : c.maxLocals = 8) (hown : s.vm.findClass RL = some m.cls) (hts : ∀ w ∈ lw_tbl, w.before #[Value.ref b] s = true) (htr : l.stackTraces = false) (hXs : va_X b L xs s s.heap) (hbl : b < s.heap.size) (hL2 : L < 2147483648) (hK : tk D ci s) (hKB : tkB D2 cB s) (hKC0 : kc s.heap.size s s.heap) (hE0 : wE s s.heap) (hr : meth.sig.returnType = ret) (hlocks : meth.locks = false) (hL : L ≤ 3584) : ∀ (d n : Nat) (H : Heap) (locs : List Loc) (ls : Array Slot), n + d = 512 → lJ D ci s H locs → lv_has ls 8 [(4, .int (nI (7 * n))), (0, .ref b), (1, .ref (lad s.heap.size 0)), (2, .ref (lam s.heap.size 0)), (3, .ref (lao s.heap.size))] → W p l e room_1 s m #[Value.ref b] below meth c H locs (36 + 22 * n) (6230 + 672 * n) (lw_Z below #[Value.ref b] s) (F0 m 23 ls []) := by
  have hT : ∀ w ∈ TT, w ∈ lw_tbl := fun w h => (List.mem_filter.mp h).1
  intro d
  induction d with
  | zero =>
    intro n H locs ls hn hJ hl
    obtain ⟨-, -, -, -, -, -, -, -, -, -, -, -, -, -, -, -, -, hS⟩ := id hJ
    refine lv_iload hx hb d_L_law_23 (lv_at hl 0 rfl) ?_
    refine lv_aload_n hx hb d_L_law_25 rfl (lv_at hl 1 rfl) ?_
    refine va_slen hx hb hXs hbl (Nat.not_le.mpr hbl) hS d_L_law_26 ?_
    refine tq_ti (show _ = (nI L) from rfl) ?_
    refine lv_bipush hx hb d_L_law_27 (v := (nI 7)) rfl ?_
    refine lv_isub hx hb d_L_law_29 ?_
    have e9 : (nI L - nI 7).toInt = (L : Int) - 7 := pk_sub_toInt (by omega) (by decide)
    refine lv_icmp_gt hx hb d_L_law_30 (tgt := 1243) (by decide) (fun h1 => ?_) (fun h1 => ?_)
    · refine lv_iconst hx hb d_L_law_1243 (v := (nI 1)) rfl ?_
      refine va_forget (fun q hq => hS.2.2 q hq) ?_
      refine W.widen (k := 601024) (n := 7293034) (by omega) (by omega) ?_
      exact lw_ret hx hb hr hlocks d_L_law_1244
    · exfalso
      apply h1
      rw [Int32.lt_iff_toInt_lt, e9, nI_toInt (by omega)]
      omega
  | succ d ih =>
    intro n H locs ls hn hJ hl
    obtain ⟨-, -, -, -, -, -, -, -, -, -, -, -, -, -, -, -, -, hS⟩ := id hJ
    have K : ∀ (H1 : Heap) (locs1 : List Loc) (ls1 : Array Slot), lJ D ci s H1 locs1 → lv_has ls1 8 [(4, .int (nI (7 * n))), (0, .ref b), (1, .ref (lad s.heap.size 0)), (2, .ref (lam s.heap.size 0)), (3, .ref (lao s.heap.size))] → W p l e room_1 s m #[Value.ref b] below meth c H1 locs1 (36 + 22 * n + 22) (6230 + 672 * n + 672) (lw_Z below #[Value.ref b] s) (F0 m 1237 ls1 []) := by
      intro H1 locs1 ls hJ hl
      refine W.widen (k := 36 + 22 * (n + 1)) (n := 6230 + 672 * (n + 1)) (by omega) (by omega) ?_
      refine lv_iinc hx hb d_L_law_1237 hl (k := 0) rfl (v := (nI (7 * (n + 1)))) (by rw [show Int32.ofInt 7 = nI 7 from rfl, nI_add]; exact congrArg nI (by omega)) (by decide) (lv' := [(4, .int (nI (7 * (n + 1)))), (0, .ref b), (1, .ref (lad s.heap.size 0)), (2, .ref (lam s.heap.size 0)), (3, .ref (lao s.heap.size))]) rfl (fun ls hl => ?_)
      refine lv_goto hx hb d_L_law_1240 (tgt := 23) (by decide) ?_
      exact ih (n + 1) H1 locs1 ls (by omega) hJ hl
    refine lv_iload hx hb d_L_law_23 (lv_at hl 0 rfl) ?_
    refine lv_aload_n hx hb d_L_law_25 rfl (lv_at hl 1 rfl) ?_
    refine va_slen hx hb hXs hbl (Nat.not_le.mpr hbl) hS d_L_law_26 ?_
    refine tq_ti (show _ = (nI L) from rfl) ?_
    refine lv_bipush hx hb d_L_law_27 (v := (nI 7)) rfl ?_
    refine lv_isub hx hb d_L_law_29 ?_
    have e9 : (nI L - nI 7).toInt = (L : Int) - 7 := pk_sub_toInt (by omega) (by decide)
    refine lv_icmp_gt hx hb d_L_law_30 (tgt := 1243) (by decide) (fun h1 => ?_) (fun h1 => ?_)
    · refine lv_iconst hx hb d_L_law_1243 (v := (nI 1)) rfl ?_
      refine va_forget (fun q hq => hS.2.2 q hq) ?_
      refine W.widen (k := 601024) (n := 7293034) (by omega) (by omega) ?_
      exact lw_ret hx hb hr hlocks d_L_law_1244
    · have hn7 : 7 * n + 7 ≤ L := by
        have h2 := mt Int32.lt_iff_toInt_lt.mpr h1
        rw [e9, nI_toInt (by omega)] at h2
        omega
      refine lv_aload_n hx hb d_L_law_33 rfl (lv_at hl 1 rfl) ?_
      refine lv_iload hx hb d_L_law_34 (lv_at hl 0 rfl) ?_
      refine tq_sld hx hb hXs hbl hS (show 7 * n < L by omega) hL2 d_L_law_36 ?_
      refine lv_bipush hx hb d_L_law_37 (v := (nI 15)) rfl ?_
      refine lv_iand hx hb d_L_law_39 ?_
      obtain ⟨k, hk, ek⟩ := iv_and15 (xs (7 * n))
      refine tq_ti ek ?_
      clear ek
      match k, hk with
      | 0, _ =>
        refine lv_tableIn hx hb d_L_law_40 (by decide) (by decide) (off := 76) (by decide) (tgt := 116) (by decide) ?_
        exact lq_level hx hb hml hown hts htr hXs hbl hL2 hK hKB hKC0 hE0 hJ hn7 ⟨by omega, by omega⟩ K hl
      | 1, _ =>
        refine lv_tableIn hx hb d_L_law_40 (by decide) (by decide) (off := 132) (by decide) (tgt := 172) (by decide) ?_
        exact lq_constituent hx hb hml hown hts htr hXs hbl hL2 hK hKB hKC0 hE0 hJ hn7 ⟨by omega, by omega⟩ K hl
      | 2, _ =>
        refine lv_tableIn hx hb d_L_law_40 (by decide) (by decide) (off := 270) (by decide) (tgt := 310) (by decide) ?_
        exact lq_node hx hb hml hown hts htr hXs hbl hL2 hK hKB hKC0 hE0 hJ hn7 ⟨by omega, by omega⟩ K hl
      | 3, _ =>
        refine lv_tableIn hx hb d_L_law_40 (by decide) (by decide) (off := 374) (by decide) (tgt := 414) (by decide) ?_
        exact lq_days hx hb hml hown hts htr hXs hbl hL2 hK hKB hKC0 hE0 hJ hn7 ⟨by omega, by omega⟩ K hl
      | 4, _ =>
        refine lv_tableIn hx hb d_L_law_40 (by decide) (by decide) (off := 442) (by decide) (tgt := 482) (by decide) ?_
        exact lq_first hx hb hml hown hts htr hXs hbl hL2 hK hKB hKC0 hE0 hJ hn7 ⟨by omega, by omega⟩ K hl
      | 5, _ =>
        refine lv_tableIn hx hb d_L_law_40 (by decide) (by decide) (off := 498) (by decide) (tgt := 538) (by decide) ?_
        exact lq_year hx hb hml hown hts htr hXs hbl hL2 hK hKB hKC0 hE0 hJ hn7 ⟨by omega, by omega⟩ K hl
      | 6, _ =>
        refine lv_tableIn hx hb d_L_law_40 (by decide) (by decide) (off := 554) (by decide) (tgt := 594) (by decide) ?_
        exact lq_position hx hb hml hown hts htr hXs hbl hL2 hK hKB hKC0 hE0 hJ hn7 ⟨by omega, by omega⟩ K hl
      | 7, _ =>
        refine lv_tableIn hx hb d_L_law_40 (by decide) (by decide) (off := 621) (by decide) (tgt := 661) (by decide) ?_
        exact lq_cosine hx hb hml hown hts htr hXs hbl hL2 hK hKB hKC0 hE0 hJ hn7 ⟨by omega, by omega⟩ K hl
      | 8, _ =>
        refine lv_tableIn hx hb d_L_law_40 (by decide) (by decide) (off := 709) (by decide) (tgt := 749) (by decide) ?_
        exact lq_height hx hb hml hown hts htr hXs hbl hL2 hK hKB hKC0 hE0 hJ hn7 ⟨by omega, by omega⟩ K hl
      | 9, _ =>
        refine lv_tableIn hx hb d_L_law_40 (by decide) (by decide) (off := 765) (by decide) (tgt := 805) (by decide) ?_
        exact lq_mean hx hb hml hown hts htr hXs hbl hL2 hK hKB hKC0 hE0 hJ hn7 ⟨by omega, by omega⟩ K hl
      | 10, _ =>
        refine lv_tableIn hx hb d_L_law_40 (by decide) (by decide) (off := 833) (by decide) (tgt := 873) (by decide) ?_
        exact lq_extremes hx hb hml hown hts htr hXs hbl hL2 hK hKB hKC0 hE0 hJ hn7 ⟨by omega, by omega⟩ K hl
      | 11, _ =>
        refine lv_tableIn hx hb d_L_law_40 (by decide) (by decide) (off := 889) (by decide) (tgt := 929) (by decide) ?_
        exact lq_extreme hx hb hml hown hts htr hXs hbl hL2 hK hKB hKC0 hE0 hJ hn7 ⟨by omega, by omega⟩ K hl
      | 12, _ =>
        refine lv_tableIn hx hb d_L_law_40 (by decide) (by decide) (off := 969) (by decide) (tgt := 1009) (by decide) ?_
        exact lq_line hx hb hml hown hts htr hXs hbl hL2 hK hKB hKC0 hE0 hJ hn7 ⟨by omega, by omega⟩ K hl
      | 13, _ =>
        refine lv_tableIn hx hb d_L_law_40 (by decide) (by decide) (off := 1037) (by decide) (tgt := 1077) (by decide) ?_
        exact lq_sign hx hb hml hown hts htr hXs hbl hL2 hK hKB hKC0 hE0 hJ hn7 ⟨by omega, by omega⟩ K hl
      | 14, _ =>
        refine lv_tableIn hx hb d_L_law_40 (by decide) (by decide) (off := 1117) (by decide) (tgt := 1157) (by decide) ?_
        exact lq_above hx hb hml hown hts htr hXs hbl hL2 hK hKB hKC0 hE0 hJ hn7 ⟨by omega, by omega⟩ K hl
      | 15, _ =>
        refine lv_tableOut hx hb d_L_law_40 (Or.inr (by decide)) (tgt := 1237) (by decide) ?_
        exact W.widen (Nat.le_add_right _ 22) (Nat.le_add_right _ 672) (K H locs ls hJ hl)
      | k + 16, hk => omega
end G59
set_option maxHeartbeats 4000000 in
set_option maxRecDepth 100000 in
theorem whole_start {p : Program} {e : Env} {s : State} {m : MethodId} {below : List Frame} {meth : Method} {c : Code} (l : Launch) (htr : l.stackTraces = false) {b L : Nat} {xs : Nat → Int32} (hL : L ≤ 3584) (C0 : lw_At p s m meth c b L xs) : W p l e room_1 s m #[Value.ref b] below meth c s.heap [] 0 0 (lw_Z below #[Value.ref b] s) (entryFrame m ([Value.ref b] : List Value).toArray 8) := by
  obtain ⟨hx, hb, hr, hml, hown, hts, hXs, hbl, hlocks, hgv⟩ := C0
  have hown : s.vm.findClass RL = some m.cls := hown
  have hT : ∀ w ∈ TT, w ∈ lw_tbl := fun w h => (List.mem_filter.mp h).1
  obtain ⟨D, ci, hK⟩ := tk_start hts
  obtain ⟨D2, cB, hKB⟩ := tkB_start hts
  obtain ⟨hA1, hA2⟩ := tAO_start hts
  have hKC0 := kc_start hts hgv
  have hE0 := wE_start hts hgv
  have hl := lv_entry ([.ref b]) (n := 8) (Nat.le_of_ble_eq_true rfl)
  rw [lg_entry_eq]
  generalize (lg_sl ([.ref b]) ++ List.replicate (8 - (lg_sl ([.ref b])).length) Slot.unset).toArray = ls at hl ⊢
  have hl : lv_has ls 8 [(0, .ref b)] := hl
  refine W.newcK hx hb hown (hts _ (hT _ k_L_8)) (hts _ (hT _ k_in_X)) (hts _ (hT _ k_ini_X)) rfl d_L_law_0 (Nat.le_of_ble_eq_true rfl) (Nat.le_of_ble_eq_true rfl) (hK.1 0 _ rfl).2.1 rfl (fun H1 kC hkC e1 z1 o1 => ?_)
  show W p l e _ s m _ below meth c _ _ _ _ _ (F0 m 3 ls [.ref s.heap.size])
  have hP1 : va_P D tcl [(s.heap.size, .inr (0, [.int 0, .null, .null, .null, .null, .null, .null, .null, .int 0, .int 0]))] H1 := fun k x hx => by
    cases k with
    | zero =>
      cases hx
      exact ⟨_, rfl, (u_born tX hts (fun w h => hT w (uX_in w h)) (hK.1 0 _ rfl) hkC e1 tX_ok).to (fun j hj => by match j, hj with | 0, _ => rfl | 1, _ => rfl | 2, _ => rfl | 3, _ => rfl | 4, _ => rfl | 5, _ => rfl | 6, _ => rfl | 7, _ => rfl | 8, _ => rfl | 9, _ => rfl)⟩
    | succ k => cases hx
  refine lv_dup hx hb d_L_law_3 rfl ?_
  refine tl_I (F2 := aSz s.heap.size) (fun q h => by rcases h with h | h; exact Nat.le_of_eq h.symm; show s.heap.size ≤ q; omega) ⟨hx, hb, hml, hown, hts⟩ hT (c_X_init l D ci s.heap.size (s.heap.size + 1)) lk_L_65 (fun _ _ _ hW h => ⟨tk.moved hW h.1, tAO.moved hW.alike h.2.1, tAO.moved hW.alike h.2.2.1, h.2.2.2⟩) ⟨hK, hA1, hA2, hP1, z1⟩ rfl hl.1 rfl (Nat.le_of_ble_eq_true rfl) d_L_law_4 ⟨rfl, rfl, Nat.le_of_ble_eq_true rfl, Nat.le_of_ble_eq_true rfl⟩ ⟨Nat.le_of_ble_eq_true rfl, Nat.le_of_ble_eq_true rfl⟩ (fun q hq => nomatch hq) (fun v9 H2 locs2 hF9 hL9 => ?_)
  obtain ⟨rfl, hX, hz, hq⟩ := hF9
  have hX : tx D ci (lad s.heap.size) ts0 0 (-1) (fun _ => 0) H2 := hX
  have hq0 : ∀ q : Nat, q < s.heap.size → H2[q]? = s.heap[q]? := fun q h => (hq q (by omega) (by omega)).trans (o1 q h)
  have hz : H2.size = s.heap.size + 24 := by omega
  refine lv_astore_n hx hb d_L_law_7 rfl hl (by decide) (lv' := [(1, .ref s.heap.size), (0, .ref b)]) rfl (fun ls hl => ?_)
  refine W.newcK hx hb hown (hts _ (hT _ k_L_66)) (hts _ (hT _ k_in_M)) (hts _ (hT _ k_ini_M)) rfl d_L_law_8 (Nat.le_of_ble_eq_true rfl) (Nat.le_of_ble_eq_true rfl) (hK.1 1 _ rfl).2.1 hz (fun H1 kC hkC e1 z1 o1 => ?_)
  show W p l e _ s m _ below meth c _ _ _ _ _ (F0 m 11 ls [.ref (s.heap.size + 24)])
  have hP1 : va_P D tcl [((s.heap.size + 24), .inr (1, [.int 0, .int 0, .null, .null, .null, .null, .null, .null, .null, .int 0, .null, .null, .int 0, .null]))] H1 := fun k x hx => by
    cases k with
    | zero =>
      cases hx
      exact ⟨_, rfl, (u_born tM hts (fun w h => hT w (uM_in w h)) (hK.1 1 _ rfl) hkC e1 tM_ok).to (fun j hj => by match j, hj with | 0, _ => rfl | 1, _ => rfl | 2, _ => rfl | 3, _ => rfl | 4, _ => rfl | 5, _ => rfl | 6, _ => rfl | 7, _ => rfl | 8, _ => rfl | 9, _ => rfl | 10, _ => rfl | 11, _ => rfl | 12, _ => rfl | 13, _ => rfl)⟩
    | succ k => cases hx
  refine lv_dup hx hb d_L_law_11 rfl ?_
  have hX := tx_keep hX (fun k hk => o1 _ (lad_in hk).2)
  have hq0 : ∀ q : Nat, q < s.heap.size → H1[q]? = s.heap[q]? := fun q h => (o1 q (by omega)).trans (hq0 q h)
  refine tl_I (F2 := aSz s.heap.size) (fun q h => by rcases h with h | h <;> (show s.heap.size ≤ q; omega)) ⟨hx, hb, hml, hown, hts⟩ hT (c_M_init l D ci (s.heap.size + 24) (s.heap.size + 25)) lk_L_68 (fun _ _ _ hW h => ⟨tk.moved hW h.1, h.2⟩) ⟨hK, hP1, z1⟩ rfl hl.1 rfl (Nat.le_of_ble_eq_true rfl) d_L_law_12 ⟨rfl, rfl, Nat.le_of_ble_eq_true rfl, Nat.le_of_ble_eq_true rfl⟩ ⟨Nat.le_of_ble_eq_true rfl, Nat.le_of_ble_eq_true rfl⟩ hL9 (fun v9 H2 locs2 hF9 hL9 => ?_)
  obtain ⟨rfl, hM, hz, hq⟩ := hF9
  have hM : tm D ci (lam s.heap.size) ts0 0 0 0 (fun _ => 0) (fun _ => 0) (fun _ => 0) (fun _ => 0) H2 := hM
  have hX := tx_keep hX (fun k hk => hq _ (by have := (lad_in (Z := s.heap.size) hk).2; show lad s.heap.size k < s.heap.size + 25; omega) (by have := (lad_in (Z := s.heap.size) hk).2; show lad s.heap.size k ≠ s.heap.size + 24; omega))
  have hq0 : ∀ q : Nat, q < s.heap.size → H2[q]? = s.heap[q]? := fun q h => (hq q (by omega) (by omega)).trans (hq0 q h)
  have hz : H2.size = s.heap.size + 35 := by omega
  refine lv_astore_n hx hb d_L_law_15 rfl hl (by decide) (lv' := [(2, .ref (s.heap.size + 24)), (1, .ref s.heap.size), (0, .ref b)]) rfl (fun ls hl => ?_)
  refine lv_iconst hx hb d_L_law_16 (v := (nI 1)) rfl ?_
  refine va_newaK (atype := .long) hx hb (hts _ (hT _ k_arr_long)) rfl d_L_law_17 rfl (N := 1) (by decide) (by decide) (by decide) (Nat.le_of_ble_eq_true rfl) (Nat.le_of_ble_eq_true rfl) hz (fun H3 cA e1 z1 o1 hAr hNm => ?_)
  obtain rfl : cA = ci 1 := Option.some.inj (hNm.symm.trans (hK.2 1 _ rfl).2)
  show W p l e _ s m _ below meth c _ _ _ _ _ (F0 m 19 ls [.ref (s.heap.size + 35)])
  have hA : lP D ci (lao s.heap.size) (fun _ => 0) H3 := vP_at e1
  have hX := tx_keep hX (fun k hk => o1 _ (by have := (lad_in (Z := s.heap.size) hk).2; show lad s.heap.size k < s.heap.size + 35; omega))
  have hM := tm_keep hM (fun k hk => o1 _ (lam_in hk).2)
  have hS : va_S (aSz s.heap.size) s.heap H3 locs2 := ⟨by omega, fun q h _ => (o1 q (by omega)).trans (hq0 q h), hL9⟩
  refine lv_astore_n hx hb d_L_law_19 rfl hl (by decide) (lv' := [(3, .ref (s.heap.size + 35)), (2, .ref (s.heap.size + 24)), (1, .ref s.heap.size), (0, .ref b)]) rfl (fun ls hl => ?_)
  refine lv_iconst hx hb d_L_law_20 (v := (nI 0)) rfl ?_
  refine lv_istore hx hb d_L_law_21 hl (by decide) (lv' := [(4, .int (nI 0)), (3, .ref (s.heap.size + 35)), (2, .ref (s.heap.size + 24)), (1, .ref s.heap.size), (0, .ref b)]) rfl (fun ls hl => ?_)
  have hl := lv_sub hl (l' := [(4, .int (nI 0)), (0, .ref b), (1, .ref s.heap.size), (2, .ref (s.heap.size + 24)), (3, .ref (s.heap.size + 35))]) [0, 4, 3, 2, 1] rfl
  have hl : lv_has ls 8 [(4, .int (nI (7 * 0))), (0, .ref b), (1, .ref (lad s.heap.size 0)), (2, .ref (lam s.heap.size 0)), (3, .ref (lao s.heap.size))] := hl
  refine W.widen (k := 36 + 22 * 0) (n := 6230 + 672 * 0) (Nat.le_of_ble_eq_true rfl) (Nat.le_of_ble_eq_true rfl) ?_
  exact l_law hx hb hml hown hts htr hXs hbl (by omega) hK hKB hKC0 hE0 hr hlocks hL 512 0 H3 locs2 ls rfl ⟨ts0, 0, -1, fun _ => 0, 0, 0, 0, fun _ => 0, fun _ => 0, fun _ => 0, fun _ => 0, fun _ => 0, ts0_ok, hX, Or.inl rfl, hM, hA, hS⟩ hl
set_option maxHeartbeats 4000000 in
theorem lw_walk (l : Launch) (htr : l.stackTraces = false) (b : Addr) (xs : List Int32) : MetFree l x (headSpec (Jvm.Cond.code x code maxLocals ret :: tables_1) room_1) (lw_P b xs) (fun _ _ _ _ _ => True) lw_Q := by
  refine MetFree.of_bodyS (code := code) (maxLocals := maxLocals) (ret := ret) (by decide) ?_ ?_
  · intro args s m h hn
    obtain ⟨meth, c, h1, h2, h3, h4, h5, h6, -, -⟩ := Cond.code_spec hn (atoms_spec (ws := Jvm.Cond.code x code maxLocals ret :: tables_1) h _ List.mem_cons_self)
    exact ⟨meth, c, h1, h2, h3, h4, h5, h6⟩
  · intro p e s m args below meth c s₁ B hml0 hP _
    obtain ⟨rfl, hx, hbd, hgv⟩ := hP
    obtain ⟨scr, harrAt, hlist, hof, hsmall⟩ := hx
    obtain ⟨hcb, hkn, -, -⟩ := State.arrayAt?_spec harrAt
    have hown : s.vm.findClass R_law = some m.cls := findClass_of_methodNamed B.named
    have hts0 : ∀ c ∈ (Jvm.Cond.code x code maxLocals ret :: tables_1), c.before #[Value.ref b] s = true := atoms_spec (ws := Jvm.Cond.code x code maxLocals ret :: tables_1) B.pre
    have hts : ∀ w ∈ lw_tbl, w.before #[Value.ref b] s = true := k2_hts_sels lw_privs (fun w hw => hts0 w (List.mem_cons_of_mem _ hw)) lw_privs_ok
    have hml : c.maxLocals = 8 := B.maxLocals_eq (hts0 _ List.mem_cons_self)
    have X₀ : Stand p l e room_1 s m #[Value.ref b] below meth c s₁ [] 0 0 := Stand.of_body B
    have hh0 : s₁.heap = s.heap := by rw [B.state]; rfl
    have hsz : scr.slots.size = xs.length := by rw [← Array.length_toList, hlist, List.length_map]
    have hval : ∀ j : Nat, j < xs.length → scr.slots[j]? = some (.int (xs.getD j 0)) := fun j hj => by
      rw [← Array.getElem?_toList, hlist]
      simp [hj]
    have hbl : b < s.heap.size := (Array.getElem?_eq_some_iff.mp hcb).1
    have hX : va_X b xs.length (fun j => xs.getD j 0) s s.heap := ⟨scr, hcb, hof, hkn, hsz, hval⟩
    have K : W p l e room_1 s m #[Value.ref b] below meth c s₁.heap [] 0 0 (lw_Z below #[Value.ref b] s) (entryFrame m ([Value.ref b] : List Value).toArray 8) := by
      rw [hh0]
      exact whole_start l htr hbd ⟨B.exec, B.bytes, B.returns, hml, hown, hts, hX, hbl, B.notSynchronized, hgv⟩
    obtain ⟨t, a1, o, b1, b2, b3⟩ := K s₁ rfl X₀
    exact ⟨t, o, a1, b1, b2, b3⟩
theorem lw_pre_spec {args : Array Value} {s : State} (h : (Jvm.Cond.and given_1 narrow_1).before args s = true) (hr : rest_1_c.before args s = true) : ∃ (b : Addr) (xs : List Int32), lw_P b xs args s := by
  have hs := flat_of_before _ h
  have hq := flat_of_before _ hr
  have hc : (Cond.count 1).before args s = true := hs _ (by decide +kernel)
  have harr : (Cond.arrayOf (.arg 0) .int).before args s = true := hs _ (by decide +kernel)
  have hle : (Cond.le (.length (.arg 0)) (.int 3584)).before args s = true := hs _ (by decide +kernel)
  have hlen : (Cond.isInt (.length (.arg 0))).before args s = true := hq _ (by decide +kernel)
  have hall : (Cond.all (.arg 0) (.isInt (.elem (.arg 0) (.index 0)))).before args s = true := hq _ (by decide +kernel)
  obtain ⟨b, xs, hb, hx⟩ := State.ints_of_pre rfl harr hlen hall
  have hsm : xs.length < 2 ^ 31 := hx.choose_spec.2.2.2
  have hev : (Term.length (.arg 0)).eval args s none [] s = some (.int xs.length.toInt32) := hx.length_eval hb
  have hv := Cond.le_ints hev (show (Term.int 3584).eval args s none [] s = some (.int 3584) from rfl)
  have hd : xs.length.toInt32 ≤ 3584 := by
    simpa [Cond.before, Cond.holds, hv] using hle
  have hN : xs.length ≤ 3584 := (Int32.ofNat_le_ofNat hsm (by decide)).mp (show Int32.ofNat xs.length ≤ Int32.ofNat 3584 from hd)
  exact ⟨b, xs, Cond.one_arg hc (show args[0]? = some (.ref b) from hb), hx, hN, h⟩
theorem lw_comes (l : Launch) (htr : l.stackTraces = false) : Comes l x (Jvm.Cond.code x code maxLocals ret :: tables_1) room_1 (fun tb e args s => Calls_1 tb e args s ∧ rest_1 tb e args s ∧ Pre_1 tb e args s)
    (fun _ _ args s o t => lw_Q args s o t) := by
  intro p e ha hc hk s m args below hf hfit hheap happ hpre
  obtain ⟨b, xs, hP⟩ := lw_pre_spec hpre.2.2 hpre.2.1
  obtain ⟨k, o, h1, h2, h3, hQ⟩ := lw_walk l htr b xs p e ha hc hk s m args below hf ((Spec.applies_iff_loose hf).mp happ).1 hP trivial
  exact ⟨k, o, h1, h2, h3, hQ⟩
theorem lw_frame {s t : State} {o : Outcome} {args : Array Value} (h : Framed s o t [] 601024 7293034) :
    Framed s o t (fieldLocs frame_1_writes args s ++ arrayLocs frame_1_arrays args s ++ staticLocs frame_1_statics s) 601024 7293034 := h
theorem lw_limb (L : Cond) (hL : ∀ (args : Array Value) (s t : State), L.after args s (.returned (some (.int 1))) t = true) :
    ArmFor flags0 classFile x code maxLocals ret World_1 tables_1 room_1 Calls_1 rest_1 Pre_1
      (fun tb e a s o t => postC L tb e a s o t ∧ Framed s o t (fieldLocs frame_1_writes a s ++ arrayLocs frame_1_arrays a s ++ staticLocs frame_1_statics s) 601024 7293034) := by
  intro l hfl _ _ p e ha hc hk s m args below hf hfit hheap happ hpre
  obtain ⟨k, o, h1, h2, h3, rfl, hF⟩ := lw_comes l (by unfold Launch.stackTraces; rw [hfl]; decide +kernel) p e ha hc hk s m args below hf hfit hheap happ hpre
  exact ⟨k, _, h1, h2, h3, hL args s _, lw_frame hF⟩
theorem i_vc : Claimed_1_1 ∧ Claimed_1_2 := ⟨lw_limb limb_1_1 (fun args s t => by simp [limb_1_1, Cond.after, Cond.holds, Cond.value]), lw_limb limb_1_2 (fun args s t => Cond.after_iff.mpr (by
  first | (rw [show limb_1_2 = Cond.eq .result (.int 1) from rfl, Cond.eq_ints (x := 1) (y := 1) rfl rfl]; simp; done) | (simp [limb_1_2, Cond.value, Term.eval]; done)))⟩
