/-! the reference's constructor. Written by wip/whole/gen.py -/
section G51
variable {p : Program} {l : Launch} {e : Env} {R : Room} {s : State} {m : MethodId} {args : Array Value} {below : List Frame} {meth : Method} {c : Code} {cells slots : Nat} {Q : State → Prop} {Ts : List Cond}
variable {D : va_G} {ci : Nat → ClassId} {a0 h : Nat}
set_option maxHeartbeats 4000000 in
set_option maxRecDepth 100000 in
theorem l_M_init (hx : p.tables.exec = Jvm.exec) (hb : c.code = b_M_init) (hts : ∀ w ∈ Ts, w.before args s = true) (hT : ∀ w ∈ TT, w ∈ Ts) (hown : s.vm.findClass RM = some m.cls) (hK : tk D ci s) (ha : a0 < h)
    (kk : ∀ (H : Heap) (locs : List Loc) (ls : Array Slot), va_P D tcl [(a0, .inr (1, [.int 0, .int 0, .ref h, .ref (h + 1), .ref (h + 2), .ref (h + 3), .ref (h + 4), .ref (h + 5), .ref (h + 6), .int 0, .ref (h + 7), .ref (h + 8), .int 0, .ref (h + 9)])), (h, .inl (ci 0, 10, .inl (fun _ => nI 365))), ((h + 1), .inl (ci 0, 8, .inl (fun _ => 0))), ((h + 2), .inl (ci 1, 8, .inr (.inl (fun _ => 0)))), ((h + 3), .inl (ci 1, 8, .inr (.inl (fun _ => 0)))), ((h + 4), .inl (ci 0, 80, .inl (fun j => if j < 80 then nI 65536 else 0))), ((h + 5), .inl (ci 1, 80, .inr (.inl (fun _ => 0)))), ((h + 6), .inl (ci 0, 1440, .inl (fun _ => 0))), ((h + 7), .inl (ci 0, 1440, .inl (fun _ => 0))), ((h + 8), .inl (ci 4, 1440, .inl (fun _ => 0))), ((h + 9), .inl (ci 0, 40, .inl (fun _ => 0)))] H → H.size = h + 10 → (∀ q : Nat, q < h → q ≠ a0 → H[q]? = s.heap[q]?) → (∀ q ∈ locs, iF a0 h q.base) → W p l e R s m args below meth c H locs cells slots Q (F0 m 173 ls [])) :
    ∀ (d k : Nat) (H : Heap) (locs : List Loc) (ls : Array Slot), k + d = 80 → va_P D tcl [(a0, .inr (1, [.int 0, .int 0, .ref h, .ref (h + 1), .ref (h + 2), .ref (h + 3), .ref (h + 4), .ref (h + 5), .ref (h + 6), .int 0, .ref (h + 7), .ref (h + 8), .int 0, .ref (h + 9)])), (h, .inl (ci 0, 10, .inl (fun _ => nI 365))), ((h + 1), .inl (ci 0, 8, .inl (fun _ => 0))), ((h + 2), .inl (ci 1, 8, .inr (.inl (fun _ => 0)))), ((h + 3), .inl (ci 1, 8, .inr (.inl (fun _ => 0)))), ((h + 4), .inl (ci 0, 80, .inl (fun j => if j < k then nI 65536 else 0))), ((h + 5), .inl (ci 1, 80, .inr (.inl (fun _ => 0)))), ((h + 6), .inl (ci 0, 1440, .inl (fun _ => 0))), ((h + 7), .inl (ci 0, 1440, .inl (fun _ => 0))), ((h + 8), .inl (ci 4, 1440, .inl (fun _ => 0))), ((h + 9), .inl (ci 0, 40, .inl (fun _ => 0)))] H → H.size = h + 10 → (∀ q : Nat, q < h → q ≠ a0 → H[q]? = s.heap[q]?) → (∀ q ∈ locs, iF a0 h q.base) → lv_has ls 2 [(1, .int (nI k)), (0, .ref a0)] → W p l e R s m args below meth c H locs cells slots Q (F0 m 153 ls []) := by
  intro d
  induction d with
  | zero =>
    intro k H locs ls hk hW hz hq hL hl
    obtain rfl : k = 80 := by omega
    refine lv_iload_n hx hb d_M_init_153 rfl (lv_at hl 0 rfl) ?_
    refine lv_bipush hx hb d_M_init_154 (v := (nI 80)) rfl ?_
    refine lv_icmp_ge hx hb d_M_init_156 (tgt := 173) (by decide) (fun _ => ?_) (fun hno => absurd (nI_le (Nat.le_refl 80) (by decide)) hno)
    exact kk H locs ls hW hz hq hL
  | succ d ih =>
    intro k H locs ls hk hW hz hq hL hl
    refine lv_iload_n hx hb d_M_init_153 rfl (lv_at hl 0 rfl) ?_
    refine lv_bipush hx hb d_M_init_154 (v := (nI 80)) rfl ?_
    refine lv_icmp_ge hx hb d_M_init_156 (tgt := 173) (by decide) (fun hyes => absurd hyes (nI_ge (show k < 80 by omega) (by decide))) (fun _ => ?_)
    refine lv_aload_n hx hb d_M_init_159 rfl (lv_at hl 1 rfl) ?_
    refine va_get hx hb hts (fun w h => hT w (uM_in w h)) hown hK hW 0 rfl rfl 6 (by decide) (hts _ (hT _ k_M_23)) (fun _ h => h) rfl d_M_init_160 ?_
    refine lv_iload_n hx hb d_M_init_163 rfl (lv_at hl 0 rfl) ?_
    refine lv_ldc hx hb (v := (nI 65536)) hown (hts _ (hT _ k_M_42)) d_M_init_164 ?_
    refine tq_iast (F := iF a0 h) hx hb hK 0 (vP_pick hW 5 rfl) rfl (show k < 80 by omega) (by decide) (Or.inr (by omega)) hL d_M_init_166 (fun H1 locs1 hP1 hz1 hq1 hL => ?_)
    have hP1 : va_P D tcl [(h + 4, .inl (ci 0, 80, .inl (fun j => if j < k + 1 then nI 65536 else 0)))] H1 := vP_same hP1 (fun j _ => by unfold upd; by_cases e : j = k; rw [if_pos e, if_pos (by omega)]; rw [if_neg e]; dsimp only; by_cases e2 : j < k; rw [if_pos e2, if_pos (by omega)]; rw [if_neg e2, if_neg (by omega)])
    have hW : va_P D tcl [(a0, .inr (1, [.int 0, .int 0, .ref h, .ref (h + 1), .ref (h + 2), .ref (h + 3), .ref (h + 4), .ref (h + 5), .ref (h + 6), .int 0, .ref (h + 7), .ref (h + 8), .int 0, .ref (h + 9)])), (h, .inl (ci 0, 10, .inl (fun _ => nI 365))), ((h + 1), .inl (ci 0, 8, .inl (fun _ => 0))), ((h + 2), .inl (ci 1, 8, .inr (.inl (fun _ => 0)))), ((h + 3), .inl (ci 1, 8, .inr (.inl (fun _ => 0)))), ((h + 4), .inl (ci 0, 80, .inl (fun j => if j < k + 1 then nI 65536 else 0))), ((h + 5), .inl (ci 1, 80, .inr (.inl (fun _ => 0)))), ((h + 6), .inl (ci 0, 1440, .inl (fun _ => 0))), ((h + 7), .inl (ci 0, 1440, .inl (fun _ => 0))), ((h + 8), .inl (ci 4, 1440, .inl (fun _ => 0))), ((h + 9), .inl (ci 0, 40, .inl (fun _ => 0)))] H1 := vP_set hW 5 rfl hP1 (fun j hj => by rcases j with _ | _ | _ | _ | _ | _ | _ | _ | _ | _ | _ |  j <;> first | exact absurd rfl hj | rfl) (fun j y hj hy => by rcases j with _ | _ | _ | _ | _ | _ | _ | _ | _ | _ | _ |  j <;> first | exact absurd rfl hj | (cases hy; show (_ : Nat) ≠ _; omega) | cases hy) hq1
    refine lv_iinc hx hb d_M_init_167 hl (k := 0) rfl (v := (nI (k + 1))) (by rw [show Int32.ofInt 1 = 1 from rfl]; exact nI_1 k) (by decide) (lv' := [(1, .int (nI (k + 1))), (0, .ref a0)]) rfl (fun ls hl => ?_)
    refine lv_goto hx hb d_M_init_170 (tgt := 153) (by decide) ?_
    exact ih (k + 1) H1 locs1 ls (by omega) hW (hz1.trans hz) (fun q h1 h2 => (hq1 q (by omega)).trans (hq q h1 h2)) hL hl
end G51
set_option maxHeartbeats 4000000 in
set_option maxRecDepth 100000 in
theorem c_M_init (l : Launch) (D : va_G) (ci : Nat → ClassId) (a0 h : Nat) : Met l y_M_init (wT y_M_init b_M_init 2 none) ({ frames := 1, cells := 10, slots := 4554, locals := 30 }) (tb ((fun U H => tk D ci U ∧ va_P D tcl [(a0, .inr (1, [.int 0, .int 0, .null, .null, .null, .null, .null, .null, .null, .int 0, .null, .null, .int 0, .null]))] H ∧ H.size = h)) [.ref a0]) (tq_Q (fun o9 H H1 => o9 = none ∧ tm D ci (amX a0 h) ts0 0 0 0 (fun _ => 0) (fun _ => 0) (fun _ => 0) (fun _ => 0) H1 ∧ H1.size = h + 10 ∧ ∀ q : Nat, q < h → q ≠ a0 → H1[q]? = H[q]?)) 10 4554 (iF a0 h) := by
  refine Met.ofW (cc := b_M_init) (maxL := 2) (ret := none) (by decide) rfl ?_
  intro p e s m args below meth c s₁ B hml hv
  obtain ⟨rfl, hK, hW, hz⟩ := hv
  have hx := B.exec
  have hb := B.bytes
  have hr := B.returns
  have hts := atoms_spec (ws := wT y_M_init b_M_init 2 none) B.pre
  have hT : ∀ w ∈ TT, w ∈ wT y_M_init b_M_init 2 none := wT_T
  have hown : s.vm.findClass RM = some m.cls := findClass_of_methodNamed B.named
  have hlocks := B.notSynchronized
  have hl := lv_entry ([.ref a0]) (n := 2) (Nat.le_of_ble_eq_true rfl)
  rw [lg_entry_eq]
  generalize (lg_sl ([.ref a0]) ++ List.replicate (2 - (lg_sl ([.ref a0])).length) Slot.unset).toArray = ls at hl ⊢
  have hl : lv_has ls 2 [(0, .ref a0)] := hl
  have hin2 : meth.name = "<init>" := (name_of_methodNamed B.named B.method).1
  have ha : a0 < h := by rw [← hz]; exact (hW 0 _ rfl).lt
  have hL : ∀ q ∈ ([] : List Loc), iF a0 h q.base := fun q hq => nomatch hq
  have hq : ∀ q : Nat, q < h → q ≠ a0 → s.heap[q]? = s.heap[q]? := fun _ _ _ => rfl
  refine lv_aload_n hx hb d_M_init_0 rfl (lv_at hl 0 rfl) ?_
  refine W.objInit hx hb hown (hts _ (hT _ k_oi_M)) (hts _ (hT _ k_oi_i)) (hts _ (hT _ k_oi_c)) rfl (hl.1.trans hml.symm) rfl d_M_init_1 (Nat.le_of_ble_eq_true rfl) (Nat.le_of_ble_eq_true rfl) ?_
  show W p l e _ s m _ below meth c _ _ _ _ _ (F0 m 4 ls [])
  refine lv_aload_n hx hb d_M_init_4 rfl (lv_at hl 0 rfl) ?_
  refine lv_bipush hx hb d_M_init_5 (v := (nI 10)) rfl ?_
  refine va_newaK (atype := .int) hx hb (hts _ (hT _ k_arr_int)) rfl d_M_init_7 rfl (N := 10) (by decide) (by decide) (by decide) (Nat.le_of_ble_eq_true rfl) (Nat.le_of_ble_eq_true rfl) hz (fun H1 cA e1 z1 o1 hAr hNm => ?_)
  obtain rfl : cA = ci 0 := Option.some.inj (hNm.symm.trans (hK.2 0 _ rfl).2)
  show W p l e _ s m _ below meth c _ _ _ _ _ (F0 m 9 ls [.ref h, .ref a0])
  replace hW := vP_old hz hW o1
  replace hq := iQo (n := 0) hq o1
  replace hW : va_P D tcl [(a0, .inr (1, [.int 0, .int 0, .null, .null, .null, .null, .null, .null, .null, .int 0, .null, .null, .int 0, .null])), (h, .inl (ci 0, 10, .inl (fun _ => 0)))] H1 := vP_snoc hW (vP_at e1)
  replace hz : H1.size = h + 1 := z1
  clear e1 z1 o1 hAr hNm
  refine lv_dup hx hb d_M_init_9 rfl ?_
  refine lv_iconst hx hb d_M_init_10 (v := (nI 0)) rfl ?_
  refine lv_sipush hx hb d_M_init_11 (v := (nI 365)) rfl ?_
  refine tq_iast (F := iF a0 h) hx hb hK 0 (vP_pick hW 1 rfl) rfl (j := 0) (by decide) (by decide) (Or.inr (Nat.le_refl _)) hL d_M_init_14 (fun H1 locs1 hP1 hz1 hq1 hL9 => ?_)
  replace hW : va_P D tcl [(a0, .inr (1, [.int 0, .int 0, .null, .null, .null, .null, .null, .null, .null, .int 0, .null, .null, .int 0, .null])), (h, .inl (ci 0, 10, .inl (upd (fun _ => 0) 0 (nI 365))))] H1 := vP_1 ha hW hP1 hq1
  replace hz := hz1.trans hz
  replace hq := iQh hq hq1
  replace hL := hL9
  clear hP1 hz1 hq1 hL9
  refine lv_dup hx hb d_M_init_15 rfl ?_
  refine lv_iconst hx hb d_M_init_16 (v := (nI 1)) rfl ?_
  refine lv_sipush hx hb d_M_init_17 (v := (nI 365)) rfl ?_
  refine tq_iast (F := iF a0 h) hx hb hK 0 (vP_pick hW 1 rfl) rfl (j := 1) (by decide) (by decide) (Or.inr (Nat.le_refl _)) hL d_M_init_20 (fun H1 locs1 hP1 hz1 hq1 hL9 => ?_)
  replace hW : va_P D tcl [(a0, .inr (1, [.int 0, .int 0, .null, .null, .null, .null, .null, .null, .null, .int 0, .null, .null, .int 0, .null])), (h, .inl (ci 0, 10, .inl (upd (upd (fun _ => 0) 0 (nI 365)) 1 (nI 365))))] H1 := vP_1 ha hW hP1 hq1
  replace hz := hz1.trans hz
  replace hq := iQh hq hq1
  replace hL := hL9
  clear hP1 hz1 hq1 hL9
  refine lv_dup hx hb d_M_init_21 rfl ?_
  refine lv_iconst hx hb d_M_init_22 (v := (nI 2)) rfl ?_
  refine lv_sipush hx hb d_M_init_23 (v := (nI 365)) rfl ?_
  refine tq_iast (F := iF a0 h) hx hb hK 0 (vP_pick hW 1 rfl) rfl (j := 2) (by decide) (by decide) (Or.inr (Nat.le_refl _)) hL d_M_init_26 (fun H1 locs1 hP1 hz1 hq1 hL9 => ?_)
  replace hW : va_P D tcl [(a0, .inr (1, [.int 0, .int 0, .null, .null, .null, .null, .null, .null, .null, .int 0, .null, .null, .int 0, .null])), (h, .inl (ci 0, 10, .inl (upd (upd (upd (fun _ => 0) 0 (nI 365)) 1 (nI 365)) 2 (nI 365))))] H1 := vP_1 ha hW hP1 hq1
  replace hz := hz1.trans hz
  replace hq := iQh hq hq1
  replace hL := hL9
  clear hP1 hz1 hq1 hL9
  refine lv_dup hx hb d_M_init_27 rfl ?_
  refine lv_iconst hx hb d_M_init_28 (v := (nI 3)) rfl ?_
  refine lv_sipush hx hb d_M_init_29 (v := (nI 365)) rfl ?_
  refine tq_iast (F := iF a0 h) hx hb hK 0 (vP_pick hW 1 rfl) rfl (j := 3) (by decide) (by decide) (Or.inr (Nat.le_refl _)) hL d_M_init_32 (fun H1 locs1 hP1 hz1 hq1 hL9 => ?_)
  replace hW : va_P D tcl [(a0, .inr (1, [.int 0, .int 0, .null, .null, .null, .null, .null, .null, .null, .int 0, .null, .null, .int 0, .null])), (h, .inl (ci 0, 10, .inl (upd (upd (upd (upd (fun _ => 0) 0 (nI 365)) 1 (nI 365)) 2 (nI 365)) 3 (nI 365))))] H1 := vP_1 ha hW hP1 hq1
  replace hz := hz1.trans hz
  replace hq := iQh hq hq1
  replace hL := hL9
  clear hP1 hz1 hq1 hL9
  refine lv_dup hx hb d_M_init_33 rfl ?_
  refine lv_iconst hx hb d_M_init_34 (v := (nI 4)) rfl ?_
  refine lv_sipush hx hb d_M_init_35 (v := (nI 365)) rfl ?_
  refine tq_iast (F := iF a0 h) hx hb hK 0 (vP_pick hW 1 rfl) rfl (j := 4) (by decide) (by decide) (Or.inr (Nat.le_refl _)) hL d_M_init_38 (fun H1 locs1 hP1 hz1 hq1 hL9 => ?_)
  replace hW : va_P D tcl [(a0, .inr (1, [.int 0, .int 0, .null, .null, .null, .null, .null, .null, .null, .int 0, .null, .null, .int 0, .null])), (h, .inl (ci 0, 10, .inl (upd (upd (upd (upd (upd (fun _ => 0) 0 (nI 365)) 1 (nI 365)) 2 (nI 365)) 3 (nI 365)) 4 (nI 365))))] H1 := vP_1 ha hW hP1 hq1
  replace hz := hz1.trans hz
  replace hq := iQh hq hq1
  replace hL := hL9
  clear hP1 hz1 hq1 hL9
  refine lv_dup hx hb d_M_init_39 rfl ?_
  refine lv_iconst hx hb d_M_init_40 (v := (nI 5)) rfl ?_
  refine lv_sipush hx hb d_M_init_41 (v := (nI 365)) rfl ?_
  refine tq_iast (F := iF a0 h) hx hb hK 0 (vP_pick hW 1 rfl) rfl (j := 5) (by decide) (by decide) (Or.inr (Nat.le_refl _)) hL d_M_init_44 (fun H1 locs1 hP1 hz1 hq1 hL9 => ?_)
  replace hW : va_P D tcl [(a0, .inr (1, [.int 0, .int 0, .null, .null, .null, .null, .null, .null, .null, .int 0, .null, .null, .int 0, .null])), (h, .inl (ci 0, 10, .inl (upd (upd (upd (upd (upd (upd (fun _ => 0) 0 (nI 365)) 1 (nI 365)) 2 (nI 365)) 3 (nI 365)) 4 (nI 365)) 5 (nI 365))))] H1 := vP_1 ha hW hP1 hq1
  replace hz := hz1.trans hz
  replace hq := iQh hq hq1
  replace hL := hL9
  clear hP1 hz1 hq1 hL9
  refine lv_dup hx hb d_M_init_45 rfl ?_
  refine lv_bipush hx hb d_M_init_46 (v := (nI 6)) rfl ?_
  refine lv_sipush hx hb d_M_init_48 (v := (nI 365)) rfl ?_
  refine tq_iast (F := iF a0 h) hx hb hK 0 (vP_pick hW 1 rfl) rfl (j := 6) (by decide) (by decide) (Or.inr (Nat.le_refl _)) hL d_M_init_51 (fun H1 locs1 hP1 hz1 hq1 hL9 => ?_)
  replace hW : va_P D tcl [(a0, .inr (1, [.int 0, .int 0, .null, .null, .null, .null, .null, .null, .null, .int 0, .null, .null, .int 0, .null])), (h, .inl (ci 0, 10, .inl (upd (upd (upd (upd (upd (upd (upd (fun _ => 0) 0 (nI 365)) 1 (nI 365)) 2 (nI 365)) 3 (nI 365)) 4 (nI 365)) 5 (nI 365)) 6 (nI 365))))] H1 := vP_1 ha hW hP1 hq1
  replace hz := hz1.trans hz
  replace hq := iQh hq hq1
  replace hL := hL9
  clear hP1 hz1 hq1 hL9
  refine lv_dup hx hb d_M_init_52 rfl ?_
  refine lv_bipush hx hb d_M_init_53 (v := (nI 7)) rfl ?_
  refine lv_sipush hx hb d_M_init_55 (v := (nI 365)) rfl ?_
  refine tq_iast (F := iF a0 h) hx hb hK 0 (vP_pick hW 1 rfl) rfl (j := 7) (by decide) (by decide) (Or.inr (Nat.le_refl _)) hL d_M_init_58 (fun H1 locs1 hP1 hz1 hq1 hL9 => ?_)
  replace hW : va_P D tcl [(a0, .inr (1, [.int 0, .int 0, .null, .null, .null, .null, .null, .null, .null, .int 0, .null, .null, .int 0, .null])), (h, .inl (ci 0, 10, .inl (upd (upd (upd (upd (upd (upd (upd (upd (fun _ => 0) 0 (nI 365)) 1 (nI 365)) 2 (nI 365)) 3 (nI 365)) 4 (nI 365)) 5 (nI 365)) 6 (nI 365)) 7 (nI 365))))] H1 := vP_1 ha hW hP1 hq1
  replace hz := hz1.trans hz
  replace hq := iQh hq hq1
  replace hL := hL9
  clear hP1 hz1 hq1 hL9
  refine lv_dup hx hb d_M_init_59 rfl ?_
  refine lv_bipush hx hb d_M_init_60 (v := (nI 8)) rfl ?_
  refine lv_sipush hx hb d_M_init_62 (v := (nI 365)) rfl ?_
  refine tq_iast (F := iF a0 h) hx hb hK 0 (vP_pick hW 1 rfl) rfl (j := 8) (by decide) (by decide) (Or.inr (Nat.le_refl _)) hL d_M_init_65 (fun H1 locs1 hP1 hz1 hq1 hL9 => ?_)
  replace hW : va_P D tcl [(a0, .inr (1, [.int 0, .int 0, .null, .null, .null, .null, .null, .null, .null, .int 0, .null, .null, .int 0, .null])), (h, .inl (ci 0, 10, .inl (upd (upd (upd (upd (upd (upd (upd (upd (upd (fun _ => 0) 0 (nI 365)) 1 (nI 365)) 2 (nI 365)) 3 (nI 365)) 4 (nI 365)) 5 (nI 365)) 6 (nI 365)) 7 (nI 365)) 8 (nI 365))))] H1 := vP_1 ha hW hP1 hq1
  replace hz := hz1.trans hz
  replace hq := iQh hq hq1
  replace hL := hL9
  clear hP1 hz1 hq1 hL9
  refine lv_dup hx hb d_M_init_66 rfl ?_
  refine lv_bipush hx hb d_M_init_67 (v := (nI 9)) rfl ?_
  refine lv_sipush hx hb d_M_init_69 (v := (nI 365)) rfl ?_
  refine tq_iast (F := iF a0 h) hx hb hK 0 (vP_pick hW 1 rfl) rfl (j := 9) (by decide) (by decide) (Or.inr (Nat.le_refl _)) hL d_M_init_72 (fun H1 locs1 hP1 hz1 hq1 hL9 => ?_)
  replace hW : va_P D tcl [(a0, .inr (1, [.int 0, .int 0, .null, .null, .null, .null, .null, .null, .null, .int 0, .null, .null, .int 0, .null])), (h, .inl (ci 0, 10, .inl (upd (upd (upd (upd (upd (upd (upd (upd (upd (upd (fun _ => 0) 0 (nI 365)) 1 (nI 365)) 2 (nI 365)) 3 (nI 365)) 4 (nI 365)) 5 (nI 365)) 6 (nI 365)) 7 (nI 365)) 8 (nI 365)) 9 (nI 365))))] H1 := vP_1 ha hW hP1 hq1
  replace hz := hz1.trans hz
  replace hq := iQh hq hq1
  replace hL := hL9
  clear hP1 hz1 hq1 hL9
  have hdec : ∀ j, j < 10 → (upd (upd (upd (upd (upd (upd (upd (upd (upd (upd (fun _ => 0) 0 (nI 365)) 1 (nI 365)) 2 (nI 365)) 3 (nI 365)) 4 (nI 365)) 5 (nI 365)) 6 (nI 365)) 7 (nI 365)) 8 (nI 365)) 9 (nI 365)) j = nI 365 := by decide +kernel
  have e1 := vP_same (f' := fun _ => nI 365) (vP_pick hW 1 rfl) hdec
  replace hW : va_P D tcl [(a0, .inr (1, [.int 0, .int 0, .null, .null, .null, .null, .null, .null, .null, .int 0, .null, .null, .int 0, .null])), (h, .inl (ci 0, 10, .inl (fun _ => nI 365)))] _ := vP_1 ha hW e1 (fun _ _ => rfl)
  clear hdec e1
  refine tq_putF (F := iF a0 h) hx hb hts (fun w h => hT w (uM_in w h)) tM tM_ok nM hown hK (vP_hd hW) (ci := 1) rfl 2 (by decide) (hts _ (hT _ k_M_7)) (fun _ h => h) rfl hin2 rfl (ty := .array .int) rfl rfl rfl (Nat.le_of_ble_eq_true rfl) (Or.inl rfl) hL d_M_init_73 (fun H1 locs1 hP1 hz1 hq1 hL9 => ?_)
  replace hW : va_P D tcl [(a0, .inr (1, [.int 0, .int 0, .ref h, .null, .null, .null, .null, .null, .null, .int 0, .null, .null, .int 0, .null])), (h, .inl (ci 0, 10, .inl (fun _ => nI 365)))] H1 := vP_0 hW hP1 (List.forall_mem_cons.mpr ⟨iNe ha 0, (fun _ h9 => nomatch h9)⟩) hq1
  replace hz := hz1.trans hz
  replace hq := iQa hq hq1
  replace hL := hL9
  clear hP1 hz1 hq1 hL9
  refine lv_aload_n hx hb d_M_init_76 rfl (lv_at hl 0 rfl) ?_
  refine lv_bipush hx hb d_M_init_77 (v := (nI 8)) rfl ?_
  refine va_newaK (atype := .int) hx hb (hts _ (hT _ k_arr_int)) rfl d_M_init_79 rfl (N := 8) (by decide) (by decide) (by decide) (Nat.le_of_ble_eq_true rfl) (Nat.le_of_ble_eq_true rfl) hz (fun H1 cA e1 z1 o1 hAr hNm => ?_)
  obtain rfl : cA = ci 0 := Option.some.inj (hNm.symm.trans (hK.2 0 _ rfl).2)
  show W p l e _ s m _ below meth c _ _ _ _ _ (F0 m 81 ls [.ref (h + 1), .ref a0])
  replace hW := vP_old hz hW o1
  replace hq := iQo (n := 1) hq o1
  replace hW : va_P D tcl [(a0, .inr (1, [.int 0, .int 0, .ref h, .null, .null, .null, .null, .null, .null, .int 0, .null, .null, .int 0, .null])), (h, .inl (ci 0, 10, .inl (fun _ => nI 365))), ((h + 1), .inl (ci 0, 8, .inl (fun _ => 0)))] H1 := vP_snoc hW (vP_at e1)
  replace hz : H1.size = h + 2 := z1
  clear e1 z1 o1 hAr hNm
  refine tq_putF (F := iF a0 h) hx hb hts (fun w h => hT w (uM_in w h)) tM tM_ok nM hown hK (vP_hd hW) (ci := 1) rfl 3 (by decide) (hts _ (hT _ k_M_13)) (fun _ h => h) rfl hin2 rfl (ty := .array .int) rfl rfl rfl (Nat.le_of_ble_eq_true rfl) (Or.inl rfl) hL d_M_init_81 (fun H1 locs1 hP1 hz1 hq1 hL9 => ?_)
  replace hW : va_P D tcl [(a0, .inr (1, [.int 0, .int 0, .ref h, .ref (h + 1), .null, .null, .null, .null, .null, .int 0, .null, .null, .int 0, .null])), (h, .inl (ci 0, 10, .inl (fun _ => nI 365))), ((h + 1), .inl (ci 0, 8, .inl (fun _ => 0)))] H1 := vP_0 hW hP1 (List.forall_mem_cons.mpr ⟨iNe ha 0, (List.forall_mem_cons.mpr ⟨iNe ha 1, (fun _ h9 => nomatch h9)⟩)⟩) hq1
  replace hz := hz1.trans hz
  replace hq := iQa hq hq1
  replace hL := hL9
  clear hP1 hz1 hq1 hL9
  refine lv_aload_n hx hb d_M_init_84 rfl (lv_at hl 0 rfl) ?_
  refine lv_bipush hx hb d_M_init_85 (v := (nI 8)) rfl ?_
  refine va_newaK (atype := .long) hx hb (hts _ (hT _ k_arr_long)) rfl d_M_init_87 rfl (N := 8) (by decide) (by decide) (by decide) (Nat.le_of_ble_eq_true rfl) (Nat.le_of_ble_eq_true rfl) hz (fun H1 cA e1 z1 o1 hAr hNm => ?_)
  obtain rfl : cA = ci 1 := Option.some.inj (hNm.symm.trans (hK.2 1 _ rfl).2)
  show W p l e _ s m _ below meth c _ _ _ _ _ (F0 m 89 ls [.ref (h + 2), .ref a0])
  replace hW := vP_old hz hW o1
  replace hq := iQo (n := 2) hq o1
  replace hW : va_P D tcl [(a0, .inr (1, [.int 0, .int 0, .ref h, .ref (h + 1), .null, .null, .null, .null, .null, .int 0, .null, .null, .int 0, .null])), (h, .inl (ci 0, 10, .inl (fun _ => nI 365))), ((h + 1), .inl (ci 0, 8, .inl (fun _ => 0))), ((h + 2), .inl (ci 1, 8, .inr (.inl (fun _ => 0))))] H1 := vP_snoc hW (vP_at e1)
  replace hz : H1.size = h + 3 := z1
  clear e1 z1 o1 hAr hNm
  refine tq_putF (F := iF a0 h) hx hb hts (fun w h => hT w (uM_in w h)) tM tM_ok nM hown hK (vP_hd hW) (ci := 1) rfl 4 (by decide) (hts _ (hT _ k_M_16)) (fun _ h => h) rfl hin2 rfl (ty := .array .long) rfl rfl rfl (Nat.le_of_ble_eq_true rfl) (Or.inl rfl) hL d_M_init_89 (fun H1 locs1 hP1 hz1 hq1 hL9 => ?_)
  replace hW : va_P D tcl [(a0, .inr (1, [.int 0, .int 0, .ref h, .ref (h + 1), .ref (h + 2), .null, .null, .null, .null, .int 0, .null, .null, .int 0, .null])), (h, .inl (ci 0, 10, .inl (fun _ => nI 365))), ((h + 1), .inl (ci 0, 8, .inl (fun _ => 0))), ((h + 2), .inl (ci 1, 8, .inr (.inl (fun _ => 0))))] H1 := vP_0 hW hP1 (List.forall_mem_cons.mpr ⟨iNe ha 0, (List.forall_mem_cons.mpr ⟨iNe ha 1, (List.forall_mem_cons.mpr ⟨iNe ha 2, (fun _ h9 => nomatch h9)⟩)⟩)⟩) hq1
  replace hz := hz1.trans hz
  replace hq := iQa hq hq1
  replace hL := hL9
  clear hP1 hz1 hq1 hL9
  refine lv_aload_n hx hb d_M_init_92 rfl (lv_at hl 0 rfl) ?_
  refine lv_bipush hx hb d_M_init_93 (v := (nI 8)) rfl ?_
  refine va_newaK (atype := .long) hx hb (hts _ (hT _ k_arr_long)) rfl d_M_init_95 rfl (N := 8) (by decide) (by decide) (by decide) (Nat.le_of_ble_eq_true rfl) (Nat.le_of_ble_eq_true rfl) hz (fun H1 cA e1 z1 o1 hAr hNm => ?_)
  obtain rfl : cA = ci 1 := Option.some.inj (hNm.symm.trans (hK.2 1 _ rfl).2)
  show W p l e _ s m _ below meth c _ _ _ _ _ (F0 m 97 ls [.ref (h + 3), .ref a0])
  replace hW := vP_old hz hW o1
  replace hq := iQo (n := 3) hq o1
  replace hW : va_P D tcl [(a0, .inr (1, [.int 0, .int 0, .ref h, .ref (h + 1), .ref (h + 2), .null, .null, .null, .null, .int 0, .null, .null, .int 0, .null])), (h, .inl (ci 0, 10, .inl (fun _ => nI 365))), ((h + 1), .inl (ci 0, 8, .inl (fun _ => 0))), ((h + 2), .inl (ci 1, 8, .inr (.inl (fun _ => 0)))), ((h + 3), .inl (ci 1, 8, .inr (.inl (fun _ => 0))))] H1 := vP_snoc hW (vP_at e1)
  replace hz : H1.size = h + 4 := z1
  clear e1 z1 o1 hAr hNm
  refine tq_putF (F := iF a0 h) hx hb hts (fun w h => hT w (uM_in w h)) tM tM_ok nM hown hK (vP_hd hW) (ci := 1) rfl 5 (by decide) (hts _ (hT _ k_M_20)) (fun _ h => h) rfl hin2 rfl (ty := .array .long) rfl rfl rfl (Nat.le_of_ble_eq_true rfl) (Or.inl rfl) hL d_M_init_97 (fun H1 locs1 hP1 hz1 hq1 hL9 => ?_)
  replace hW : va_P D tcl [(a0, .inr (1, [.int 0, .int 0, .ref h, .ref (h + 1), .ref (h + 2), .ref (h + 3), .null, .null, .null, .int 0, .null, .null, .int 0, .null])), (h, .inl (ci 0, 10, .inl (fun _ => nI 365))), ((h + 1), .inl (ci 0, 8, .inl (fun _ => 0))), ((h + 2), .inl (ci 1, 8, .inr (.inl (fun _ => 0)))), ((h + 3), .inl (ci 1, 8, .inr (.inl (fun _ => 0))))] H1 := vP_0 hW hP1 (List.forall_mem_cons.mpr ⟨iNe ha 0, (List.forall_mem_cons.mpr ⟨iNe ha 1, (List.forall_mem_cons.mpr ⟨iNe ha 2, (List.forall_mem_cons.mpr ⟨iNe ha 3, (fun _ h9 => nomatch h9)⟩)⟩)⟩)⟩) hq1
  replace hz := hz1.trans hz
  replace hq := iQa hq hq1
  replace hL := hL9
  clear hP1 hz1 hq1 hL9
  refine lv_aload_n hx hb d_M_init_100 rfl (lv_at hl 0 rfl) ?_
  refine lv_bipush hx hb d_M_init_101 (v := (nI 80)) rfl ?_
  refine va_newaK (atype := .int) hx hb (hts _ (hT _ k_arr_int)) rfl d_M_init_103 rfl (N := 80) (by decide) (by decide) (by decide) (Nat.le_of_ble_eq_true rfl) (Nat.le_of_ble_eq_true rfl) hz (fun H1 cA e1 z1 o1 hAr hNm => ?_)
  obtain rfl : cA = ci 0 := Option.some.inj (hNm.symm.trans (hK.2 0 _ rfl).2)
  show W p l e _ s m _ below meth c _ _ _ _ _ (F0 m 105 ls [.ref (h + 4), .ref a0])
  replace hW := vP_old hz hW o1
  replace hq := iQo (n := 4) hq o1
  replace hW : va_P D tcl [(a0, .inr (1, [.int 0, .int 0, .ref h, .ref (h + 1), .ref (h + 2), .ref (h + 3), .null, .null, .null, .int 0, .null, .null, .int 0, .null])), (h, .inl (ci 0, 10, .inl (fun _ => nI 365))), ((h + 1), .inl (ci 0, 8, .inl (fun _ => 0))), ((h + 2), .inl (ci 1, 8, .inr (.inl (fun _ => 0)))), ((h + 3), .inl (ci 1, 8, .inr (.inl (fun _ => 0)))), ((h + 4), .inl (ci 0, 80, .inl (fun _ => 0)))] H1 := vP_snoc hW (vP_at e1)
  replace hz : H1.size = h + 5 := z1
  clear e1 z1 o1 hAr hNm
  refine tq_putF (F := iF a0 h) hx hb hts (fun w h => hT w (uM_in w h)) tM tM_ok nM hown hK (vP_hd hW) (ci := 1) rfl 6 (by decide) (hts _ (hT _ k_M_23)) (fun _ h => h) rfl hin2 rfl (ty := .array .int) rfl rfl rfl (Nat.le_of_ble_eq_true rfl) (Or.inl rfl) hL d_M_init_105 (fun H1 locs1 hP1 hz1 hq1 hL9 => ?_)
  replace hW : va_P D tcl [(a0, .inr (1, [.int 0, .int 0, .ref h, .ref (h + 1), .ref (h + 2), .ref (h + 3), .ref (h + 4), .null, .null, .int 0, .null, .null, .int 0, .null])), (h, .inl (ci 0, 10, .inl (fun _ => nI 365))), ((h + 1), .inl (ci 0, 8, .inl (fun _ => 0))), ((h + 2), .inl (ci 1, 8, .inr (.inl (fun _ => 0)))), ((h + 3), .inl (ci 1, 8, .inr (.inl (fun _ => 0)))), ((h + 4), .inl (ci 0, 80, .inl (fun _ => 0)))] H1 := vP_0 hW hP1 (List.forall_mem_cons.mpr ⟨iNe ha 0, (List.forall_mem_cons.mpr ⟨iNe ha 1, (List.forall_mem_cons.mpr ⟨iNe ha 2, (List.forall_mem_cons.mpr ⟨iNe ha 3, (List.forall_mem_cons.mpr ⟨iNe ha 4, (fun _ h9 => nomatch h9)⟩)⟩)⟩)⟩)⟩) hq1
  replace hz := hz1.trans hz
  replace hq := iQa hq hq1
  replace hL := hL9
  clear hP1 hz1 hq1 hL9
  refine lv_aload_n hx hb d_M_init_108 rfl (lv_at hl 0 rfl) ?_
  refine lv_bipush hx hb d_M_init_109 (v := (nI 80)) rfl ?_
  refine va_newaK (atype := .long) hx hb (hts _ (hT _ k_arr_long)) rfl d_M_init_111 rfl (N := 80) (by decide) (by decide) (by decide) (Nat.le_of_ble_eq_true rfl) (Nat.le_of_ble_eq_true rfl) hz (fun H1 cA e1 z1 o1 hAr hNm => ?_)
  obtain rfl : cA = ci 1 := Option.some.inj (hNm.symm.trans (hK.2 1 _ rfl).2)
  show W p l e _ s m _ below meth c _ _ _ _ _ (F0 m 113 ls [.ref (h + 5), .ref a0])
  replace hW := vP_old hz hW o1
  replace hq := iQo (n := 5) hq o1
  replace hW : va_P D tcl [(a0, .inr (1, [.int 0, .int 0, .ref h, .ref (h + 1), .ref (h + 2), .ref (h + 3), .ref (h + 4), .null, .null, .int 0, .null, .null, .int 0, .null])), (h, .inl (ci 0, 10, .inl (fun _ => nI 365))), ((h + 1), .inl (ci 0, 8, .inl (fun _ => 0))), ((h + 2), .inl (ci 1, 8, .inr (.inl (fun _ => 0)))), ((h + 3), .inl (ci 1, 8, .inr (.inl (fun _ => 0)))), ((h + 4), .inl (ci 0, 80, .inl (fun _ => 0))), ((h + 5), .inl (ci 1, 80, .inr (.inl (fun _ => 0))))] H1 := vP_snoc hW (vP_at e1)
  replace hz : H1.size = h + 6 := z1
  clear e1 z1 o1 hAr hNm
  refine tq_putF (F := iF a0 h) hx hb hts (fun w h => hT w (uM_in w h)) tM tM_ok nM hown hK (vP_hd hW) (ci := 1) rfl 7 (by decide) (hts _ (hT _ k_M_26)) (fun _ h => h) rfl hin2 rfl (ty := .array .long) rfl rfl rfl (Nat.le_of_ble_eq_true rfl) (Or.inl rfl) hL d_M_init_113 (fun H1 locs1 hP1 hz1 hq1 hL9 => ?_)
  replace hW : va_P D tcl [(a0, .inr (1, [.int 0, .int 0, .ref h, .ref (h + 1), .ref (h + 2), .ref (h + 3), .ref (h + 4), .ref (h + 5), .null, .int 0, .null, .null, .int 0, .null])), (h, .inl (ci 0, 10, .inl (fun _ => nI 365))), ((h + 1), .inl (ci 0, 8, .inl (fun _ => 0))), ((h + 2), .inl (ci 1, 8, .inr (.inl (fun _ => 0)))), ((h + 3), .inl (ci 1, 8, .inr (.inl (fun _ => 0)))), ((h + 4), .inl (ci 0, 80, .inl (fun _ => 0))), ((h + 5), .inl (ci 1, 80, .inr (.inl (fun _ => 0))))] H1 := vP_0 hW hP1 (List.forall_mem_cons.mpr ⟨iNe ha 0, (List.forall_mem_cons.mpr ⟨iNe ha 1, (List.forall_mem_cons.mpr ⟨iNe ha 2, (List.forall_mem_cons.mpr ⟨iNe ha 3, (List.forall_mem_cons.mpr ⟨iNe ha 4, (List.forall_mem_cons.mpr ⟨iNe ha 5, (fun _ h9 => nomatch h9)⟩)⟩)⟩)⟩)⟩)⟩) hq1
  replace hz := hz1.trans hz
  replace hq := iQa hq hq1
  replace hL := hL9
  clear hP1 hz1 hq1 hL9
  refine lv_aload_n hx hb d_M_init_116 rfl (lv_at hl 0 rfl) ?_
  refine lv_sipush hx hb d_M_init_117 (v := (nI 1440)) rfl ?_
  refine va_newaK (atype := .int) hx hb (hts _ (hT _ k_arr_int)) rfl d_M_init_120 rfl (N := 1440) (by decide) (by decide) (by decide) (Nat.le_of_ble_eq_true rfl) (Nat.le_of_ble_eq_true rfl) hz (fun H1 cA e1 z1 o1 hAr hNm => ?_)
  obtain rfl : cA = ci 0 := Option.some.inj (hNm.symm.trans (hK.2 0 _ rfl).2)
  show W p l e _ s m _ below meth c _ _ _ _ _ (F0 m 122 ls [.ref (h + 6), .ref a0])
  replace hW := vP_old hz hW o1
  replace hq := iQo (n := 6) hq o1
  replace hW : va_P D tcl [(a0, .inr (1, [.int 0, .int 0, .ref h, .ref (h + 1), .ref (h + 2), .ref (h + 3), .ref (h + 4), .ref (h + 5), .null, .int 0, .null, .null, .int 0, .null])), (h, .inl (ci 0, 10, .inl (fun _ => nI 365))), ((h + 1), .inl (ci 0, 8, .inl (fun _ => 0))), ((h + 2), .inl (ci 1, 8, .inr (.inl (fun _ => 0)))), ((h + 3), .inl (ci 1, 8, .inr (.inl (fun _ => 0)))), ((h + 4), .inl (ci 0, 80, .inl (fun _ => 0))), ((h + 5), .inl (ci 1, 80, .inr (.inl (fun _ => 0)))), ((h + 6), .inl (ci 0, 1440, .inl (fun _ => 0)))] H1 := vP_snoc hW (vP_at e1)
  replace hz : H1.size = h + 7 := z1
  clear e1 z1 o1 hAr hNm
  refine tq_putF (F := iF a0 h) hx hb hts (fun w h => hT w (uM_in w h)) tM tM_ok nM hown hK (vP_hd hW) (ci := 1) rfl 8 (by decide) (hts _ (hT _ k_M_29)) (fun _ h => h) rfl hin2 rfl (ty := .array .int) rfl rfl rfl (Nat.le_of_ble_eq_true rfl) (Or.inl rfl) hL d_M_init_122 (fun H1 locs1 hP1 hz1 hq1 hL9 => ?_)
  replace hW : va_P D tcl [(a0, .inr (1, [.int 0, .int 0, .ref h, .ref (h + 1), .ref (h + 2), .ref (h + 3), .ref (h + 4), .ref (h + 5), .ref (h + 6), .int 0, .null, .null, .int 0, .null])), (h, .inl (ci 0, 10, .inl (fun _ => nI 365))), ((h + 1), .inl (ci 0, 8, .inl (fun _ => 0))), ((h + 2), .inl (ci 1, 8, .inr (.inl (fun _ => 0)))), ((h + 3), .inl (ci 1, 8, .inr (.inl (fun _ => 0)))), ((h + 4), .inl (ci 0, 80, .inl (fun _ => 0))), ((h + 5), .inl (ci 1, 80, .inr (.inl (fun _ => 0)))), ((h + 6), .inl (ci 0, 1440, .inl (fun _ => 0)))] H1 := vP_0 hW hP1 (List.forall_mem_cons.mpr ⟨iNe ha 0, (List.forall_mem_cons.mpr ⟨iNe ha 1, (List.forall_mem_cons.mpr ⟨iNe ha 2, (List.forall_mem_cons.mpr ⟨iNe ha 3, (List.forall_mem_cons.mpr ⟨iNe ha 4, (List.forall_mem_cons.mpr ⟨iNe ha 5, (List.forall_mem_cons.mpr ⟨iNe ha 6, (fun _ h9 => nomatch h9)⟩)⟩)⟩)⟩)⟩)⟩)⟩) hq1
  replace hz := hz1.trans hz
  replace hq := iQa hq hq1
  replace hL := hL9
  clear hP1 hz1 hq1 hL9
  refine lv_aload_n hx hb d_M_init_125 rfl (lv_at hl 0 rfl) ?_
  refine lv_sipush hx hb d_M_init_126 (v := (nI 1440)) rfl ?_
  refine va_newaK (atype := .int) hx hb (hts _ (hT _ k_arr_int)) rfl d_M_init_129 rfl (N := 1440) (by decide) (by decide) (by decide) (Nat.le_of_ble_eq_true rfl) (Nat.le_of_ble_eq_true rfl) hz (fun H1 cA e1 z1 o1 hAr hNm => ?_)
  obtain rfl : cA = ci 0 := Option.some.inj (hNm.symm.trans (hK.2 0 _ rfl).2)
  show W p l e _ s m _ below meth c _ _ _ _ _ (F0 m 131 ls [.ref (h + 7), .ref a0])
  replace hW := vP_old hz hW o1
  replace hq := iQo (n := 7) hq o1
  replace hW : va_P D tcl [(a0, .inr (1, [.int 0, .int 0, .ref h, .ref (h + 1), .ref (h + 2), .ref (h + 3), .ref (h + 4), .ref (h + 5), .ref (h + 6), .int 0, .null, .null, .int 0, .null])), (h, .inl (ci 0, 10, .inl (fun _ => nI 365))), ((h + 1), .inl (ci 0, 8, .inl (fun _ => 0))), ((h + 2), .inl (ci 1, 8, .inr (.inl (fun _ => 0)))), ((h + 3), .inl (ci 1, 8, .inr (.inl (fun _ => 0)))), ((h + 4), .inl (ci 0, 80, .inl (fun _ => 0))), ((h + 5), .inl (ci 1, 80, .inr (.inl (fun _ => 0)))), ((h + 6), .inl (ci 0, 1440, .inl (fun _ => 0))), ((h + 7), .inl (ci 0, 1440, .inl (fun _ => 0)))] H1 := vP_snoc hW (vP_at e1)
  replace hz : H1.size = h + 8 := z1
  clear e1 z1 o1 hAr hNm
  refine tq_putF (F := iF a0 h) hx hb hts (fun w h => hT w (uM_in w h)) tM tM_ok nM hown hK (vP_hd hW) (ci := 1) rfl 10 (by decide) (hts _ (hT _ k_M_32)) (fun _ h => h) rfl hin2 rfl (ty := .array .int) rfl rfl rfl (Nat.le_of_ble_eq_true rfl) (Or.inl rfl) hL d_M_init_131 (fun H1 locs1 hP1 hz1 hq1 hL9 => ?_)
  replace hW : va_P D tcl [(a0, .inr (1, [.int 0, .int 0, .ref h, .ref (h + 1), .ref (h + 2), .ref (h + 3), .ref (h + 4), .ref (h + 5), .ref (h + 6), .int 0, .ref (h + 7), .null, .int 0, .null])), (h, .inl (ci 0, 10, .inl (fun _ => nI 365))), ((h + 1), .inl (ci 0, 8, .inl (fun _ => 0))), ((h + 2), .inl (ci 1, 8, .inr (.inl (fun _ => 0)))), ((h + 3), .inl (ci 1, 8, .inr (.inl (fun _ => 0)))), ((h + 4), .inl (ci 0, 80, .inl (fun _ => 0))), ((h + 5), .inl (ci 1, 80, .inr (.inl (fun _ => 0)))), ((h + 6), .inl (ci 0, 1440, .inl (fun _ => 0))), ((h + 7), .inl (ci 0, 1440, .inl (fun _ => 0)))] H1 := vP_0 hW hP1 (List.forall_mem_cons.mpr ⟨iNe ha 0, (List.forall_mem_cons.mpr ⟨iNe ha 1, (List.forall_mem_cons.mpr ⟨iNe ha 2, (List.forall_mem_cons.mpr ⟨iNe ha 3, (List.forall_mem_cons.mpr ⟨iNe ha 4, (List.forall_mem_cons.mpr ⟨iNe ha 5, (List.forall_mem_cons.mpr ⟨iNe ha 6, (List.forall_mem_cons.mpr ⟨iNe ha 7, (fun _ h9 => nomatch h9)⟩)⟩)⟩)⟩)⟩)⟩)⟩)⟩) hq1
  replace hz := hz1.trans hz
  replace hq := iQa hq hq1
  replace hL := hL9
  clear hP1 hz1 hq1 hL9
  refine lv_aload_n hx hb d_M_init_134 rfl (lv_at hl 0 rfl) ?_
  refine lv_sipush hx hb d_M_init_135 (v := (nI 1440)) rfl ?_
  refine va_newaK (atype := .boolean) hx hb (hts _ (hT _ k_arr_boolean)) rfl d_M_init_138 rfl (N := 1440) (by decide) (by decide) (by decide) (Nat.le_of_ble_eq_true rfl) (Nat.le_of_ble_eq_true rfl) hz (fun H1 cA e1 z1 o1 hAr hNm => ?_)
  obtain rfl : cA = ci 4 := Option.some.inj (hNm.symm.trans (hK.2 4 _ rfl).2)
  show W p l e _ s m _ below meth c _ _ _ _ _ (F0 m 140 ls [.ref (h + 8), .ref a0])
  replace hW := vP_old hz hW o1
  replace hq := iQo (n := 8) hq o1
  replace hW : va_P D tcl [(a0, .inr (1, [.int 0, .int 0, .ref h, .ref (h + 1), .ref (h + 2), .ref (h + 3), .ref (h + 4), .ref (h + 5), .ref (h + 6), .int 0, .ref (h + 7), .null, .int 0, .null])), (h, .inl (ci 0, 10, .inl (fun _ => nI 365))), ((h + 1), .inl (ci 0, 8, .inl (fun _ => 0))), ((h + 2), .inl (ci 1, 8, .inr (.inl (fun _ => 0)))), ((h + 3), .inl (ci 1, 8, .inr (.inl (fun _ => 0)))), ((h + 4), .inl (ci 0, 80, .inl (fun _ => 0))), ((h + 5), .inl (ci 1, 80, .inr (.inl (fun _ => 0)))), ((h + 6), .inl (ci 0, 1440, .inl (fun _ => 0))), ((h + 7), .inl (ci 0, 1440, .inl (fun _ => 0))), ((h + 8), .inl (ci 4, 1440, .inl (fun _ => 0)))] H1 := vP_snoc hW (vP_at e1)
  replace hz : H1.size = h + 9 := z1
  clear e1 z1 o1 hAr hNm
  refine tq_putF (F := iF a0 h) hx hb hts (fun w h => hT w (uM_in w h)) tM tM_ok nM hown hK (vP_hd hW) (ci := 1) rfl 11 (by decide) (hts _ (hT _ k_M_35)) (fun _ h => h) rfl hin2 rfl (ty := .array .boolean) rfl rfl rfl (Nat.le_of_ble_eq_true rfl) (Or.inl rfl) hL d_M_init_140 (fun H1 locs1 hP1 hz1 hq1 hL9 => ?_)
  replace hW : va_P D tcl [(a0, .inr (1, [.int 0, .int 0, .ref h, .ref (h + 1), .ref (h + 2), .ref (h + 3), .ref (h + 4), .ref (h + 5), .ref (h + 6), .int 0, .ref (h + 7), .ref (h + 8), .int 0, .null])), (h, .inl (ci 0, 10, .inl (fun _ => nI 365))), ((h + 1), .inl (ci 0, 8, .inl (fun _ => 0))), ((h + 2), .inl (ci 1, 8, .inr (.inl (fun _ => 0)))), ((h + 3), .inl (ci 1, 8, .inr (.inl (fun _ => 0)))), ((h + 4), .inl (ci 0, 80, .inl (fun _ => 0))), ((h + 5), .inl (ci 1, 80, .inr (.inl (fun _ => 0)))), ((h + 6), .inl (ci 0, 1440, .inl (fun _ => 0))), ((h + 7), .inl (ci 0, 1440, .inl (fun _ => 0))), ((h + 8), .inl (ci 4, 1440, .inl (fun _ => 0)))] H1 := vP_0 hW hP1 (List.forall_mem_cons.mpr ⟨iNe ha 0, (List.forall_mem_cons.mpr ⟨iNe ha 1, (List.forall_mem_cons.mpr ⟨iNe ha 2, (List.forall_mem_cons.mpr ⟨iNe ha 3, (List.forall_mem_cons.mpr ⟨iNe ha 4, (List.forall_mem_cons.mpr ⟨iNe ha 5, (List.forall_mem_cons.mpr ⟨iNe ha 6, (List.forall_mem_cons.mpr ⟨iNe ha 7, (List.forall_mem_cons.mpr ⟨iNe ha 8, (fun _ h9 => nomatch h9)⟩)⟩)⟩)⟩)⟩)⟩)⟩)⟩)⟩) hq1
  replace hz := hz1.trans hz
  replace hq := iQa hq hq1
  replace hL := hL9
  clear hP1 hz1 hq1 hL9
  refine lv_aload_n hx hb d_M_init_143 rfl (lv_at hl 0 rfl) ?_
  refine lv_bipush hx hb d_M_init_144 (v := (nI 40)) rfl ?_
  refine va_newaK (atype := .int) hx hb (hts _ (hT _ k_arr_int)) rfl d_M_init_146 rfl (N := 40) (by decide) (by decide) (by decide) (Nat.le_of_ble_eq_true rfl) (Nat.le_of_ble_eq_true rfl) hz (fun H1 cA e1 z1 o1 hAr hNm => ?_)
  obtain rfl : cA = ci 0 := Option.some.inj (hNm.symm.trans (hK.2 0 _ rfl).2)
  show W p l e _ s m _ below meth c _ _ _ _ _ (F0 m 148 ls [.ref (h + 9), .ref a0])
  replace hW := vP_old hz hW o1
  replace hq := iQo (n := 9) hq o1
  replace hW : va_P D tcl [(a0, .inr (1, [.int 0, .int 0, .ref h, .ref (h + 1), .ref (h + 2), .ref (h + 3), .ref (h + 4), .ref (h + 5), .ref (h + 6), .int 0, .ref (h + 7), .ref (h + 8), .int 0, .null])), (h, .inl (ci 0, 10, .inl (fun _ => nI 365))), ((h + 1), .inl (ci 0, 8, .inl (fun _ => 0))), ((h + 2), .inl (ci 1, 8, .inr (.inl (fun _ => 0)))), ((h + 3), .inl (ci 1, 8, .inr (.inl (fun _ => 0)))), ((h + 4), .inl (ci 0, 80, .inl (fun _ => 0))), ((h + 5), .inl (ci 1, 80, .inr (.inl (fun _ => 0)))), ((h + 6), .inl (ci 0, 1440, .inl (fun _ => 0))), ((h + 7), .inl (ci 0, 1440, .inl (fun _ => 0))), ((h + 8), .inl (ci 4, 1440, .inl (fun _ => 0))), ((h + 9), .inl (ci 0, 40, .inl (fun _ => 0)))] H1 := vP_snoc hW (vP_at e1)
  replace hz : H1.size = h + 10 := z1
  clear e1 z1 o1 hAr hNm
  refine tq_putF (F := iF a0 h) hx hb hts (fun w h => hT w (uM_in w h)) tM tM_ok nM hown hK (vP_hd hW) (ci := 1) rfl 13 (by decide) (hts _ (hT _ k_M_39)) (fun _ h => h) rfl hin2 rfl (ty := .array .int) rfl rfl rfl (Nat.le_of_ble_eq_true rfl) (Or.inl rfl) hL d_M_init_148 (fun H1 locs1 hP1 hz1 hq1 hL9 => ?_)
  replace hW : va_P D tcl [(a0, .inr (1, [.int 0, .int 0, .ref h, .ref (h + 1), .ref (h + 2), .ref (h + 3), .ref (h + 4), .ref (h + 5), .ref (h + 6), .int 0, .ref (h + 7), .ref (h + 8), .int 0, .ref (h + 9)])), (h, .inl (ci 0, 10, .inl (fun _ => nI 365))), ((h + 1), .inl (ci 0, 8, .inl (fun _ => 0))), ((h + 2), .inl (ci 1, 8, .inr (.inl (fun _ => 0)))), ((h + 3), .inl (ci 1, 8, .inr (.inl (fun _ => 0)))), ((h + 4), .inl (ci 0, 80, .inl (fun _ => 0))), ((h + 5), .inl (ci 1, 80, .inr (.inl (fun _ => 0)))), ((h + 6), .inl (ci 0, 1440, .inl (fun _ => 0))), ((h + 7), .inl (ci 0, 1440, .inl (fun _ => 0))), ((h + 8), .inl (ci 4, 1440, .inl (fun _ => 0))), ((h + 9), .inl (ci 0, 40, .inl (fun _ => 0)))] H1 := vP_0 hW hP1 (List.forall_mem_cons.mpr ⟨iNe ha 0, (List.forall_mem_cons.mpr ⟨iNe ha 1, (List.forall_mem_cons.mpr ⟨iNe ha 2, (List.forall_mem_cons.mpr ⟨iNe ha 3, (List.forall_mem_cons.mpr ⟨iNe ha 4, (List.forall_mem_cons.mpr ⟨iNe ha 5, (List.forall_mem_cons.mpr ⟨iNe ha 6, (List.forall_mem_cons.mpr ⟨iNe ha 7, (List.forall_mem_cons.mpr ⟨iNe ha 8, (List.forall_mem_cons.mpr ⟨iNe ha 9, (fun _ h9 => nomatch h9)⟩)⟩)⟩)⟩)⟩)⟩)⟩)⟩)⟩)⟩) hq1
  replace hz := hz1.trans hz
  replace hq := iQa hq hq1
  replace hL := hL9
  clear hP1 hz1 hq1 hL9
  refine lv_iconst hx hb d_M_init_151 (v := (nI 0)) rfl ?_
  refine lv_istore_n hx hb d_M_init_152 rfl hl (by decide) (lv' := [(1, .int (nI 0)), (0, .ref a0)]) rfl (fun ls hl => ?_)
  refine l_M_init hx hb hts hT hown hK ha (fun H1 locs1 ls hW hz hq hL => ?_) 80 0 H1 locs1 ls rfl hW hz hq hL hl
  have e5 := vP_same (f' := fun _ => nI 65536) (vP_pick hW 5 rfl) (fun j hj => by rw [if_pos hj])
  have hW : va_P D tcl [(a0, .inr (1, [.int 0, .int 0, .ref h, .ref (h + 1), .ref (h + 2), .ref (h + 3), .ref (h + 4), .ref (h + 5), .ref (h + 6), .int 0, .ref (h + 7), .ref (h + 8), .int 0, .ref (h + 9)])), (h, .inl (ci 0, 10, .inl (fun _ => nI 365))), ((h + 1), .inl (ci 0, 8, .inl (fun _ => 0))), ((h + 2), .inl (ci 1, 8, .inr (.inl (fun _ => 0)))), ((h + 3), .inl (ci 1, 8, .inr (.inl (fun _ => 0)))), ((h + 4), .inl (ci 0, 80, .inl (fun _ => nI 65536))), ((h + 5), .inl (ci 1, 80, .inr (.inl (fun _ => 0)))), ((h + 6), .inl (ci 0, 1440, .inl (fun _ => 0))), ((h + 7), .inl (ci 0, 1440, .inl (fun _ => 0))), ((h + 8), .inl (ci 4, 1440, .inl (fun _ => 0))), ((h + 9), .inl (ci 0, 40, .inl (fun _ => 0)))] H1 := vP_set hW 5 rfl e5 (fun j hj => by rcases j with _ | _ | _ | _ | _ | _ | _ | _ | _ | _ | _ |  j <;> first | exact absurd rfl hj | rfl) (fun j y hj hy => by rcases j with _ | _ | _ | _ | _ | _ | _ | _ | _ | _ | _ |  j <;> first | exact absurd rfl hj | (cases hy; show (_ : Nat) ≠ _; omega) | cases hy) (fun _ _ => rfl)
  have hM : tm D ci (amX a0 h) ts0 0 0 0 (fun _ => 0) (fun _ => 0) (fun _ => 0) (fun _ => 0) H1 := hW
  exact W.vret hx hb hr (fun t ht hW9 => ⟨_, rfl, rfl, by rw [ht]; exact hM, by rw [ht]; exact hz, by rw [ht]; exact hq⟩) hL d_M_init_173
