/-! the constructors. Written by wip/whole/gen.py -/
def ts0 : TS := (0, fun _ => 0, fun _ => 0, fun _ => 0, fun _ _ => 65536, fun _ _ => 0, fun _ => 365)
theorem ts0_ok : tt_ok ts0 := ⟨⟨by decide, by decide⟩, fun i _ => ⟨by show 0 ≤ 100000; decide, by show 0 < 1099511627776; decide, by show 0 < 281474976710656; decide⟩, fun i _ y _ => ⟨by show 65536 ≤ 81920; decide, by show 0 < 281474976710656; decide⟩, fun y _ => Or.inl rfl⟩
theorem ts0_db : ∀ k, tt_db (tt_day ts0) k = 365 * k := by
  intro k
  induction k with
  | zero => rfl
  | succ k ih =>
    show tt_db (tt_day ts0) k + 365 = _
    rw [ih]
    omega
def iF (a0 h : Nat) : Nat → Prop := fun q => q = a0 ∨ h ≤ q
def adE : Nat → Nat := fun k => match k with
  | 0 => 0
  | 1 => 0
  | 2 => 1
  | 3 => 2
  | 4 => 3
  | 5 => 12
  | 6 => 21
  | 7 => 22
  | k + 8 => if k < 8 then 4 + k else 5 + k
def adX (a0 h : Nat) : Nat → Nat := fun k => if k = 0 then a0 else h + adE k
theorem adX_f {a0 h i : Nat} (hi : i < 8) : adX a0 h (8 + i) = h + 4 + i := by
  rw [Nat.add_comm 8 i]
  show (if i + 8 = 0 then _ else h + (if i < 8 then 4 + i else 5 + i)) = _
  rw [if_neg (by omega), if_pos hi]
  omega
theorem adX_s {a0 h i : Nat} (hi : i < 8) : adX a0 h (16 + i) = h + 13 + i := by
  rw [show 16 + i = (8 + i) + 8 by omega]
  show (if 8 + i + 8 = 0 then _ else h + (if 8 + i < 8 then 4 + (8 + i) else 5 + (8 + i))) = _
  rw [if_neg (by omega), if_neg (by omega)]
  omega
theorem adE_inj : ∀ i, i < 24 → ∀ j, j < 24 → 1 ≤ i → 1 ≤ j → adE i = adE j → i = j := by decide +kernel
theorem adX_ge {a0 h k : Nat} (hk : k ≠ 0) : h ≤ adX a0 h k := by
  unfold adX
  rw [if_neg hk]
  omega
theorem adX_D {a0 h : Nat} (ha : a0 < h) : tx_D (adX a0 h) := by
  intro i j hi hj he
  by_cases ei : i = 0
  · by_cases ej : j = 0
    · omega
    · have h2 := adX_ge (a0 := a0) (h := h) ej
      have h1 : adX a0 h i = a0 := by rw [ei]; rfl
      omega
  · by_cases ej : j = 0
    · have h2 := adX_ge (a0 := a0) (h := h) ei
      have h1 : adX a0 h j = a0 := by rw [ej]; rfl
      omega
    · unfold adX at he
      rw [if_neg ei, if_neg ej] at he
      exact adE_inj i hi j hj (by omega) (by omega) (by omega)
def amX (a0 h : Nat) : Nat → Nat := fun k => if k = 0 then a0 else h + (k - 1)
theorem amX_D {a0 h : Nat} (ha : a0 < h) : mD (amX a0 h) := by
  intro i j hi hj he
  unfold amX at he
  split at he <;> split at he <;> omega
theorem vP_pick {D : va_G} {cl : List vw_C} {ws : va_W} {H : Heap} (h : va_P D cl ws H) (k : Nat) {x : Nat × va_E} (hx : ws[k]? = some x) : va_P D cl [x] H := fun i q hi => by cases i with | zero => cases hi; exact h k _ hx | succ i => cases hi
theorem iNe {a0 h : Nat} (ha : a0 < h) (k : Nat) : h + k ≠ a0 := by omega
theorem iNr {a0 h b i : Nat} (ha : a0 < h) : h + b + i ≠ a0 := by omega
theorem iQo {a0 h n : Nat} {H0 H H1 : Heap} (hq : ∀ q : Nat, q < h → q ≠ a0 → H[q]? = H0[q]?) (o1 : ∀ q : Nat, q < h + n → H1[q]? = H[q]?) : ∀ q : Nat, q < h → q ≠ a0 → H1[q]? = H0[q]? := fun q h1 h2 => (o1 q (by omega)).trans (hq q h1 h2)
theorem iQa {a0 h : Nat} {H0 H H1 : Heap} (hq : ∀ q : Nat, q < h → q ≠ a0 → H[q]? = H0[q]?) (o1 : ∀ q : Nat, q ≠ a0 → H1[q]? = H[q]?) : ∀ q : Nat, q < h → q ≠ a0 → H1[q]? = H0[q]? := fun q h1 h2 => (o1 q h2).trans (hq q h1 h2)
theorem iQh {a0 h : Nat} {H0 H H1 : Heap} (hq : ∀ q : Nat, q < h → q ≠ a0 → H[q]? = H0[q]?) (o1 : ∀ q : Nat, q ≠ h → H1[q]? = H[q]?) : ∀ q : Nat, q < h → q ≠ a0 → H1[q]? = H0[q]? := fun q h1 h2 => (o1 q (by omega)).trans (hq q h1 h2)
theorem vP_1 {D : va_G} {cl : List vw_C} {a0 h : Nat} {o e e1 : va_E} {H H1 : Heap} (ha : a0 < h) (hW : va_P D cl [(a0, o), (h, e)] H) (hP : va_P D cl [(h, e1)] H1) (hq : ∀ q : Nat, q ≠ h → H1[q]? = H[q]?) : va_P D cl [(a0, o), (h, e1)] H1 := vP_cons (vP_but (vP_hd hW) (fun x hx => by rw [List.mem_singleton.mp hx]; show a0 ≠ h; omega) hq) hP
def wA (D : va_G) (ci : Nat → ClassId) (v n : Nat) (f : Nat → Int32) (U : State) (H : Heap) : Prop := tk D ci U ∧ va_P D tcl [(v, .inl (ci 0, n, .inl f))] H
theorem wA_mv {D : va_G} {ci : Nat → ClassId} {v n : Nat} {f : Nat → Int32} : tmov (wA D ci v n f) := fun _ _ _ hW h => ⟨tk.moved hW h.1, h.2⟩
section G50
variable {p : Program} {l : Launch} {e : Env} {R : Room} {s : State} {m : MethodId} {args : Array Value} {below : List Frame} {meth : Method} {c : Code} {cells slots : Nat} {Q : State → Prop} {Ts : List Cond}
variable {D : va_G} {ci : Nat → ClassId} {v n : Nat} {f : Nat → Int32} {x : Int32} {Fr : Nat → Prop}
set_option maxHeartbeats 4000000 in
set_option maxRecDepth 100000 in
theorem l_J_fill (hx : p.tables.exec = Jvm.exec) (hb : c.code = b_J_fill) (hK : tk D ci s) (hn : n < 100000) (hF : Fr v) {H0 : Heap}
    (kk : ∀ (H : Heap) (locs : List Loc) (ls : Array Slot), va_P D tcl [(v, .inl (ci 0, n, .inl (fun j => if j < n then x else f j)))] H → H.size = H0.size → (∀ q : Nat, q ≠ v → H[q]? = H0[q]?) → (∀ q ∈ locs, Fr q.base) → W p l e R s m args below meth c H locs cells slots Q (F0 m 20 ls [])) :
    ∀ (d k : Nat) (H : Heap) (locs : List Loc) (ls : Array Slot), k + d = n → va_P D tcl [(v, .inl (ci 0, n, .inl (fun j => if j < k then x else f j)))] H → H.size = H0.size → (∀ q : Nat, q ≠ v → H[q]? = H0[q]?) → (∀ q ∈ locs, Fr q.base) → lv_has ls 4 [(3, .int (nI n)), (2, .int (nI k)), (0, .ref v), (1, .int x)] → W p l e R s m args below meth c H locs cells slots Q (F0 m 5 ls []) := by
  intro d
  induction d with
  | zero =>
    intro k H locs ls hk hP hz hq hL hl
    obtain rfl : k = n := by omega
    refine lv_iload_n hx hb d_J_fill_5 rfl (lv_at hl 1 rfl) ?_
    refine lv_iload_n hx hb d_J_fill_6 rfl (lv_at hl 0 rfl) ?_
    refine lv_icmp_ge hx hb d_J_fill_7 (tgt := 20) (by decide) (fun _ => ?_) (fun hno => absurd (nI_le (Nat.le_refl k) (by omega)) hno)
    exact kk H locs ls hP hz hq hL
  | succ d ih =>
    intro k H locs ls hk hP hz hq hL hl
    refine lv_iload_n hx hb d_J_fill_5 rfl (lv_at hl 1 rfl) ?_
    refine lv_iload_n hx hb d_J_fill_6 rfl (lv_at hl 0 rfl) ?_
    refine lv_icmp_ge hx hb d_J_fill_7 (tgt := 20) (by decide) (fun hyes => absurd hyes (nI_ge (show k < n by omega) (by omega))) (fun _ => ?_)
    refine lv_aload_n hx hb d_J_fill_10 rfl (lv_at hl 2 rfl) ?_
    refine lv_iload_n hx hb d_J_fill_11 rfl (lv_at hl 1 rfl) ?_
    refine lv_iload_n hx hb d_J_fill_12 rfl (lv_at hl 3 rfl) ?_
    refine tq_iast (F := Fr) hx hb hK 0 hP rfl (show k < n by omega) (by omega) hF hL d_J_fill_13 (fun H1 locs1 hP1 hz1 hq1 hL => ?_)
    have hP : va_P D tcl [(v, .inl (ci 0, n, .inl (fun j => if j < k + 1 then x else f j)))] H1 := vP_same hP1 (fun j _ => by unfold upd; by_cases e : j = k; rw [if_pos e, if_pos (by omega)]; rw [if_neg e]; dsimp only; by_cases e2 : j < k; rw [if_pos e2, if_pos (by omega)]; rw [if_neg e2, if_neg (by omega)])
    refine lv_iinc hx hb d_J_fill_14 hl (k := 1) rfl (v := (nI (k + 1))) (by rw [show Int32.ofInt 1 = 1 from rfl]; exact nI_1 k) (by decide) (lv' := [(2, .int (nI (k + 1))), (3, .int (nI n)), (0, .ref v), (1, .int x)]) rfl (fun ls hl => ?_)
    refine lv_goto hx hb d_J_fill_17 (tgt := 5) (by decide) ?_
    have hl := lv_sub hl (l' := [(3, .int (nI n)), (2, .int (nI (k + 1))), (0, .ref v), (1, .int x)]) [1, 0, 2, 3] rfl
    exact ih (k + 1) H1 locs1 ls (by omega) hP (hz1.trans hz) (fun q h => (hq1 q h).trans (hq q h)) hL hl
end G50
set_option maxHeartbeats 4000000 in
set_option maxRecDepth 100000 in
theorem c_J_fill (l : Launch) (D : va_G) (ci : Nat → ClassId) (v n : Nat) (f : Nat → Int32) (x : Int32) (hn : n < 100000) (Fr : Nat → Prop) (hF : Fr v) : Met l y_J_fill (wT y_J_fill b_J_fill 4 none) (rP 0 0) (tb (wA D ci v n f) [.ref v, .int x]) (tq_Q (fun o9 H H1 => o9 = none ∧ va_P D tcl [(v, .inl (ci 0, n, .inl (fun _ => x)))] H1 ∧ H1.size = H.size ∧ ∀ q : Nat, q ≠ v → H1[q]? = H[q]?)) 0 0 Fr := by
  refine va_MetF (cc := b_J_fill) (maxL := 4) (ret := none) (by decide +kernel) rfl ?_
  intro p e s m args below meth c s₁ B hml hv
  obtain ⟨rfl, hK, hP⟩ := hv
  have hx := B.exec
  have hb := B.bytes
  have hr := B.returns
  have hts := atoms_spec (ws := wT y_J_fill b_J_fill 4 none) B.pre
  have hT : ∀ w ∈ TT, w ∈ wT y_J_fill b_J_fill 4 none := wT_T
  have hown : s.vm.findClass "java/util/Arrays" = some m.cls := findClass_of_methodNamed B.named
  have hlocks := B.notSynchronized
  have hl := lv_entry ([.ref v, .int x]) (n := 4) (Nat.le_of_ble_eq_true rfl)
  rw [lg_entry_eq]
  generalize (lg_sl ([.ref v, .int x]) ++ List.replicate (4 - (lg_sl ([.ref v, .int x])).length) Slot.unset).toArray = ls at hl ⊢
  have hl : lv_has ls 4 [(0, .ref v), (1, .int x)] := hl
  refine lv_iconst hx hb d_J_fill_0 (v := (nI 0)) rfl ?_
  refine lv_istore_n hx hb d_J_fill_1 rfl hl (by decide) (lv' := [(2, .int (nI 0)), (0, .ref v), (1, .int x)]) rfl (fun ls hl => ?_)
  refine lv_aload_n hx hb d_J_fill_2 rfl (lv_at hl 1 rfl) ?_
  refine va_alen hx hb hK hP 0 0 rfl rfl (v := (nI n)) rfl d_J_fill_3 ?_
  refine lv_istore_n hx hb d_J_fill_4 rfl hl (by decide) (lv' := [(3, .int (nI n)), (2, .int (nI 0)), (0, .ref v), (1, .int x)]) rfl (fun ls hl => ?_)
  refine l_J_fill hx hb hK hn hF (f := f) (H0 := s.heap) (fun H1 locs1 ls hP hz hq hL => ?_) n 0 s.heap [] ls (Nat.zero_add _) (vP_same hP (fun j _ => by rw [if_neg (Nat.not_lt_zero j)])) rfl (fun _ _ => rfl) (fun q hq => nomatch hq) hl
  exact W.vret hx hb hr (fun t ht hW => ⟨_, rfl, rfl, by rw [ht]; exact vP_same hP (fun j hj => by rw [if_pos hj]), by rw [ht]; exact hz, by rw [ht]; exact hq⟩) hL d_J_fill_20
section G50b
variable {p : Program} {l : Launch} {e : Env} {R : Room} {s : State} {m : MethodId} {args : Array Value} {below : List Frame} {meth : Method} {c : Code} {cells slots : Nat} {Q : State → Prop} {Ts : List Cond}
variable {D : va_G} {ci : Nat → ClassId} {a0 h : Nat}
set_option maxHeartbeats 4000000 in
set_option maxRecDepth 100000 in
theorem l_X_init1 (hx : p.tables.exec = Jvm.exec) (hb : c.code = b_X_init) (hts : ∀ w ∈ Ts, w.before args s = true) (hT : ∀ w ∈ TT, w ∈ Ts) (hown : s.vm.findClass RX = some m.cls) (hml : c.maxLocals = 2) (hK : tk D ci s) (ha : a0 < h) (hR : 0 + 1 ≤ R.frames ∧ 8 + (4 + 11) + 0 ≤ R.locals) (hf : cells + 0 ≤ R.cells ∧ slots + 0 ≤ R.slots)
    (kk : ∀ (H : Heap) (locs : List Loc) (ls : Array Slot), va_P D tcl [(a0, .inr (0, [.int 0, .ref h, .ref (h + 1), .ref (h + 2), .ref (h + 3), .ref (h + 12), .ref (h + 21), .ref (h + 22), .int 0, .int (-1)])), (h, .inl (ci 0, 8, .inl (fun _ => 0))), ((h + 1), .inl (ci 1, 8, .inr (.inl (fun _ => 0)))), ((h + 2), .inl (ci 1, 8, .inr (.inl (fun _ => 0)))), ((h + 3), .inl (ci 2, 8, .inr (.inr (.inr (.inr (fun j => some (adX a0 h (8 + j)))))))), ((h + 12), .inl (ci 3, 8, .inr (.inr (.inr (.inr (fun j => some (adX a0 h (16 + j)))))))), ((h + 21), .inl (ci 0, 11, .inl (fun _ => 0))), ((h + 22), .inl (ci 0, 1440, .inl (fun _ => 0)))] H → (∀ i, i < 8 → va_P D tcl [(h + 4 + i, .inl (ci 0, 10, .inl (fun _ => nI 65536)))] H) → (∀ i, i < 8 → va_P D tcl [(h + 13 + i, .inl (ci 1, 10, .inr (.inl (fun _ => 0))))] H) → H.size = h + 23 → (∀ q : Nat, q < h → q ≠ a0 → H[q]? = s.heap[q]?) → (∀ q ∈ locs, iF a0 h q.base) → lv_has ls 2 [(0, .ref a0)] → W p l e R s m args below meth c H locs cells slots Q (F0 m 99 ls [])) :
    ∀ (d k : Nat) (H : Heap) (locs : List Loc) (ls : Array Slot), k + d = 8 → va_P D tcl [(a0, .inr (0, [.int 0, .ref h, .ref (h + 1), .ref (h + 2), .ref (h + 3), .ref (h + 12), .ref (h + 21), .ref (h + 22), .int 0, .int (-1)])), (h, .inl (ci 0, 8, .inl (fun _ => 0))), ((h + 1), .inl (ci 1, 8, .inr (.inl (fun _ => 0)))), ((h + 2), .inl (ci 1, 8, .inr (.inl (fun _ => 0)))), ((h + 3), .inl (ci 2, 8, .inr (.inr (.inr (.inr (fun j => some (adX a0 h (8 + j)))))))), ((h + 12), .inl (ci 3, 8, .inr (.inr (.inr (.inr (fun j => some (adX a0 h (16 + j)))))))), ((h + 21), .inl (ci 0, 11, .inl (fun _ => 0))), ((h + 22), .inl (ci 0, 1440, .inl (fun _ => 0)))] H → (∀ i, i < 8 → va_P D tcl [(h + 4 + i, .inl (ci 0, 10, .inl (fun _ => if i < k then nI 65536 else 0)))] H) → (∀ i, i < 8 → va_P D tcl [(h + 13 + i, .inl (ci 1, 10, .inr (.inl (fun _ => 0))))] H) → H.size = h + 23 → (∀ q : Nat, q < h → q ≠ a0 → H[q]? = s.heap[q]?) → (∀ q ∈ locs, iF a0 h q.base) → lv_has ls 2 [(1, .int (nI k)), (0, .ref a0)] → W p l e R s m args below meth c H locs cells slots Q (F0 m 76 ls []) := by
  intro d
  induction d with
  | zero =>
    intro k H locs ls hk hW hF hG hz hq hL hl
    obtain rfl : k = 8 := by omega
    refine lv_iload_n hx hb d_X_init_76 rfl (lv_at hl 0 rfl) ?_
    refine lv_bipush hx hb d_X_init_77 (v := (nI 8)) rfl ?_
    refine lv_icmp_ge hx hb d_X_init_79 (tgt := 99) (by decide) (fun _ => ?_) (fun hno => absurd (nI_le (Nat.le_refl 8) (by decide)) hno)
    exact kk H locs ls hW (fun i hi => vP_same (hF i hi) (fun j _ => by rw [if_pos hi])) hG hz hq hL (lv_sub hl [1] rfl)
  | succ d ih =>
    intro k H locs ls hk hW hF hG hz hq hL hl
    refine lv_iload_n hx hb d_X_init_76 rfl (lv_at hl 0 rfl) ?_
    refine lv_bipush hx hb d_X_init_77 (v := (nI 8)) rfl ?_
    refine lv_icmp_ge hx hb d_X_init_79 (tgt := 99) (by decide) (fun hyes => absurd hyes (nI_ge (show k < 8 by omega) (by decide))) (fun _ => ?_)
    refine lv_aload_n hx hb d_X_init_82 rfl (lv_at hl 1 rfl) ?_
    refine va_get hx hb hts (fun w h => hT w (uX_in w h)) hown hK hW 0 rfl rfl 4 (by decide) (hts _ (hT _ k_X_22)) (fun _ h => h) rfl d_X_init_83 ?_
    refine lv_iload_n hx hb d_X_init_86 rfl (lv_at hl 0 rfl) ?_
    refine tq_aald hx hb hK hW 4 2 rfl rfl rfl (show k < 8 by omega) (by decide) (z := h + 4 + k) (congrArg some (adX_f (by omega))) d_X_init_87 ?_
    refine lv_ldc hx hb (v := (nI 65536)) hown (hts _ (hT _ k_X_40)) d_X_init_88 ?_
    refine tg_S ⟨hx, hb, hml, hown, hts⟩ hT (c_J_fill l D ci (h + 4 + k) 10 _ (nI 65536) (by decide) (iF a0 h) (Or.inr (by omega))) lk_X_41 wA_mv ⟨hK, hF k (by omega)⟩ rfl hl.1 rfl (Nat.le_of_ble_eq_true rfl) d_X_init_90 ⟨rfl, rfl, hR⟩ hf hL (fun v9 H1 locs1 hF9 hL9 => ?_)
    obtain ⟨rfl, hP1, hz1, hq1⟩ := hF9
    have hW := vP_but hW (List.forall_mem_cons.mpr ⟨show (a0 : Nat) ≠ h + 4 + k by omega, (List.forall_mem_cons.mpr ⟨show (h : Nat) ≠ h + 4 + k by omega, (List.forall_mem_cons.mpr ⟨show ((h + 1) : Nat) ≠ h + 4 + k by omega, (List.forall_mem_cons.mpr ⟨show ((h + 2) : Nat) ≠ h + 4 + k by omega, (List.forall_mem_cons.mpr ⟨show ((h + 3) : Nat) ≠ h + 4 + k by omega, (List.forall_mem_cons.mpr ⟨show ((h + 12) : Nat) ≠ h + 4 + k by omega, (List.forall_mem_cons.mpr ⟨show ((h + 21) : Nat) ≠ h + 4 + k by omega, (List.forall_mem_cons.mpr ⟨show ((h + 22) : Nat) ≠ h + 4 + k by omega, (fun _ h9 => nomatch h9)⟩)⟩)⟩)⟩)⟩)⟩)⟩)⟩) hq1
    have hF : (∀ i, i < 8 → va_P D tcl [(h + 4 + i, .inl (ci 0, 10, .inl (fun _ => if i < k + 1 then nI 65536 else 0)))] H1) := fun i hi => by
      by_cases e : i = k
      · subst e; exact vP_same hP1 (fun j _ => by rw [if_pos (by omega)])
      · exact vP_same (vP_but (hF i hi) (fun x hx => by rw [List.mem_singleton.mp hx]; show (_ : Nat) ≠ _; omega) hq1) (fun j _ => by by_cases e2 : i < k; rw [if_pos e2, if_pos (by omega)]; rw [if_neg e2, if_neg (by omega)])
    have hG := fun i hi => vP_but (hG i hi) (fun x hx => by rw [List.mem_singleton.mp hx]; show (_ : Nat) ≠ _; omega) hq1
    refine lv_iinc hx hb d_X_init_93 hl (k := 0) rfl (v := (nI (k + 1))) (by rw [show Int32.ofInt 1 = 1 from rfl]; exact nI_1 k) (by decide) (lv' := [(1, .int (nI (k + 1))), (0, .ref a0)]) rfl (fun ls hl => ?_)
    refine lv_goto hx hb d_X_init_96 (tgt := 76) (by decide) ?_
    exact ih (k + 1) H1 locs1 ls (by omega) hW hF hG (hz1.trans hz) (fun q h1 h2 => (hq1 q (by omega)).trans (hq q h1 h2)) hL9 hl
set_option maxHeartbeats 4000000 in
set_option maxRecDepth 100000 in
theorem l_X_init2 (hx : p.tables.exec = Jvm.exec) (hb : c.code = b_X_init) (hts : ∀ w ∈ Ts, w.before args s = true) (hT : ∀ w ∈ TT, w ∈ Ts) (hown : s.vm.findClass RX = some m.cls) (hK : tk D ci s) (ha : a0 < h)
    (kk : ∀ (H : Heap) (locs : List Loc) (ls : Array Slot), va_P D tcl [(a0, .inr (0, [.int 0, .ref h, .ref (h + 1), .ref (h + 2), .ref (h + 3), .ref (h + 12), .ref (h + 21), .ref (h + 22), .int 0, .int (-1)])), (h, .inl (ci 0, 8, .inl (fun _ => 0))), ((h + 1), .inl (ci 1, 8, .inr (.inl (fun _ => 0)))), ((h + 2), .inl (ci 1, 8, .inr (.inl (fun _ => 0)))), ((h + 3), .inl (ci 2, 8, .inr (.inr (.inr (.inr (fun j => some (adX a0 h (8 + j)))))))), ((h + 12), .inl (ci 3, 8, .inr (.inr (.inr (.inr (fun j => some (adX a0 h (16 + j)))))))), ((h + 21), .inl (ci 0, 11, .inl (fun j => if j < 11 then nI (1440 * (365 * j)) else 0))), ((h + 22), .inl (ci 0, 1440, .inl (fun _ => 0)))] H → (∀ i, i < 8 → va_P D tcl [(h + 4 + i, .inl (ci 0, 10, .inl (fun _ => nI 65536)))] H) → (∀ i, i < 8 → va_P D tcl [(h + 13 + i, .inl (ci 1, 10, .inr (.inl (fun _ => 0))))] H) → H.size = h + 23 → (∀ q : Nat, q < h → q ≠ a0 → H[q]? = s.heap[q]?) → (∀ q ∈ locs, iF a0 h q.base) → W p l e R s m args below meth c H locs cells slots Q (F0 m 128 ls [])) :
    ∀ (d k : Nat) (H : Heap) (locs : List Loc) (ls : Array Slot), k + d = 11 → va_P D tcl [(a0, .inr (0, [.int 0, .ref h, .ref (h + 1), .ref (h + 2), .ref (h + 3), .ref (h + 12), .ref (h + 21), .ref (h + 22), .int 0, .int (-1)])), (h, .inl (ci 0, 8, .inl (fun _ => 0))), ((h + 1), .inl (ci 1, 8, .inr (.inl (fun _ => 0)))), ((h + 2), .inl (ci 1, 8, .inr (.inl (fun _ => 0)))), ((h + 3), .inl (ci 2, 8, .inr (.inr (.inr (.inr (fun j => some (adX a0 h (8 + j)))))))), ((h + 12), .inl (ci 3, 8, .inr (.inr (.inr (.inr (fun j => some (adX a0 h (16 + j)))))))), ((h + 21), .inl (ci 0, 11, .inl (fun j => if j < k then nI (1440 * (365 * j)) else 0))), ((h + 22), .inl (ci 0, 1440, .inl (fun _ => 0)))] H → (∀ i, i < 8 → va_P D tcl [(h + 4 + i, .inl (ci 0, 10, .inl (fun _ => nI 65536)))] H) → (∀ i, i < 8 → va_P D tcl [(h + 13 + i, .inl (ci 1, 10, .inr (.inl (fun _ => 0))))] H) → H.size = h + 23 → (∀ q : Nat, q < h → q ≠ a0 → H[q]? = s.heap[q]?) → (∀ q ∈ locs, iF a0 h q.base) → lv_has ls 2 [(1, .int (nI k)), (0, .ref a0)] → W p l e R s m args below meth c H locs cells slots Q (F0 m 101 ls []) := by
  intro d
  induction d with
  | zero =>
    intro k H locs ls hk hW hF hG hz hq hL hl
    obtain rfl : k = 11 := by omega
    refine lv_iload_n hx hb d_X_init_101 rfl (lv_at hl 0 rfl) ?_
    refine lv_bipush hx hb d_X_init_102 (v := (nI 10)) rfl ?_
    refine lv_icmp_gt hx hb d_X_init_104 (tgt := 128) (by decide) (fun _ => ?_) (fun hno => absurd (nI_lt (show 10 < 11 by decide) (by decide)) hno)
    exact kk H locs ls hW hF hG hz hq hL
  | succ d ih =>
    intro k H locs ls hk hW hF hG hz hq hL hl
    refine lv_iload_n hx hb d_X_init_101 rfl (lv_at hl 0 rfl) ?_
    refine lv_bipush hx hb d_X_init_102 (v := (nI 10)) rfl ?_
    refine lv_icmp_gt hx hb d_X_init_104 (tgt := 128) (by decide) (fun hyes => absurd hyes (nI_nlt (show k ≤ 10 by omega) (by decide))) (fun _ => ?_)
    refine lv_aload_n hx hb d_X_init_107 rfl (lv_at hl 1 rfl) ?_
    refine va_get hx hb hts (fun w h => hT w (uX_in w h)) hown hK hW 0 rfl rfl 6 (by decide) (hts _ (hT _ k_X_30)) (fun _ h => h) rfl d_X_init_108 ?_
    refine lv_iload_n hx hb d_X_init_111 rfl (lv_at hl 0 rfl) ?_
    refine lv_iload_n hx hb d_X_init_112 rfl (lv_at hl 0 rfl) ?_
    refine lv_sipush hx hb d_X_init_113 (v := (nI 365)) rfl ?_
    refine lv_imul hx hb d_X_init_116 ?_
    refine tq_ti (show _ = (nI (k * 365)) from pk_mul _ _) ?_
    refine lv_sipush hx hb d_X_init_117 (v := (nI 1440)) rfl ?_
    refine lv_imul hx hb d_X_init_120 ?_
    refine tq_ti (show _ = (nI (k * 365 * 1440)) from pk_mul _ _) ?_
    refine tq_iast (F := iF a0 h) hx hb hK 0 (vP_pick hW 6 rfl) rfl (show k < 11 by omega) (by decide) (Or.inr (by omega)) hL d_X_init_121 (fun H1 locs1 hP1 hz1 hq1 hL => ?_)
    have hP1 : va_P D tcl [(h + 21, .inl (ci 0, 11, .inl (fun j => if j < k + 1 then nI (1440 * (365 * j)) else 0)))] H1 := vP_same hP1 (fun j _ => by unfold upd; by_cases e : j = k; rw [if_pos e, if_pos (by omega), e]; congr 1; omega; rw [if_neg e]; dsimp only; by_cases e2 : j < k; rw [if_pos e2, if_pos (by omega)]; rw [if_neg e2, if_neg (by omega)])
    have hW : va_P D tcl [(a0, .inr (0, [.int 0, .ref h, .ref (h + 1), .ref (h + 2), .ref (h + 3), .ref (h + 12), .ref (h + 21), .ref (h + 22), .int 0, .int (-1)])), (h, .inl (ci 0, 8, .inl (fun _ => 0))), ((h + 1), .inl (ci 1, 8, .inr (.inl (fun _ => 0)))), ((h + 2), .inl (ci 1, 8, .inr (.inl (fun _ => 0)))), ((h + 3), .inl (ci 2, 8, .inr (.inr (.inr (.inr (fun j => some (adX a0 h (8 + j)))))))), ((h + 12), .inl (ci 3, 8, .inr (.inr (.inr (.inr (fun j => some (adX a0 h (16 + j)))))))), ((h + 21), .inl (ci 0, 11, .inl (fun j => if j < k + 1 then nI (1440 * (365 * j)) else 0))), ((h + 22), .inl (ci 0, 1440, .inl (fun _ => 0)))] H1 := vP_set hW 6 rfl hP1 (fun j hj => by rcases j with _ | _ | _ | _ | _ | _ | _ | _ |  j <;> first | exact absurd rfl hj | rfl) (fun j y hj hy => by rcases j with _ | _ | _ | _ | _ | _ | _ | _ |  j <;> first | exact absurd rfl hj | (cases hy; show (_ : Nat) ≠ _; omega) | cases hy) hq1
    have hF := fun i hi => vP_but (hF i hi) (fun x hx => by rw [List.mem_singleton.mp hx]; show (_ : Nat) ≠ _; omega) hq1
    have hG := fun i hi => vP_but (hG i hi) (fun x hx => by rw [List.mem_singleton.mp hx]; show (_ : Nat) ≠ _; omega) hq1
    refine lv_iinc hx hb d_X_init_122 hl (k := 0) rfl (v := (nI (k + 1))) (by rw [show Int32.ofInt 1 = 1 from rfl]; exact nI_1 k) (by decide) (lv' := [(1, .int (nI (k + 1))), (0, .ref a0)]) rfl (fun ls hl => ?_)
    refine lv_goto hx hb d_X_init_125 (tgt := 101) (by decide) ?_
    exact ih (k + 1) H1 locs1 ls (by omega) hW hF hG (hz1.trans hz) (fun q h1 h2 => (hq1 q (by omega)).trans (hq q h1 h2)) hL hl
end G50b
set_option maxHeartbeats 4000000 in
set_option maxRecDepth 100000 in
theorem c_X_init (l : Launch) (D : va_G) (ci : Nat → ClassId) (a0 h : Nat) : Met l y_X_init (wT y_X_init b_X_init 2 none) ({ frames := 1, cells := 23, slots := 1651, locals := 30 }) (tb ((fun U H => tk D ci U ∧ tAO .int U ∧ tAO .long U ∧ va_P D tcl [(a0, .inr (0, [.int 0, .null, .null, .null, .null, .null, .null, .null, .int 0, .int 0]))] H ∧ H.size = h)) [.ref a0]) (tq_Q (fun o9 H H1 => o9 = none ∧ tx D ci (adX a0 h) ts0 0 (-1) (fun _ => 0) H1 ∧ H1.size = h + 23 ∧ ∀ q : Nat, q < h → q ≠ a0 → H1[q]? = H[q]?)) 23 1651 (iF a0 h) := by
  refine Met.ofW (cc := b_X_init) (maxL := 2) (ret := none) (by decide) rfl ?_
  intro p e s m args below meth c s₁ B hml hv
  obtain ⟨rfl, hK, hA1, hA2, hW, hz⟩ := hv
  have hx := B.exec
  have hb := B.bytes
  have hr := B.returns
  have hts := atoms_spec (ws := wT y_X_init b_X_init 2 none) B.pre
  have hT : ∀ w ∈ TT, w ∈ wT y_X_init b_X_init 2 none := wT_T
  have hown : s.vm.findClass RX = some m.cls := findClass_of_methodNamed B.named
  have hlocks := B.notSynchronized
  have hl := lv_entry ([.ref a0]) (n := 2) (Nat.le_of_ble_eq_true rfl)
  rw [lg_entry_eq]
  generalize (lg_sl ([.ref a0]) ++ List.replicate (2 - (lg_sl ([.ref a0])).length) Slot.unset).toArray = ls at hl ⊢
  have hl : lv_has ls 2 [(0, .ref a0)] := hl
  have hin2 : meth.name = "<init>" := (name_of_methodNamed B.named B.method).1
  have ha : a0 < h := by rw [← hz]; exact (hW 0 _ rfl).lt
  have hL : ∀ q ∈ ([] : List Loc), iF a0 h q.base := fun q hq => nomatch hq
  have hq : ∀ q : Nat, q < h → q ≠ a0 → s.heap[q]? = s.heap[q]? := fun _ _ _ => rfl
  refine lv_aload_n hx hb d_X_init_0 rfl (lv_at hl 0 rfl) ?_
  refine W.objInit hx hb hown (hts _ (hT _ k_oi_X)) (hts _ (hT _ k_oi_i)) (hts _ (hT _ k_oi_c)) rfl (hl.1.trans hml.symm) rfl d_X_init_1 (Nat.le_of_ble_eq_true rfl) (Nat.le_of_ble_eq_true rfl) ?_
  show W p l e _ s m _ below meth c _ _ _ _ _ (F0 m 4 ls [])
  refine lv_aload_n hx hb d_X_init_4 rfl (lv_at hl 0 rfl) ?_
  refine lv_bipush hx hb d_X_init_5 (v := (nI 8)) rfl ?_
  refine va_newaK (atype := .int) hx hb (hts _ (hT _ k_arr_int)) rfl d_X_init_7 rfl (N := 8) (by decide) (by decide) (by decide) (Nat.le_of_ble_eq_true rfl) (Nat.le_of_ble_eq_true rfl) hz (fun H1 cA e1 z1 o1 hAr hNm => ?_)
  obtain rfl : cA = ci 0 := Option.some.inj (hNm.symm.trans (hK.2 0 _ rfl).2)
  show W p l e _ s m _ below meth c _ _ _ _ _ (F0 m 9 ls [.ref h, .ref a0])
  replace hW := vP_old hz hW o1
  replace hq := iQo (n := 0) hq o1
  replace hW : va_P D tcl [(a0, .inr (0, [.int 0, .null, .null, .null, .null, .null, .null, .null, .int 0, .int 0])), (h, .inl (ci 0, 8, .inl (fun _ => 0)))] H1 := vP_snoc hW (vP_at e1)
  replace hz : H1.size = h + 1 := z1
  clear e1 z1 o1 hAr hNm
  refine tq_putF (F := iF a0 h) hx hb hts (fun w h => hT w (uX_in w h)) tX tX_ok nX hown hK (vP_hd hW) (ci := 0) rfl 1 (by decide) (hts _ (hT _ k_X_9)) (fun _ h => h) rfl hin2 rfl (ty := .array .int) rfl rfl rfl (Nat.le_of_ble_eq_true rfl) (Or.inl rfl) hL d_X_init_9 (fun H1 locs1 hP1 hz1 hq1 hL9 => ?_)
  replace hW : va_P D tcl [(a0, .inr (0, [.int 0, .ref h, .null, .null, .null, .null, .null, .null, .int 0, .int 0])), (h, .inl (ci 0, 8, .inl (fun _ => 0)))] H1 := vP_0 hW hP1 (List.forall_mem_cons.mpr ⟨iNe ha 0, (fun _ h9 => nomatch h9)⟩) hq1
  replace hz := hz1.trans hz
  replace hq := iQa hq hq1
  replace hL := hL9
  clear hP1 hz1 hq1 hL9
  refine lv_aload_n hx hb d_X_init_12 rfl (lv_at hl 0 rfl) ?_
  refine lv_bipush hx hb d_X_init_13 (v := (nI 8)) rfl ?_
  refine va_newaK (atype := .long) hx hb (hts _ (hT _ k_arr_long)) rfl d_X_init_15 rfl (N := 8) (by decide) (by decide) (by decide) (Nat.le_of_ble_eq_true rfl) (Nat.le_of_ble_eq_true rfl) hz (fun H1 cA e1 z1 o1 hAr hNm => ?_)
  obtain rfl : cA = ci 1 := Option.some.inj (hNm.symm.trans (hK.2 1 _ rfl).2)
  show W p l e _ s m _ below meth c _ _ _ _ _ (F0 m 17 ls [.ref (h + 1), .ref a0])
  replace hW := vP_old hz hW o1
  replace hq := iQo (n := 1) hq o1
  replace hW : va_P D tcl [(a0, .inr (0, [.int 0, .ref h, .null, .null, .null, .null, .null, .null, .int 0, .int 0])), (h, .inl (ci 0, 8, .inl (fun _ => 0))), ((h + 1), .inl (ci 1, 8, .inr (.inl (fun _ => 0))))] H1 := vP_snoc hW (vP_at e1)
  replace hz : H1.size = h + 2 := z1
  clear e1 z1 o1 hAr hNm
  refine tq_putF (F := iF a0 h) hx hb hts (fun w h => hT w (uX_in w h)) tX tX_ok nX hown hK (vP_hd hW) (ci := 0) rfl 2 (by decide) (hts _ (hT _ k_X_13)) (fun _ h => h) rfl hin2 rfl (ty := .array .long) rfl rfl rfl (Nat.le_of_ble_eq_true rfl) (Or.inl rfl) hL d_X_init_17 (fun H1 locs1 hP1 hz1 hq1 hL9 => ?_)
  replace hW : va_P D tcl [(a0, .inr (0, [.int 0, .ref h, .ref (h + 1), .null, .null, .null, .null, .null, .int 0, .int 0])), (h, .inl (ci 0, 8, .inl (fun _ => 0))), ((h + 1), .inl (ci 1, 8, .inr (.inl (fun _ => 0))))] H1 := vP_0 hW hP1 (List.forall_mem_cons.mpr ⟨iNe ha 0, (List.forall_mem_cons.mpr ⟨iNe ha 1, (fun _ h9 => nomatch h9)⟩)⟩) hq1
  replace hz := hz1.trans hz
  replace hq := iQa hq hq1
  replace hL := hL9
  clear hP1 hz1 hq1 hL9
  refine lv_aload_n hx hb d_X_init_20 rfl (lv_at hl 0 rfl) ?_
  refine lv_bipush hx hb d_X_init_21 (v := (nI 8)) rfl ?_
  refine va_newaK (atype := .long) hx hb (hts _ (hT _ k_arr_long)) rfl d_X_init_23 rfl (N := 8) (by decide) (by decide) (by decide) (Nat.le_of_ble_eq_true rfl) (Nat.le_of_ble_eq_true rfl) hz (fun H1 cA e1 z1 o1 hAr hNm => ?_)
  obtain rfl : cA = ci 1 := Option.some.inj (hNm.symm.trans (hK.2 1 _ rfl).2)
  show W p l e _ s m _ below meth c _ _ _ _ _ (F0 m 25 ls [.ref (h + 2), .ref a0])
  replace hW := vP_old hz hW o1
  replace hq := iQo (n := 2) hq o1
  replace hW : va_P D tcl [(a0, .inr (0, [.int 0, .ref h, .ref (h + 1), .null, .null, .null, .null, .null, .int 0, .int 0])), (h, .inl (ci 0, 8, .inl (fun _ => 0))), ((h + 1), .inl (ci 1, 8, .inr (.inl (fun _ => 0)))), ((h + 2), .inl (ci 1, 8, .inr (.inl (fun _ => 0))))] H1 := vP_snoc hW (vP_at e1)
  replace hz : H1.size = h + 3 := z1
  clear e1 z1 o1 hAr hNm
  refine tq_putF (F := iF a0 h) hx hb hts (fun w h => hT w (uX_in w h)) tX tX_ok nX hown hK (vP_hd hW) (ci := 0) rfl 3 (by decide) (hts _ (hT _ k_X_17)) (fun _ h => h) rfl hin2 rfl (ty := .array .long) rfl rfl rfl (Nat.le_of_ble_eq_true rfl) (Or.inl rfl) hL d_X_init_25 (fun H1 locs1 hP1 hz1 hq1 hL9 => ?_)
  replace hW : va_P D tcl [(a0, .inr (0, [.int 0, .ref h, .ref (h + 1), .ref (h + 2), .null, .null, .null, .null, .int 0, .int 0])), (h, .inl (ci 0, 8, .inl (fun _ => 0))), ((h + 1), .inl (ci 1, 8, .inr (.inl (fun _ => 0)))), ((h + 2), .inl (ci 1, 8, .inr (.inl (fun _ => 0))))] H1 := vP_0 hW hP1 (List.forall_mem_cons.mpr ⟨iNe ha 0, (List.forall_mem_cons.mpr ⟨iNe ha 1, (List.forall_mem_cons.mpr ⟨iNe ha 2, (fun _ h9 => nomatch h9)⟩)⟩)⟩) hq1
  replace hz := hz1.trans hz
  replace hq := iQa hq hq1
  replace hL := hL9
  clear hP1 hz1 hq1 hL9
  refine lv_aload_n hx hb d_X_init_28 rfl (lv_at hl 0 rfl) ?_
  refine lv_bipush hx hb d_X_init_29 (v := (nI 8)) rfl ?_
  refine lv_bipush hx hb d_X_init_31 (v := (nI 10)) rfl ?_
  refine tq_mna (ty := .int) (N := 8) (K := 10) (z := (10, .inl (fun _ => 0))) hx hb hown (hts _ (hT _ k_X_20)) hA1 (hts _ (hT _ k_arr_int)) (by decide) (by decide) (by decide) (by decide) (by decide) (by decide) (by decide) rfl rfl (Nat.le_of_ble_eq_true rfl) (Nat.le_of_ble_eq_true rfl) (fun c => by rw [vp_cell_i]; exact arrV_new _ _ _) hz d_X_init_33 (fun H1 cA cy f1 f2 e1 e2 z1 o1 => ?_)
  obtain rfl : cA = ci 2 := Option.some.inj (f1.symm.trans (hK.2 2 _ rfl).2)
  obtain rfl : cy = ci 0 := Option.some.inj (f2.symm.trans (hK.2 0 _ rfl).2)
  replace hW := vP_old hz hW o1
  replace hq := iQo (n := 3) hq o1
  replace hW : va_P D tcl [(a0, .inr (0, [.int 0, .ref h, .ref (h + 1), .ref (h + 2), .null, .null, .null, .null, .int 0, .int 0])), (h, .inl (ci 0, 8, .inl (fun _ => 0))), ((h + 1), .inl (ci 1, 8, .inr (.inl (fun _ => 0)))), ((h + 2), .inl (ci 1, 8, .inr (.inl (fun _ => 0)))), ((h + 3), .inl (ci 2, 8, .inr (.inr (.inr (.inr (fun j => some (adX a0 h (8 + j))))))))] H1 := vP_snoc hW (vP_at (vP_sameQ (D := D) (cl := tcl) e1 (fun j hj => by rw [if_pos hj, adX_f hj])))
  replace hz : H1.size = h + 12 := z1
  have hF : ∀ i, i < 8 → va_P D tcl [(h + 4 + i, .inl (ci 0, 10, .inl (fun _ => 0)))] H1 := fun i hi => vP_at (e2 i hi)
  refine tq_putF (F := iF a0 h) hx hb hts (fun w h => hT w (uX_in w h)) tX tX_ok nX hown hK (vP_hd hW) (ci := 0) rfl 4 (by decide) (hts _ (hT _ k_X_22)) (fun _ h => h) rfl hin2 rfl (ty := .array (.array .int)) rfl rfl rfl (Nat.le_of_ble_eq_true rfl) (Or.inl rfl) hL d_X_init_37 (fun H1 locs1 hP1 hz1 hq1 hL9 => ?_)
  replace hW : va_P D tcl [(a0, .inr (0, [.int 0, .ref h, .ref (h + 1), .ref (h + 2), .ref (h + 3), .null, .null, .null, .int 0, .int 0])), (h, .inl (ci 0, 8, .inl (fun _ => 0))), ((h + 1), .inl (ci 1, 8, .inr (.inl (fun _ => 0)))), ((h + 2), .inl (ci 1, 8, .inr (.inl (fun _ => 0)))), ((h + 3), .inl (ci 2, 8, .inr (.inr (.inr (.inr (fun j => some (adX a0 h (8 + j))))))))] H1 := vP_0 hW hP1 (List.forall_mem_cons.mpr ⟨iNe ha 0, (List.forall_mem_cons.mpr ⟨iNe ha 1, (List.forall_mem_cons.mpr ⟨iNe ha 2, (List.forall_mem_cons.mpr ⟨iNe ha 3, (fun _ h9 => nomatch h9)⟩)⟩)⟩)⟩) hq1
  replace hz := hz1.trans hz
  replace hq := iQa hq hq1
  replace hL := hL9
  replace hF := fun i hi => vP_but (hF i hi) (fun x hx => by rw [List.mem_singleton.mp hx]; exact iNr ha) hq1
  clear hP1 hz1 hq1 hL9
  refine lv_aload_n hx hb d_X_init_40 rfl (lv_at hl 0 rfl) ?_
  refine lv_bipush hx hb d_X_init_41 (v := (nI 8)) rfl ?_
  refine lv_bipush hx hb d_X_init_43 (v := (nI 10)) rfl ?_
  refine tq_mna (ty := .long) (N := 8) (K := 10) (z := (10, .inr (.inl (fun _ => 0)))) hx hb hown (hts _ (hT _ k_X_25)) hA2 (hts _ (hT _ k_arr_long)) (by decide) (by decide) (by decide) (by decide) (by decide) (by decide) (by decide) rfl rfl (Nat.le_of_ble_eq_true rfl) (Nat.le_of_ble_eq_true rfl) (fun c => by rw [vp_cell_l]; exact arrV_new _ _ _) hz d_X_init_45 (fun H1 cA cy f1 f2 e1 e2 z1 o1 => ?_)
  obtain rfl : cA = ci 3 := Option.some.inj (f1.symm.trans (hK.2 3 _ rfl).2)
  obtain rfl : cy = ci 1 := Option.some.inj (f2.symm.trans (hK.2 1 _ rfl).2)
  replace hW := vP_old hz hW o1
  replace hq := iQo (n := 12) hq o1
  replace hF := fun i hi => vP_old hz (hF i hi) o1
  replace hW : va_P D tcl [(a0, .inr (0, [.int 0, .ref h, .ref (h + 1), .ref (h + 2), .ref (h + 3), .null, .null, .null, .int 0, .int 0])), (h, .inl (ci 0, 8, .inl (fun _ => 0))), ((h + 1), .inl (ci 1, 8, .inr (.inl (fun _ => 0)))), ((h + 2), .inl (ci 1, 8, .inr (.inl (fun _ => 0)))), ((h + 3), .inl (ci 2, 8, .inr (.inr (.inr (.inr (fun j => some (adX a0 h (8 + j)))))))), ((h + 12), .inl (ci 3, 8, .inr (.inr (.inr (.inr (fun j => some (adX a0 h (16 + j))))))))] H1 := vP_snoc hW (vP_at (vP_sameQ (D := D) (cl := tcl) e1 (fun j hj => by rw [if_pos hj, adX_s hj])))
  replace hz : H1.size = h + 21 := z1
  have hG : ∀ i, i < 8 → va_P D tcl [(h + 13 + i, .inl (ci 1, 10, .inr (.inl (fun _ => 0))))] H1 := fun i hi => vP_at (e2 i hi)
  refine tq_putF (F := iF a0 h) hx hb hts (fun w h => hT w (uX_in w h)) tX tX_ok nX hown hK (vP_hd hW) (ci := 0) rfl 5 (by decide) (hts _ (hT _ k_X_27)) (fun _ h => h) rfl hin2 rfl (ty := .array (.array .long)) rfl rfl rfl (Nat.le_of_ble_eq_true rfl) (Or.inl rfl) hL d_X_init_49 (fun H1 locs1 hP1 hz1 hq1 hL9 => ?_)
  replace hW : va_P D tcl [(a0, .inr (0, [.int 0, .ref h, .ref (h + 1), .ref (h + 2), .ref (h + 3), .ref (h + 12), .null, .null, .int 0, .int 0])), (h, .inl (ci 0, 8, .inl (fun _ => 0))), ((h + 1), .inl (ci 1, 8, .inr (.inl (fun _ => 0)))), ((h + 2), .inl (ci 1, 8, .inr (.inl (fun _ => 0)))), ((h + 3), .inl (ci 2, 8, .inr (.inr (.inr (.inr (fun j => some (adX a0 h (8 + j)))))))), ((h + 12), .inl (ci 3, 8, .inr (.inr (.inr (.inr (fun j => some (adX a0 h (16 + j))))))))] H1 := vP_0 hW hP1 (List.forall_mem_cons.mpr ⟨iNe ha 0, (List.forall_mem_cons.mpr ⟨iNe ha 1, (List.forall_mem_cons.mpr ⟨iNe ha 2, (List.forall_mem_cons.mpr ⟨iNe ha 3, (List.forall_mem_cons.mpr ⟨iNe ha 12, (fun _ h9 => nomatch h9)⟩)⟩)⟩)⟩)⟩) hq1
  replace hz := hz1.trans hz
  replace hq := iQa hq hq1
  replace hL := hL9
  replace hF := fun i hi => vP_but (hF i hi) (fun x hx => by rw [List.mem_singleton.mp hx]; exact iNr ha) hq1
  replace hG := fun i hi => vP_but (hG i hi) (fun x hx => by rw [List.mem_singleton.mp hx]; exact iNr ha) hq1
  clear hP1 hz1 hq1 hL9
  refine lv_aload_n hx hb d_X_init_52 rfl (lv_at hl 0 rfl) ?_
  refine lv_bipush hx hb d_X_init_53 (v := (nI 11)) rfl ?_
  refine va_newaK (atype := .int) hx hb (hts _ (hT _ k_arr_int)) rfl d_X_init_55 rfl (N := 11) (by decide) (by decide) (by decide) (Nat.le_of_ble_eq_true rfl) (Nat.le_of_ble_eq_true rfl) hz (fun H1 cA e1 z1 o1 hAr hNm => ?_)
  obtain rfl : cA = ci 0 := Option.some.inj (hNm.symm.trans (hK.2 0 _ rfl).2)
  show W p l e _ s m _ below meth c _ _ _ _ _ (F0 m 57 ls [.ref (h + 21), .ref a0])
  replace hW := vP_old hz hW o1
  replace hq := iQo (n := 21) hq o1
  replace hF := fun i hi => vP_old hz (hF i hi) o1
  replace hG := fun i hi => vP_old hz (hG i hi) o1
  replace hW : va_P D tcl [(a0, .inr (0, [.int 0, .ref h, .ref (h + 1), .ref (h + 2), .ref (h + 3), .ref (h + 12), .null, .null, .int 0, .int 0])), (h, .inl (ci 0, 8, .inl (fun _ => 0))), ((h + 1), .inl (ci 1, 8, .inr (.inl (fun _ => 0)))), ((h + 2), .inl (ci 1, 8, .inr (.inl (fun _ => 0)))), ((h + 3), .inl (ci 2, 8, .inr (.inr (.inr (.inr (fun j => some (adX a0 h (8 + j)))))))), ((h + 12), .inl (ci 3, 8, .inr (.inr (.inr (.inr (fun j => some (adX a0 h (16 + j)))))))), ((h + 21), .inl (ci 0, 11, .inl (fun _ => 0)))] H1 := vP_snoc hW (vP_at e1)
  replace hz : H1.size = h + 22 := z1
  clear e1 z1 o1 hAr hNm
  refine tq_putF (F := iF a0 h) hx hb hts (fun w h => hT w (uX_in w h)) tX tX_ok nX hown hK (vP_hd hW) (ci := 0) rfl 6 (by decide) (hts _ (hT _ k_X_30)) (fun _ h => h) rfl hin2 rfl (ty := .array .int) rfl rfl rfl (Nat.le_of_ble_eq_true rfl) (Or.inl rfl) hL d_X_init_57 (fun H1 locs1 hP1 hz1 hq1 hL9 => ?_)
  replace hW : va_P D tcl [(a0, .inr (0, [.int 0, .ref h, .ref (h + 1), .ref (h + 2), .ref (h + 3), .ref (h + 12), .ref (h + 21), .null, .int 0, .int 0])), (h, .inl (ci 0, 8, .inl (fun _ => 0))), ((h + 1), .inl (ci 1, 8, .inr (.inl (fun _ => 0)))), ((h + 2), .inl (ci 1, 8, .inr (.inl (fun _ => 0)))), ((h + 3), .inl (ci 2, 8, .inr (.inr (.inr (.inr (fun j => some (adX a0 h (8 + j)))))))), ((h + 12), .inl (ci 3, 8, .inr (.inr (.inr (.inr (fun j => some (adX a0 h (16 + j)))))))), ((h + 21), .inl (ci 0, 11, .inl (fun _ => 0)))] H1 := vP_0 hW hP1 (List.forall_mem_cons.mpr ⟨iNe ha 0, (List.forall_mem_cons.mpr ⟨iNe ha 1, (List.forall_mem_cons.mpr ⟨iNe ha 2, (List.forall_mem_cons.mpr ⟨iNe ha 3, (List.forall_mem_cons.mpr ⟨iNe ha 12, (List.forall_mem_cons.mpr ⟨iNe ha 21, (fun _ h9 => nomatch h9)⟩)⟩)⟩)⟩)⟩)⟩) hq1
  replace hz := hz1.trans hz
  replace hq := iQa hq hq1
  replace hL := hL9
  replace hF := fun i hi => vP_but (hF i hi) (fun x hx => by rw [List.mem_singleton.mp hx]; exact iNr ha) hq1
  replace hG := fun i hi => vP_but (hG i hi) (fun x hx => by rw [List.mem_singleton.mp hx]; exact iNr ha) hq1
  clear hP1 hz1 hq1 hL9
  refine lv_aload_n hx hb d_X_init_60 rfl (lv_at hl 0 rfl) ?_
  refine lv_sipush hx hb d_X_init_61 (v := (nI 1440)) rfl ?_
  refine va_newaK (atype := .int) hx hb (hts _ (hT _ k_arr_int)) rfl d_X_init_64 rfl (N := 1440) (by decide) (by decide) (by decide) (Nat.le_of_ble_eq_true rfl) (Nat.le_of_ble_eq_true rfl) hz (fun H1 cA e1 z1 o1 hAr hNm => ?_)
  obtain rfl : cA = ci 0 := Option.some.inj (hNm.symm.trans (hK.2 0 _ rfl).2)
  show W p l e _ s m _ below meth c _ _ _ _ _ (F0 m 66 ls [.ref (h + 22), .ref a0])
  replace hW := vP_old hz hW o1
  replace hq := iQo (n := 22) hq o1
  replace hF := fun i hi => vP_old hz (hF i hi) o1
  replace hG := fun i hi => vP_old hz (hG i hi) o1
  replace hW : va_P D tcl [(a0, .inr (0, [.int 0, .ref h, .ref (h + 1), .ref (h + 2), .ref (h + 3), .ref (h + 12), .ref (h + 21), .null, .int 0, .int 0])), (h, .inl (ci 0, 8, .inl (fun _ => 0))), ((h + 1), .inl (ci 1, 8, .inr (.inl (fun _ => 0)))), ((h + 2), .inl (ci 1, 8, .inr (.inl (fun _ => 0)))), ((h + 3), .inl (ci 2, 8, .inr (.inr (.inr (.inr (fun j => some (adX a0 h (8 + j)))))))), ((h + 12), .inl (ci 3, 8, .inr (.inr (.inr (.inr (fun j => some (adX a0 h (16 + j)))))))), ((h + 21), .inl (ci 0, 11, .inl (fun _ => 0))), ((h + 22), .inl (ci 0, 1440, .inl (fun _ => 0)))] H1 := vP_snoc hW (vP_at e1)
  replace hz : H1.size = h + 23 := z1
  clear e1 z1 o1 hAr hNm
  refine tq_putF (F := iF a0 h) hx hb hts (fun w h => hT w (uX_in w h)) tX tX_ok nX hown hK (vP_hd hW) (ci := 0) rfl 7 (by decide) (hts _ (hT _ k_X_33)) (fun _ h => h) rfl hin2 rfl (ty := .array .int) rfl rfl rfl (Nat.le_of_ble_eq_true rfl) (Or.inl rfl) hL d_X_init_66 (fun H1 locs1 hP1 hz1 hq1 hL9 => ?_)
  replace hW : va_P D tcl [(a0, .inr (0, [.int 0, .ref h, .ref (h + 1), .ref (h + 2), .ref (h + 3), .ref (h + 12), .ref (h + 21), .ref (h + 22), .int 0, .int 0])), (h, .inl (ci 0, 8, .inl (fun _ => 0))), ((h + 1), .inl (ci 1, 8, .inr (.inl (fun _ => 0)))), ((h + 2), .inl (ci 1, 8, .inr (.inl (fun _ => 0)))), ((h + 3), .inl (ci 2, 8, .inr (.inr (.inr (.inr (fun j => some (adX a0 h (8 + j)))))))), ((h + 12), .inl (ci 3, 8, .inr (.inr (.inr (.inr (fun j => some (adX a0 h (16 + j)))))))), ((h + 21), .inl (ci 0, 11, .inl (fun _ => 0))), ((h + 22), .inl (ci 0, 1440, .inl (fun _ => 0)))] H1 := vP_0 hW hP1 (List.forall_mem_cons.mpr ⟨iNe ha 0, (List.forall_mem_cons.mpr ⟨iNe ha 1, (List.forall_mem_cons.mpr ⟨iNe ha 2, (List.forall_mem_cons.mpr ⟨iNe ha 3, (List.forall_mem_cons.mpr ⟨iNe ha 12, (List.forall_mem_cons.mpr ⟨iNe ha 21, (List.forall_mem_cons.mpr ⟨iNe ha 22, (fun _ h9 => nomatch h9)⟩)⟩)⟩)⟩)⟩)⟩)⟩) hq1
  replace hz := hz1.trans hz
  replace hq := iQa hq hq1
  replace hL := hL9
  replace hF := fun i hi => vP_but (hF i hi) (fun x hx => by rw [List.mem_singleton.mp hx]; exact iNr ha) hq1
  replace hG := fun i hi => vP_but (hG i hi) (fun x hx => by rw [List.mem_singleton.mp hx]; exact iNr ha) hq1
  clear hP1 hz1 hq1 hL9
  refine lv_aload_n hx hb d_X_init_69 rfl (lv_at hl 0 rfl) ?_
  refine lv_iconst hx hb d_X_init_70 (v := (-1)) rfl ?_
  refine tq_put (F := iF a0 h) hx hb hts (fun w h => hT w (uX_in w h)) tX tX_ok nX hown hK (vP_hd hW) (ci := 0) rfl 9 (by decide) (hts _ (hT _ k_X_36)) (fun _ h => h) rfl (ty := .int) rfl rfl rfl (Nat.le_of_ble_eq_true rfl) (Or.inl rfl) hL d_X_init_71 (fun H1 locs1 hP1 hz1 hq1 hL9 => ?_)
  replace hW : va_P D tcl [(a0, .inr (0, [.int 0, .ref h, .ref (h + 1), .ref (h + 2), .ref (h + 3), .ref (h + 12), .ref (h + 21), .ref (h + 22), .int 0, .int (-1)])), (h, .inl (ci 0, 8, .inl (fun _ => 0))), ((h + 1), .inl (ci 1, 8, .inr (.inl (fun _ => 0)))), ((h + 2), .inl (ci 1, 8, .inr (.inl (fun _ => 0)))), ((h + 3), .inl (ci 2, 8, .inr (.inr (.inr (.inr (fun j => some (adX a0 h (8 + j)))))))), ((h + 12), .inl (ci 3, 8, .inr (.inr (.inr (.inr (fun j => some (adX a0 h (16 + j)))))))), ((h + 21), .inl (ci 0, 11, .inl (fun _ => 0))), ((h + 22), .inl (ci 0, 1440, .inl (fun _ => 0)))] H1 := vP_0 hW hP1 (List.forall_mem_cons.mpr ⟨iNe ha 0, (List.forall_mem_cons.mpr ⟨iNe ha 1, (List.forall_mem_cons.mpr ⟨iNe ha 2, (List.forall_mem_cons.mpr ⟨iNe ha 3, (List.forall_mem_cons.mpr ⟨iNe ha 12, (List.forall_mem_cons.mpr ⟨iNe ha 21, (List.forall_mem_cons.mpr ⟨iNe ha 22, (fun _ h9 => nomatch h9)⟩)⟩)⟩)⟩)⟩)⟩)⟩) hq1
  replace hz := hz1.trans hz
  replace hq := iQa hq hq1
  replace hL := hL9
  replace hF := fun i hi => vP_but (hF i hi) (fun x hx => by rw [List.mem_singleton.mp hx]; exact iNr ha) hq1
  replace hG := fun i hi => vP_but (hG i hi) (fun x hx => by rw [List.mem_singleton.mp hx]; exact iNr ha) hq1
  clear hP1 hz1 hq1 hL9
  refine lv_iconst hx hb d_X_init_74 (v := (nI 0)) rfl ?_
  refine lv_istore_n hx hb d_X_init_75 rfl hl (by decide) (lv' := [(1, .int (nI 0)), (0, .ref a0)]) rfl (fun ls hl => ?_)
  refine l_X_init1 hx hb hts hT hown hml hK ha ⟨Nat.le_of_ble_eq_true rfl, Nat.le_of_ble_eq_true rfl⟩ ⟨Nat.le_of_ble_eq_true rfl, Nat.le_of_ble_eq_true rfl⟩ (fun H1 locs1 ls hW hF hG hz hq hL hl => ?_) 8 0 H1 locs1 ls rfl hW (fun i hi => vP_same (hF i hi) (fun j _ => by rw [if_neg (Nat.not_lt_zero i)])) hG hz hq hL hl
  refine lv_iconst hx hb d_X_init_99 (v := (nI 0)) rfl ?_
  refine lv_istore_n hx hb d_X_init_100 rfl hl (by decide) (lv' := [(1, .int (nI 0)), (0, .ref a0)]) rfl (fun ls hl => ?_)
  refine l_X_init2 hx hb hts hT hown hK ha (fun H1 locs1 ls hW hF hG hz hq hL => ?_) 11 0 H1 locs1 ls rfl hW hF hG hz hq hL hl
  have e6 := vP_same (f' := fun j => nI (tt_fst ts0 j)) (vP_pick hW 6 rfl) (fun j hj => by rw [if_pos hj]; unfold tt_fst; rw [ts0_db])
  have hW : va_P D tcl [(a0, .inr (0, [.int 0, .ref h, .ref (h + 1), .ref (h + 2), .ref (h + 3), .ref (h + 12), .ref (h + 21), .ref (h + 22), .int 0, .int (-1)])), (h, .inl (ci 0, 8, .inl (fun _ => 0))), ((h + 1), .inl (ci 1, 8, .inr (.inl (fun _ => 0)))), ((h + 2), .inl (ci 1, 8, .inr (.inl (fun _ => 0)))), ((h + 3), .inl (ci 2, 8, .inr (.inr (.inr (.inr (fun j => some (adX a0 h (8 + j)))))))), ((h + 12), .inl (ci 3, 8, .inr (.inr (.inr (.inr (fun j => some (adX a0 h (16 + j)))))))), ((h + 21), .inl (ci 0, 11, .inl (fun j => nI (tt_fst ts0 j)))), ((h + 22), .inl (ci 0, 1440, .inl (fun _ => 0)))] H1 := vP_set hW 6 rfl e6 (fun j hj => by rcases j with _ | _ | _ | _ | _ | _ | _ | _ |  j <;> first | exact absurd rfl hj | rfl) (fun j y hj hy => by rcases j with _ | _ | _ | _ | _ | _ | _ | _ |  j <;> first | exact absurd rfl hj | (cases hy; show (_ : Nat) ≠ _; omega) | cases hy) (fun _ _ => rfl)
  have hX : tx D ci (adX a0 h) ts0 0 (-1) (fun _ => 0) H1 := ⟨hW, fun i hi => by rw [adX_f hi]; exact hF i hi, fun i hi => by rw [adX_s hi]; exact hG i hi⟩
  exact W.vret hx hb hr (fun t ht hW9 => ⟨_, rfl, rfl, by rw [ht]; exact hX, by rw [ht]; exact hz, by rw [ht]; exact hq⟩) hL d_X_init_128
