/-! the reference's search for extremes. Written by wip/whole/gen.py -/
section TZR
variable {p : Program} {l : Launch} {e : Env} {R : Room} {s : State} {m : MethodId} {args : Array Value} {below : List Frame} {meth : Method} {c : Code} {H : Heap} {locs : List Loc} {cells slots : Nat} {Q : State → Prop}
variable {pc n a0 : Nat} {ls : Array Slot} {rest : List Value} {cc : ByteArray} {D : va_G} {cl : List vw_C} {tys : List (ClassId × FieldType)} {F : Nat → Prop} {ws : va_W}
theorem tq_zald (hexec : p.tables.exec = Jvm.exec) (hb : c.code = cc) (hK : va_K D cl tys s) (hP : va_P D cl ws H) (q0 t0 : Nat) {cA : ClassId} {f : Nat → Int32} {j : Nat} (ha : ws[q0]? = some (a0, .inl (cA, n, .inl f))) (ht : tys[t0]? = some (cA, .boolean)) (hj : j < n) (hn : n < 2 ^ 31) (hdg : decode cc pc = .ok (.baload, 1))
    (kk : W p l e R s m args below meth c H locs cells slots Q (F0 m (pc + 1) ls (.int (f j) :: rest))) : W p l e R s m args below meth c H locs cells slots Q (F0 m pc ls (.int (nI j) :: .ref a0 :: rest)) :=
  va_zald hexec hb hK hP q0 t0 ha ht (vp_in_nI hj hn) hdg (by rw [nI_clamp (by omega)]; exact kk)
theorem tq_zast (hexec : p.tables.exec = Jvm.exec) (hb : c.code = cc) (hK : va_K D cl tys s) (t0 : Nat) {cA : ClassId} {f : Nat → Int32} {j : Nat} {x : Int32} (hxn : narrow .boolean (.int x) = .int x) (hP : va_P D cl [(a0, .inl (cA, n, .inl f))] H) (ht : tys[t0]? = some (cA, .boolean)) (hj : j < n) (hn : n < 2 ^ 31) (hF : F a0) (hL : ∀ q ∈ locs, F q.base) (hdg : decode cc pc = .ok (.bastore, 1))
    (kk : ∀ (H1 : Heap) (locs1 : List Loc), va_P D cl [(a0, .inl (cA, n, .inl (upd f j x)))] H1 → H1.size = H.size → (∀ q : Nat, q ≠ a0 → H1[q]? = H[q]?) → (∀ q ∈ locs1, F q.base) → W p l e R s m args below meth c H1 locs1 cells slots Q (F0 m (pc + 1) ls rest)) : W p l e R s m args below meth c H locs cells slots Q (F0 m pc ls (.int x :: .int (nI j) :: .ref a0 :: rest)) := by
  refine W.zast hexec hb (hP 0 _ rfl) ((hK.2 t0 _ ht).1 n (fun j => .int (f j))) (fun q => by cases q) (by show ¬ (nI j < 0 ∨ (arrV _ _ _).slots.size ≤ _); rw [arrV_size]; exact vp_in_nI hj hn) rfl rfl hdg fun H1 e1 z oq => ?_
  rw [hxn] at e1
  refine kk H1 _ ?_ z oq (fun q hq => ?_)
  · intro k q hk
    match k, hk with
    | 0, rfl =>
      show H1[a0]? = some (vp_cell _ _)
      rw [e1, nI_clamp (by omega), vp_cell_i, vp_cell_i, arrV_store]
      congr 2
      funext i
      by_cases h : i = j
      · subst h; simp [updV, upd]
      · simp [updV, upd, h]
  · rcases List.mem_append.mp hq with h | h
    · exact hL q h
    · rw [List.mem_singleton.mp h]; exact hF
end TZR
/-- the heights of a day; its extremes as the reference keeps them -/
def tt_MH (h : Nat → Int) (hs : Nat → Int32) : Prop := ∀ j, j < 1440 → hs j = iZ (h j)
def tt_MC (h : Nat → Int) (L : List Nat) (fo : Int32) (mi hi : Nat → Int32) : Prop := fo = nI L.length ∧ ∀ i, i < L.length → mi i = nI (L.getD i 0) ∧ hi i = zb (h (L.getD i 0 - 1) < h (L.getD i 0))
theorem tt_MC_add {h : Nat → Int} {L : List Nat} {fo x : Int32} {mi hi : Nat → Int32} {r : Nat} (q : tt_MC h L fo mi hi) (hx : x = zb (h (r - 1) < h r)) : tt_MC h (L ++ [r]) (nI (L.length + 1)) (upd mi L.length (nI r)) (upd hi L.length x) := by
  refine ⟨by rw [List.length_append]; rfl, fun i hi9 => ?_⟩
  rw [List.length_append, List.length_singleton] at hi9
  have e9 : i ≠ L.length → (L ++ [r]).getD i 0 = L.getD i 0 := fun e => by simp [List.getElem?_append, show i < L.length by omega]
  unfold upd
  by_cases e : i = L.length
  · rw [if_pos e, if_pos e, hx, show (L ++ [r]).getD i 0 = r by rw [e]; simp]
    exact ⟨rfl, rfl⟩
  · rw [if_neg e, if_neg e, e9 e]
    exact q.2 i (by omega)
theorem tt_L_1 (h : Nat → Int) : tt_L h 1 = [] := by rw [tt_L_succ, tt_T_0]; rfl
theorem tt_T_far {h : Nat → Int} {m : Nat} (q : ¬ tt_nx h m < 1440) : tt_T h m = false := by
  unfold tt_T
  simp [q]
theorem tt_T_is {h : Nat → Int} {m : Nat} (h1 : 1 ≤ m) (h2 : h (m - 1) ≠ h m) (h3 : tt_nx h m < 1440) (h4 : h (m - 1) < h m ↔ h (tt_nx h m) < h m) : tt_T h m = true := by
  unfold tt_T
  simp [h1, h2, h3, h4]
theorem tt_T_no {h : Nat → Int} {m : Nat} (h4 : ¬ (h (m - 1) < h m ↔ h (tt_nx h m) < h m)) : tt_T h m = false := by
  cases e : tt_T h m with
  | false => rfl
  | true => exact absurd (tt_T_kind e).2.2.2 h4
section G34
variable {p : Program} {l : Launch} {e : Env} {R : Room} {s : State} {m : MethodId} {args : Array Value} {below : List Frame} {meth : Method} {c : Code} {cells slots : Nat} {Q : State → Prop} {Ts : List Cond}
variable {D : va_G} {ci : Nat → ClassId} {am : Nat → Nat} {g : TS} {th fo sz : Int32} {mi hi tx : Nat → Int32}
set_option maxHeartbeats 4000000 in
set_option maxRecDepth 100000 in
theorem l_M_look1 (hx : p.tables.exec = Jvm.exec) (hb : c.code = b_M_look) (hts : ∀ w ∈ Ts, w.before args s = true) (hT : ∀ w ∈ TT, w ∈ Ts) (hown : s.vm.findClass RM = some m.cls) (hml : c.maxLocals = 5) (hK : tk D ci s) (hg : tt_ok g) (hD : mD am) (hR : 2 + 1 ≤ R.frames ∧ 8 + (6 + 11) + 45 ≤ R.locals) (hf : cells ≤ R.cells ∧ slots ≤ R.slots) {H0 : Heap} {dd : Nat} (hd : dd < 5000)
    (kk : ∀ (hs : Nat → Int32) (H : Heap) (locs : List Loc) (ls : Array Slot), tm D ci am g th fo sz hs mi hi tx H → tt_MH (tt_dh g dd) hs → mO am H0 H → (∀ q ∈ locs, mF am q.base) → lv_has ls 5 [(0, .ref (am 0)), (1, .int (nI dd))] → W p l e R s m args below meth c H locs cells slots Q (F0 m 32 ls [])) :
    ∀ (n k : Nat) (hs : Nat → Int32) (H : Heap) (locs : List Loc) (ls : Array Slot), k + n = 1440 → tm D ci am g th fo sz hs mi hi tx H → (∀ j, j < k → hs j = iZ ((tt_dh g dd) j)) → mO am H0 H → (∀ q ∈ locs, mF am q.base) → lv_has ls 5 [(2, .int (nI k)), (0, .ref (am 0)), (1, .int (nI dd))] → W p l e R s m args below meth c H locs cells slots Q (F0 m 2 ls []) := by
  intro n
  induction n with
  | zero =>
    intro k hs H locs ls hk hM hH hO hL hl
    obtain rfl : k = 1440 := by omega
    refine lv_iload_n hx hb d_M_look_2 rfl (lv_at hl 0 rfl) ?_
    refine lv_sipush hx hb d_M_look_3 (v := (nI 1440)) rfl ?_
    refine lv_icmp_ge hx hb d_M_look_6 (tgt := 32) (by decide) (fun _ => ?_) (fun hno => absurd (nI_le (Nat.le_refl 1440) (by decide)) hno)
    have hl := lv_sub hl (l' := [(0, .ref (am 0)), (1, .int (nI dd))]) [1, 2] rfl
    exact kk hs H locs ls hM hH hO hL hl
  | succ n ih =>
    intro k hs H locs ls hk hM hH hO hL hl
    refine lv_iload_n hx hb d_M_look_2 rfl (lv_at hl 0 rfl) ?_
    refine lv_sipush hx hb d_M_look_3 (v := (nI 1440)) rfl ?_
    refine lv_icmp_ge hx hb d_M_look_6 (tgt := 32) (by decide) (fun hyes => absurd hyes (nI_ge (show k < 1440 by omega) (by decide))) (fun _ => ?_)
    refine lv_aload_n hx hb d_M_look_9 rfl (lv_at hl 1 rfl) ?_
    refine va_get hx hb hts (fun w h => hT w (uM_in w h)) hown hK hM 0 rfl rfl 8 (by decide) (hts _ (hT _ k_M_29)) (fun _ h => h) rfl d_M_look_10 ?_
    refine lv_iload_n hx hb d_M_look_13 rfl (lv_at hl 0 rfl) ?_
    refine lv_aload_n hx hb d_M_look_14 rfl (lv_at hl 1 rfl) ?_
    refine lv_sipush hx hb d_M_look_15 (v := (nI 1440)) rfl ?_
    refine lv_iload_n hx hb d_M_look_18 rfl (lv_at hl 2 rfl) ?_
    refine lv_imul hx hb d_M_look_19 ?_
    refine tq_ti (show _ = (nI (1440 * dd)) from pk_mul _ _) ?_
    refine lv_iload_n hx hb d_M_look_20 rfl (lv_at hl 0 rfl) ?_
    refine lv_iadd hx hb d_M_look_21 ?_
    refine tq_ti (show _ = (nI (1440 * dd + k)) from nI_add _ _) ?_
    refine tq_V ⟨hx, hb, hml, hown, hts⟩ hT (c_M_heightAt l D ci am g th fo sz hs mi hi tx (mm := 1440 * dd + k) (by omega)) lk_M_109 wM_mv ⟨hK, hg, hM⟩ (wM_rc hK hM) rfl hl.1 rfl (Nat.le_of_ble_eq_true rfl) d_M_look_22 ⟨rfl, rfl, hR⟩ hf ?_
    refine tq_iast (F := mF am) hx hb hK 0 (tm_one hM 7 rfl) rfl (show k < 1440 by omega) (by decide) ⟨7, by decide, rfl⟩ hL d_M_look_25 (fun H1 locs1 hP1 hz1 hq1 hL => ?_)
    have hM : tm D ci am g th fo sz (upd hs k (iZ ((tt_dh g dd) k))) mi hi tx H1 := tm_set hD hM 7 (by decide) rfl hP1 (fun j hj => by rcases j with _ | _ | _ | _ | _ | _ | _ | _ | _ | _ | _ | j <;> first | rfl | exact absurd rfl hj) hq1
    have hO := hO.tr (mO.put (k := 7) (by decide) hz1 hq1)
    refine lv_iinc hx hb d_M_look_26 hl (k := 0) rfl (v := (nI (k + 1))) (by rw [show Int32.ofInt 1 = 1 from rfl]; exact nI_1 k) (by decide) (lv' := [(2, .int (nI (k + 1))), (0, .ref (am 0)), (1, .int (nI dd))]) rfl (fun ls hl => ?_)
    refine lv_goto hx hb d_M_look_29 (tgt := 2) (by decide) ?_
    exact ih (k + 1) (upd hs k (iZ ((tt_dh g dd) k))) H1 locs1 ls (by omega) hM (fun j hj => by unfold upd; by_cases e : j = k; rw [if_pos e, e]; rw [if_neg e]; exact hH j (by omega)) hO hL hl
end G34
section G34b
variable {p : Program} {l : Launch} {e : Env} {R : Room} {s : State} {m : MethodId} {args : Array Value} {below : List Frame} {meth : Method} {c : Code} {H : Heap} {locs : List Loc} {cells slots : Nat} {Q : State → Prop} {Ts : List Cond}
variable {D : va_G} {ci : Nat → ClassId} {am : Nat → Nat} {g : TS} {th fo sz : Int32} {hs mi hi tx : Nat → Int32}
set_option maxHeartbeats 4000000 in
set_option maxRecDepth 100000 in
theorem l_M_look3 (hx : p.tables.exec = Jvm.exec) (hb : c.code = b_M_look) (hts : ∀ w ∈ Ts, w.before args s = true) (hT : ∀ w ∈ TT, w ∈ Ts) (hown : s.vm.findClass RM = some m.cls) (hK : tk D ci s) (hg : tt_ok g) (hM : tm D ci am g th fo sz hs mi hi tx H) {dd mm : Nat} (hH : tt_MH (tt_dh g dd) hs) (h1 : 1 ≤ mm) (h2 : mm < 1440) (hne : (tt_dh g dd) (mm - 1) ≠ (tt_dh g dd) mm) {b0 : Nat}
    (kk : ∀ (ls : Array Slot), lv_has ls 5 [(3, .int (nI b0)), (2, .int (nI mm)), (0, .ref (am 0)), (1, .int (nI dd))] → W p l e R s m args below meth c H locs cells slots Q (F0 m 95 ls [])) :
    ∀ (n b : Nat) (ls : Array Slot), b + n = 1440 → tt_bh (tt_dh g dd) ((tt_dh g dd) mm) n b = b0 → lv_has ls 5 [(3, .int (nI b)), (2, .int (nI mm)), (0, .ref (am 0)), (1, .int (nI dd))] → W p l e R s m args below meth c H locs cells slots Q (F0 m 50 ls []) := by
  have hin : ∀ j, -2000000 ≤ (tt_dh g dd) j ∧ (tt_dh g dd) j ≤ 2000000 := fun j => tt_hgt_in hg _
  have i1 := hin (mm - 1)
  have i2 := hin mm
  intro n
  induction n with
  | zero =>
    intro b ls hk hb0 hl
    obtain rfl : b = 1440 := by omega
    have hb0 : 1440 = b0 := hb0
    subst hb0
    refine lv_iload_n hx hb d_M_look_50 rfl (lv_at hl 0 rfl) ?_
    refine lv_sipush hx hb d_M_look_51 (v := (nI 1440)) rfl ?_
    refine lv_icmp_ge hx hb d_M_look_54 (tgt := 95) (by decide) (fun _ => ?_) (fun hno => absurd (nI_le (Nat.le_refl 1440) (by decide)) hno)
    exact kk ls hl
  | succ n ih =>
    intro b ls hk hb0 hl
    have i3 := hin b
    rw [tt_bh] at hb0
    refine lv_iload_n hx hb d_M_look_50 rfl (lv_at hl 0 rfl) ?_
    refine lv_sipush hx hb d_M_look_51 (v := (nI 1440)) rfl ?_
    refine lv_icmp_ge hx hb d_M_look_54 (tgt := 95) (by decide) (fun hyes => absurd hyes (nI_ge (show b < 1440 by omega) (by decide))) (fun _ => ?_)
    refine lv_aload_n hx hb d_M_look_57 rfl (lv_at hl 2 rfl) ?_
    refine va_get hx hb hts (fun w h => hT w (uM_in w h)) hown hK hM 0 rfl rfl 8 (by decide) (hts _ (hT _ k_M_29)) (fun _ h => h) rfl d_M_look_58 ?_
    refine lv_iload_n hx hb d_M_look_61 rfl (lv_at hl 1 rfl) ?_
    refine lv_iconst hx hb d_M_look_62 (v := (nI 1)) rfl ?_
    refine lv_isub hx hb d_M_look_63 ?_
    refine tq_ti (show _ = (nI (mm - 1)) from pk_sub h1) ?_
    refine tq_iald hx hb hK hM 7 0 rfl rfl (show (mm - 1) < 1440 by omega) (by decide) d_M_look_64 ?_
    refine tq_ti (show _ = (iZ ((tt_dh g dd) (mm - 1))) from hH (mm - 1) (by omega)) ?_
    refine lv_aload_n hx hb d_M_look_65 rfl (lv_at hl 2 rfl) ?_
    refine va_get hx hb hts (fun w h => hT w (uM_in w h)) hown hK hM 0 rfl rfl 8 (by decide) (hts _ (hT _ k_M_29)) (fun _ h => h) rfl d_M_look_66 ?_
    refine lv_iload_n hx hb d_M_look_69 rfl (lv_at hl 1 rfl) ?_
    refine tq_iald hx hb hK hM 7 0 rfl rfl (show mm < 1440 by omega) (by decide) d_M_look_70 ?_
    refine tq_ti (show _ = (iZ ((tt_dh g dd) mm)) from hH mm (by omega)) ?_
    refine lv_icmp_eq hx hb d_M_look_71 (tgt := 95) (by decide) (fun hyes => absurd hyes (mt (iZ_eq (by omega) (by omega) (by omega) (by omega)).mp hne)) (fun _ => ?_)
    refine lv_aload_n hx hb d_M_look_74 rfl (lv_at hl 2 rfl) ?_
    refine va_get hx hb hts (fun w h => hT w (uM_in w h)) hown hK hM 0 rfl rfl 8 (by decide) (hts _ (hT _ k_M_29)) (fun _ h => h) rfl d_M_look_75 ?_
    refine lv_iload_n hx hb d_M_look_78 rfl (lv_at hl 0 rfl) ?_
    refine tq_iald hx hb hK hM 7 0 rfl rfl (show b < 1440 by omega) (by decide) d_M_look_79 ?_
    refine tq_ti (show _ = (iZ ((tt_dh g dd) b)) from hH b (by omega)) ?_
    refine lv_aload_n hx hb d_M_look_80 rfl (lv_at hl 2 rfl) ?_
    refine va_get hx hb hts (fun w h => hT w (uM_in w h)) hown hK hM 0 rfl rfl 8 (by decide) (hts _ (hT _ k_M_29)) (fun _ h => h) rfl d_M_look_81 ?_
    refine lv_iload_n hx hb d_M_look_84 rfl (lv_at hl 1 rfl) ?_
    refine tq_iald hx hb hK hM 7 0 rfl rfl (show mm < 1440 by omega) (by decide) d_M_look_85 ?_
    refine tq_ti (show _ = (iZ ((tt_dh g dd) mm)) from hH mm (by omega)) ?_
    refine lv_icmp_ne hx hb d_M_look_86 (tgt := 95) (by decide) (fun h3 => ?_) (fun h3 => ?_)
    · have h3 := mt (iZ_eq (by omega) (by omega) (by omega) (by omega)).mpr h3
      rw [if_neg h3] at hb0
      subst hb0
      exact kk ls hl
    · have h3 := (iZ_eq (by omega) (by omega) (by omega) (by omega)).mp h3
      rw [if_pos h3] at hb0
      refine lv_iinc hx hb d_M_look_89 hl (k := 0) rfl (v := (nI (b + 1))) (by rw [show Int32.ofInt 1 = 1 from rfl]; exact nI_1 b) (by decide) (lv' := [(3, .int (nI (b + 1))), (2, .int (nI mm)), (0, .ref (am 0)), (1, .int (nI dd))]) rfl (fun ls hl => ?_)
      refine lv_goto hx hb d_M_look_92 (tgt := 50) (by decide) ?_
      exact ih (b + 1) ls (by omega) hb0 hl
end G34b
section G34c
variable {p : Program} {l : Launch} {e : Env} {R : Room} {s : State} {m : MethodId} {args : Array Value} {below : List Frame} {meth : Method} {c : Code} {cells slots : Nat} {Q : State → Prop} {Ts : List Cond}
variable {D : va_G} {ci : Nat → ClassId} {am : Nat → Nat} {g : TS} {th sz : Int32} {hs tx : Nat → Int32}
set_option maxHeartbeats 4000000 in
set_option maxRecDepth 100000 in
theorem l_M_look2 (hx : p.tables.exec = Jvm.exec) (hb : c.code = b_M_look) (hts : ∀ w ∈ Ts, w.before args s = true) (hT : ∀ w ∈ TT, w ∈ Ts) (hown : s.vm.findClass RM = some m.cls) (hK : tk D ci s) (hg : tt_ok g) (hD : mD am) {H0 : Heap} {dd : Nat} (hH : tt_MH (tt_dh g dd) hs)
    (kk : ∀ (fo : Int32) (mi hi : Nat → Int32) (H : Heap) (locs : List Loc) (ls : Array Slot), tm D ci am g th fo sz hs mi hi tx H → tt_MC (tt_dh g dd) (tt_L (tt_dh g dd) 1440) fo mi hi → mO am H0 H → (∀ q ∈ locs, mF am q.base) → W p l e R s m args below meth c H locs cells slots Q (F0 m 231 ls [])) :
    ∀ (n mm : Nat) (fo : Int32) (mi hi : Nat → Int32) (H : Heap) (locs : List Loc) (ls : Array Slot), mm + n = 1440 → 1 ≤ mm → tm D ci am g th fo sz hs mi hi tx H → tt_MC (tt_dh g dd) (tt_L (tt_dh g dd) mm) fo mi hi → mO am H0 H → (∀ q ∈ locs, mF am q.base) → lv_has ls 5 [(2, .int (nI mm)), (0, .ref (am 0)), (1, .int (nI dd))] → W p l e R s m args below meth c H locs cells slots Q (F0 m 39 ls []) := by
  have hin : ∀ j, -2000000 ≤ (tt_dh g dd) j ∧ (tt_dh g dd) j ≤ 2000000 := fun j => tt_hgt_in hg _
  intro n
  induction n with
  | zero =>
    intro mm fo mi hi H locs ls hk h1 hM hC hO hL hl
    obtain rfl : mm = 1440 := by omega
    refine lv_iload_n hx hb d_M_look_39 rfl (lv_at hl 0 rfl) ?_
    refine lv_sipush hx hb d_M_look_40 (v := (nI 1440)) rfl ?_
    refine lv_icmp_ge hx hb d_M_look_43 (tgt := 231) (by decide) (fun _ => ?_) (fun hno => absurd (nI_le (Nat.le_refl 1440) (by decide)) hno)
    exact kk fo mi hi H locs ls hM hC hO hL
  | succ n ih =>
    intro mm fo mi hi H locs ls hk h1 hM hC hO hL hl
    have i1 := hin (mm - 1)
    have i2 := hin mm
    have hlen := tt_L_len (tt_dh g dd) mm
    have hsc := tt_L_succ (tt_dh g dd) mm
    refine lv_iload_n hx hb d_M_look_39 rfl (lv_at hl 0 rfl) ?_
    refine lv_sipush hx hb d_M_look_40 (v := (nI 1440)) rfl ?_
    refine lv_icmp_ge hx hb d_M_look_43 (tgt := 231) (by decide) (fun hyes => absurd hyes (nI_ge (show mm < 1440 by omega) (by decide))) (fun _ => ?_)
    refine lv_iload_n hx hb d_M_look_46 rfl (lv_at hl 0 rfl) ?_
    refine lv_iconst hx hb d_M_look_47 (v := (nI 1)) rfl ?_
    refine lv_iadd hx hb d_M_look_48 ?_
    refine tq_ti (show _ = (nI (mm + 1)) from nI_add _ 1) ?_
    refine lv_istore_n hx hb d_M_look_49 rfl hl (by decide) (lv' := [(3, .int (nI (mm + 1))), (2, .int (nI mm)), (0, .ref (am 0)), (1, .int (nI dd))]) rfl (fun ls hl => ?_)
    by_cases hfl : (tt_dh g dd) (mm - 1) = (tt_dh g dd) mm
    · have hT9 := tt_T_flat hfl
      by_cases hz : mm + 1 < 1440
      · refine lv_iload_n hx hb d_M_look_50 rfl (lv_at hl 0 rfl) ?_
        refine lv_sipush hx hb d_M_look_51 (v := (nI 1440)) rfl ?_
        refine lv_icmp_ge hx hb d_M_look_54 (tgt := 95) (by decide) (fun hyes => absurd hyes (nI_ge hz (by decide))) (fun _ => ?_)
        refine lv_aload_n hx hb d_M_look_57 rfl (lv_at hl 2 rfl) ?_
        refine va_get hx hb hts (fun w h => hT w (uM_in w h)) hown hK hM 0 rfl rfl 8 (by decide) (hts _ (hT _ k_M_29)) (fun _ h => h) rfl d_M_look_58 ?_
        refine lv_iload_n hx hb d_M_look_61 rfl (lv_at hl 1 rfl) ?_
        refine lv_iconst hx hb d_M_look_62 (v := (nI 1)) rfl ?_
        refine lv_isub hx hb d_M_look_63 ?_
        refine tq_ti (show _ = (nI (mm - 1)) from pk_sub h1) ?_
        refine tq_iald hx hb hK hM 7 0 rfl rfl (show (mm - 1) < 1440 by omega) (by decide) d_M_look_64 ?_
        refine tq_ti (show _ = (iZ ((tt_dh g dd) (mm - 1))) from hH (mm - 1) (by omega)) ?_
        refine lv_aload_n hx hb d_M_look_65 rfl (lv_at hl 2 rfl) ?_
        refine va_get hx hb hts (fun w h => hT w (uM_in w h)) hown hK hM 0 rfl rfl 8 (by decide) (hts _ (hT _ k_M_29)) (fun _ h => h) rfl d_M_look_66 ?_
        refine lv_iload_n hx hb d_M_look_69 rfl (lv_at hl 1 rfl) ?_
        refine tq_iald hx hb hK hM 7 0 rfl rfl (show mm < 1440 by omega) (by decide) d_M_look_70 ?_
        refine tq_ti (show _ = (iZ ((tt_dh g dd) mm)) from hH mm (by omega)) ?_
        refine lv_icmp_eq hx hb d_M_look_71 (tgt := 95) (by decide) (fun _ => ?_) (fun hno => absurd ((iZ_eq (by omega) (by omega) (by omega) (by omega)).mpr hfl) hno)
        refine lv_aload_n hx hb d_M_look_95 rfl (lv_at hl 2 rfl) ?_
        refine va_get hx hb hts (fun w h => hT w (uM_in w h)) hown hK hM 0 rfl rfl 8 (by decide) (hts _ (hT _ k_M_29)) (fun _ h => h) rfl d_M_look_96 ?_
        refine lv_iload_n hx hb d_M_look_99 rfl (lv_at hl 1 rfl) ?_
        refine lv_iconst hx hb d_M_look_100 (v := (nI 1)) rfl ?_
        refine lv_isub hx hb d_M_look_101 ?_
        refine tq_ti (show _ = (nI (mm - 1)) from pk_sub h1) ?_
        refine tq_iald hx hb hK hM 7 0 rfl rfl (show (mm - 1) < 1440 by omega) (by decide) d_M_look_102 ?_
        refine tq_ti (show _ = (iZ ((tt_dh g dd) (mm - 1))) from hH (mm - 1) (by omega)) ?_
        refine lv_aload_n hx hb d_M_look_103 rfl (lv_at hl 2 rfl) ?_
        refine va_get hx hb hts (fun w h => hT w (uM_in w h)) hown hK hM 0 rfl rfl 8 (by decide) (hts _ (hT _ k_M_29)) (fun _ h => h) rfl d_M_look_104 ?_
        refine lv_iload_n hx hb d_M_look_107 rfl (lv_at hl 1 rfl) ?_
        refine tq_iald hx hb hK hM 7 0 rfl rfl (show mm < 1440 by omega) (by decide) d_M_look_108 ?_
        refine tq_ti (show _ = (iZ ((tt_dh g dd) mm)) from hH mm (by omega)) ?_
        refine lv_icmp_eq hx hb d_M_look_109 (tgt := 123) (by decide) (fun _ => ?_) (fun hno => absurd ((iZ_eq (by omega) (by omega) (by omega) (by omega)).mpr hfl) hno)
        refine lv_iconst hx hb d_M_look_123 (v := (nI 0)) rfl ?_
        refine lv_istore hx hb d_M_look_124 hl (by decide) (lv' := [(4, .int (nI 0)), (3, .int (nI (mm + 1))), (2, .int (nI mm)), (0, .ref (am 0)), (1, .int (nI dd))]) rfl (fun ls hl => ?_)
        refine lv_iload hx hb d_M_look_126 (lv_at hl 0 rfl) ?_
        refine lv_if_eq hx hb d_M_look_128 (tgt := 225) (by decide) (fun _ => ?_) (fun hno => absurd rfl hno)
        have hC : tt_MC (tt_dh g dd) (tt_L (tt_dh g dd) (mm + 1)) fo mi hi := by rw [hsc, hT9]; exact hC
        refine lv_iinc hx hb d_M_look_225 hl (k := 2) rfl (v := (nI (mm + 1))) (by rw [show Int32.ofInt 1 = 1 from rfl]; exact nI_1 mm) (by decide) (lv' := [(2, .int (nI (mm + 1))), (4, .int (nI 0)), (3, .int (nI (mm + 1))), (0, .ref (am 0)), (1, .int (nI dd))]) rfl (fun ls hl => ?_)
        refine lv_goto hx hb d_M_look_228 (tgt := 39) (by decide) ?_
        have hl := lv_sub hl (l' := [(2, .int (nI (mm + 1))), (0, .ref (am 0)), (1, .int (nI dd))]) [0, 3, 4] rfl
        exact ih (mm + 1) fo mi hi H locs ls (by omega) (by omega) hM hC hO hL hl
      · refine lv_iload_n hx hb d_M_look_50 rfl (lv_at hl 0 rfl) ?_
        refine lv_sipush hx hb d_M_look_51 (v := (nI 1440)) rfl ?_
        refine lv_icmp_ge hx hb d_M_look_54 (tgt := 95) (by decide) (fun _ => ?_) (fun hno => absurd (nI_le (show 1440 ≤ mm + 1 by omega) (by omega)) hno)
        refine lv_aload_n hx hb d_M_look_95 rfl (lv_at hl 2 rfl) ?_
        refine va_get hx hb hts (fun w h => hT w (uM_in w h)) hown hK hM 0 rfl rfl 8 (by decide) (hts _ (hT _ k_M_29)) (fun _ h => h) rfl d_M_look_96 ?_
        refine lv_iload_n hx hb d_M_look_99 rfl (lv_at hl 1 rfl) ?_
        refine lv_iconst hx hb d_M_look_100 (v := (nI 1)) rfl ?_
        refine lv_isub hx hb d_M_look_101 ?_
        refine tq_ti (show _ = (nI (mm - 1)) from pk_sub h1) ?_
        refine tq_iald hx hb hK hM 7 0 rfl rfl (show (mm - 1) < 1440 by omega) (by decide) d_M_look_102 ?_
        refine tq_ti (show _ = (iZ ((tt_dh g dd) (mm - 1))) from hH (mm - 1) (by omega)) ?_
        refine lv_aload_n hx hb d_M_look_103 rfl (lv_at hl 2 rfl) ?_
        refine va_get hx hb hts (fun w h => hT w (uM_in w h)) hown hK hM 0 rfl rfl 8 (by decide) (hts _ (hT _ k_M_29)) (fun _ h => h) rfl d_M_look_104 ?_
        refine lv_iload_n hx hb d_M_look_107 rfl (lv_at hl 1 rfl) ?_
        refine tq_iald hx hb hK hM 7 0 rfl rfl (show mm < 1440 by omega) (by decide) d_M_look_108 ?_
        refine tq_ti (show _ = (iZ ((tt_dh g dd) mm)) from hH mm (by omega)) ?_
        refine lv_icmp_eq hx hb d_M_look_109 (tgt := 123) (by decide) (fun _ => ?_) (fun hno => absurd ((iZ_eq (by omega) (by omega) (by omega) (by omega)).mpr hfl) hno)
        refine lv_iconst hx hb d_M_look_123 (v := (nI 0)) rfl ?_
        refine lv_istore hx hb d_M_look_124 hl (by decide) (lv' := [(4, .int (nI 0)), (3, .int (nI (mm + 1))), (2, .int (nI mm)), (0, .ref (am 0)), (1, .int (nI dd))]) rfl (fun ls hl => ?_)
        refine lv_iload hx hb d_M_look_126 (lv_at hl 0 rfl) ?_
        refine lv_if_eq hx hb d_M_look_128 (tgt := 225) (by decide) (fun _ => ?_) (fun hno => absurd rfl hno)
        have hC : tt_MC (tt_dh g dd) (tt_L (tt_dh g dd) (mm + 1)) fo mi hi := by rw [hsc, hT9]; exact hC
        refine lv_iinc hx hb d_M_look_225 hl (k := 2) rfl (v := (nI (mm + 1))) (by rw [show Int32.ofInt 1 = 1 from rfl]; exact nI_1 mm) (by decide) (lv' := [(2, .int (nI (mm + 1))), (4, .int (nI 0)), (3, .int (nI (mm + 1))), (0, .ref (am 0)), (1, .int (nI dd))]) rfl (fun ls hl => ?_)
        refine lv_goto hx hb d_M_look_228 (tgt := 39) (by decide) ?_
        have hl := lv_sub hl (l' := [(2, .int (nI (mm + 1))), (0, .ref (am 0)), (1, .int (nI dd))]) [0, 3, 4] rfl
        exact ih (mm + 1) fo mi hi H locs ls (by omega) (by omega) hM hC hO hL hl
    · have hge := tt_bh_ge (tt_dh g dd) ((tt_dh g dd) mm) (1440 - (mm + 1)) (mm + 1)
      have hnx : tt_bh (tt_dh g dd) ((tt_dh g dd) mm) (1440 - (mm + 1)) (mm + 1) = tt_nx (tt_dh g dd) mm := rfl
      rw [hnx] at hge
      have i3 := hin (tt_nx (tt_dh g dd) mm)
      refine l_M_look3 hx hb hts hT hown hK hg hM hH h1 (by omega) hfl (b0 := tt_nx (tt_dh g dd) mm) (fun ls hl => ?_) (1440 - (mm + 1)) (mm + 1) ls (by omega) rfl hl
      refine lv_aload_n hx hb d_M_look_95 rfl (lv_at hl 2 rfl) ?_
      refine va_get hx hb hts (fun w h => hT w (uM_in w h)) hown hK hM 0 rfl rfl 8 (by decide) (hts _ (hT _ k_M_29)) (fun _ h => h) rfl d_M_look_96 ?_
      refine lv_iload_n hx hb d_M_look_99 rfl (lv_at hl 1 rfl) ?_
      refine lv_iconst hx hb d_M_look_100 (v := (nI 1)) rfl ?_
      refine lv_isub hx hb d_M_look_101 ?_
      refine tq_ti (show _ = (nI (mm - 1)) from pk_sub h1) ?_
      refine tq_iald hx hb hK hM 7 0 rfl rfl (show (mm - 1) < 1440 by omega) (by decide) d_M_look_102 ?_
      refine tq_ti (show _ = (iZ ((tt_dh g dd) (mm - 1))) from hH (mm - 1) (by omega)) ?_
      refine lv_aload_n hx hb d_M_look_103 rfl (lv_at hl 2 rfl) ?_
      refine va_get hx hb hts (fun w h => hT w (uM_in w h)) hown hK hM 0 rfl rfl 8 (by decide) (hts _ (hT _ k_M_29)) (fun _ h => h) rfl d_M_look_104 ?_
      refine lv_iload_n hx hb d_M_look_107 rfl (lv_at hl 1 rfl) ?_
      refine tq_iald hx hb hK hM 7 0 rfl rfl (show mm < 1440 by omega) (by decide) d_M_look_108 ?_
      refine tq_ti (show _ = (iZ ((tt_dh g dd) mm)) from hH mm (by omega)) ?_
      refine lv_icmp_eq hx hb d_M_look_109 (tgt := 123) (by decide) (fun hyes => absurd hyes (mt (iZ_eq (by omega) (by omega) (by omega) (by omega)).mp hfl)) (fun _ => ?_)
      refine lv_iload_n hx hb d_M_look_112 rfl (lv_at hl 0 rfl) ?_
      refine lv_sipush hx hb d_M_look_113 (v := (nI 1440)) rfl ?_
      refine lv_icmp_ge hx hb d_M_look_116 (tgt := 123) (by decide) (fun h3 => ?_) (fun h3 => ?_)
      · have h3 := mt (nI_ltI (a := tt_nx (tt_dh g dd) mm) (b := 1440) (by omega) (by decide)).mpr (by rw [Int32.not_lt]; exact h3)
        have hT9 := tt_T_far h3
        refine lv_iconst hx hb d_M_look_123 (v := (nI 0)) rfl ?_
        refine lv_istore hx hb d_M_look_124 hl (by decide) (lv' := [(4, .int (nI 0)), (3, .int (nI (tt_nx (tt_dh g dd) mm))), (2, .int (nI mm)), (0, .ref (am 0)), (1, .int (nI dd))]) rfl (fun ls hl => ?_)
        refine lv_iload hx hb d_M_look_126 (lv_at hl 0 rfl) ?_
        refine lv_if_eq hx hb d_M_look_128 (tgt := 225) (by decide) (fun _ => ?_) (fun hno => absurd rfl hno)
        have hC : tt_MC (tt_dh g dd) (tt_L (tt_dh g dd) (mm + 1)) fo mi hi := by rw [hsc, hT9]; exact hC
        refine lv_iinc hx hb d_M_look_225 hl (k := 2) rfl (v := (nI (mm + 1))) (by rw [show Int32.ofInt 1 = 1 from rfl]; exact nI_1 mm) (by decide) (lv' := [(2, .int (nI (mm + 1))), (4, .int (nI 0)), (3, .int (nI (tt_nx (tt_dh g dd) mm))), (0, .ref (am 0)), (1, .int (nI dd))]) rfl (fun ls hl => ?_)
        refine lv_goto hx hb d_M_look_228 (tgt := 39) (by decide) ?_
        have hl := lv_sub hl (l' := [(2, .int (nI (mm + 1))), (0, .ref (am 0)), (1, .int (nI dd))]) [0, 3, 4] rfl
        exact ih (mm + 1) fo mi hi H locs ls (by omega) (by omega) hM hC hO hL hl
      · have h3 : tt_nx (tt_dh g dd) mm < 1440 := (nI_ltI (by omega) (by decide)).mp (by rw [Int32.not_le] at h3; exact h3)
        refine lv_iconst hx hb d_M_look_119 (v := (nI 1)) rfl ?_
        refine lv_goto hx hb d_M_look_120 (tgt := 124) (by decide) ?_
        refine lv_istore hx hb d_M_look_124 hl (by decide) (lv' := [(4, .int (nI 1)), (3, .int (nI (tt_nx (tt_dh g dd) mm))), (2, .int (nI mm)), (0, .ref (am 0)), (1, .int (nI dd))]) rfl (fun ls hl => ?_)
        refine lv_iload hx hb d_M_look_126 (lv_at hl 0 rfl) ?_
        refine lv_if_eq hx hb d_M_look_128 (tgt := 225) (by decide) (fun hyes => absurd hyes (by decide)) (fun _ => ?_)
        refine lv_aload_n hx hb d_M_look_131 rfl (lv_at hl 3 rfl) ?_
        refine va_get hx hb hts (fun w h => hT w (uM_in w h)) hown hK hM 0 rfl rfl 8 (by decide) (hts _ (hT _ k_M_29)) (fun _ h => h) rfl d_M_look_132 ?_
        refine lv_iload_n hx hb d_M_look_135 rfl (lv_at hl 2 rfl) ?_
        refine lv_iconst hx hb d_M_look_136 (v := (nI 1)) rfl ?_
        refine lv_isub hx hb d_M_look_137 ?_
        refine tq_ti (show _ = (nI (mm - 1)) from pk_sub h1) ?_
        refine tq_iald hx hb hK hM 7 0 rfl rfl (show (mm - 1) < 1440 by omega) (by decide) d_M_look_138 ?_
        refine tq_ti (show _ = (iZ ((tt_dh g dd) (mm - 1))) from hH (mm - 1) (by omega)) ?_
        refine lv_aload_n hx hb d_M_look_139 rfl (lv_at hl 3 rfl) ?_
        refine va_get hx hb hts (fun w h => hT w (uM_in w h)) hown hK hM 0 rfl rfl 8 (by decide) (hts _ (hT _ k_M_29)) (fun _ h => h) rfl d_M_look_140 ?_
        refine lv_iload_n hx hb d_M_look_143 rfl (lv_at hl 2 rfl) ?_
        refine tq_iald hx hb hK hM 7 0 rfl rfl (show mm < 1440 by omega) (by decide) d_M_look_144 ?_
        refine tq_ti (show _ = (iZ ((tt_dh g dd) mm)) from hH mm (by omega)) ?_
        refine lv_icmp_ge hx hb d_M_look_145 (tgt := 152) (by decide) (fun h4 => ?_) (fun h4 => ?_)
        · have h4 := (iZ_le (by omega) (by omega) (by omega) (by omega)).mp h4
          refine lv_iconst hx hb d_M_look_152 (v := (nI 0)) rfl ?_
          refine lv_aload_n hx hb d_M_look_153 rfl (lv_at hl 3 rfl) ?_
          refine va_get hx hb hts (fun w h => hT w (uM_in w h)) hown hK hM 0 rfl rfl 8 (by decide) (hts _ (hT _ k_M_29)) (fun _ h => h) rfl d_M_look_154 ?_
          refine lv_iload_n hx hb d_M_look_157 rfl (lv_at hl 1 rfl) ?_
          refine tq_iald hx hb hK hM 7 0 rfl rfl (show (tt_nx (tt_dh g dd) mm) < 1440 by omega) (by decide) d_M_look_158 ?_
          refine tq_ti (show _ = (iZ ((tt_dh g dd) (tt_nx (tt_dh g dd) mm))) from hH (tt_nx (tt_dh g dd) mm) (by omega)) ?_
          refine lv_aload_n hx hb d_M_look_159 rfl (lv_at hl 3 rfl) ?_
          refine va_get hx hb hts (fun w h => hT w (uM_in w h)) hown hK hM 0 rfl rfl 8 (by decide) (hts _ (hT _ k_M_29)) (fun _ h => h) rfl d_M_look_160 ?_
          refine lv_iload_n hx hb d_M_look_163 rfl (lv_at hl 2 rfl) ?_
          refine tq_iald hx hb hK hM 7 0 rfl rfl (show mm < 1440 by omega) (by decide) d_M_look_164 ?_
          refine tq_ti (show _ = (iZ ((tt_dh g dd) mm)) from hH mm (by omega)) ?_
          refine lv_icmp_ge hx hb d_M_look_165 (tgt := 172) (by decide) (fun h5 => ?_) (fun h5 => ?_)
          · have h5 := (iZ_le (by omega) (by omega) (by omega) (by omega)).mp h5
            refine lv_iconst hx hb d_M_look_172 (v := (nI 0)) rfl ?_
            have hT9 : tt_T (tt_dh g dd) mm = true := tt_T_is h1 hfl h3 (by omega)
            refine lv_icmp_ne hx hb d_M_look_173 (tgt := 225) (by decide) (fun hyes => absurd rfl hyes) (fun _ => ?_)
            refine lv_aload_n hx hb d_M_look_176 rfl (lv_at hl 3 rfl) ?_
            refine va_get hx hb hts (fun w h => hT w (uM_in w h)) hown hK hM 0 rfl rfl 10 (by decide) (hts _ (hT _ k_M_32)) (fun _ h => h) rfl d_M_look_177 ?_
            refine lv_aload_n hx hb d_M_look_180 rfl (lv_at hl 3 rfl) ?_
            refine va_get hx hb hts (fun w h => hT w (uM_in w h)) hown hK hM 0 rfl rfl 9 (by decide) (hts _ (hT _ k_M_112)) (fun _ h => h) rfl d_M_look_181 ?_
            refine lv_iload_n hx hb d_M_look_184 rfl (lv_at hl 2 rfl) ?_
            have ht := hC.1
            subst ht
            refine tq_iast (F := mF am) hx hb hK 0 (tm_one hM 8 rfl) rfl (show (tt_L (tt_dh g dd) mm).length < 1440 by omega) (by decide) ⟨8, by decide, rfl⟩ hL d_M_look_185 (fun H1 locs1 hP1 hz1 hq1 hL => ?_)
            have hM : tm D ci am g th (nI (tt_L (tt_dh g dd) mm).length) sz hs (upd mi (tt_L (tt_dh g dd) mm).length (nI mm)) hi tx H1 := tm_set hD hM 8 (by decide) rfl hP1 (fun j hj => by rcases j with _ | _ | _ | _ | _ | _ | _ | _ | _ | _ | _ | j <;> first | rfl | exact absurd rfl hj) hq1
            have hO := hO.tr (mO.put (k := 8) (by decide) hz1 hq1)
            refine lv_aload_n hx hb d_M_look_186 rfl (lv_at hl 3 rfl) ?_
            refine va_get hx hb hts (fun w h => hT w (uM_in w h)) hown hK hM 0 rfl rfl 11 (by decide) (hts _ (hT _ k_M_35)) (fun _ h => h) rfl d_M_look_187 ?_
            refine lv_aload_n hx hb d_M_look_190 rfl (lv_at hl 3 rfl) ?_
            refine va_get hx hb hts (fun w h => hT w (uM_in w h)) hown hK hM 0 rfl rfl 9 (by decide) (hts _ (hT _ k_M_112)) (fun _ h => h) rfl d_M_look_191 ?_
            refine lv_aload_n hx hb d_M_look_194 rfl (lv_at hl 3 rfl) ?_
            refine va_get hx hb hts (fun w h => hT w (uM_in w h)) hown hK hM 0 rfl rfl 8 (by decide) (hts _ (hT _ k_M_29)) (fun _ h => h) rfl d_M_look_195 ?_
            refine lv_iload_n hx hb d_M_look_198 rfl (lv_at hl 1 rfl) ?_
            refine tq_iald hx hb hK hM 7 0 rfl rfl (show (tt_nx (tt_dh g dd) mm) < 1440 by omega) (by decide) d_M_look_199 ?_
            refine tq_ti (show _ = (iZ ((tt_dh g dd) (tt_nx (tt_dh g dd) mm))) from hH (tt_nx (tt_dh g dd) mm) (by omega)) ?_
            refine lv_aload_n hx hb d_M_look_200 rfl (lv_at hl 3 rfl) ?_
            refine va_get hx hb hts (fun w h => hT w (uM_in w h)) hown hK hM 0 rfl rfl 8 (by decide) (hts _ (hT _ k_M_29)) (fun _ h => h) rfl d_M_look_201 ?_
            refine lv_iload_n hx hb d_M_look_204 rfl (lv_at hl 2 rfl) ?_
            refine tq_iald hx hb hK hM 7 0 rfl rfl (show mm < 1440 by omega) (by decide) d_M_look_205 ?_
            refine tq_ti (show _ = (iZ ((tt_dh g dd) mm)) from hH mm (by omega)) ?_
            refine lv_icmp_ge hx hb d_M_look_206 (tgt := 213) (by decide) (fun _ => ?_) (fun hno => absurd ((iZ_le (by omega) (by omega) (by omega) (by omega)).mpr (by omega)) hno)
            refine lv_iconst hx hb d_M_look_213 (v := (nI 0)) rfl ?_
            refine tq_zast (F := mF am) hx hb hK 4 narrow_b0 (tm_one hM 9 rfl) rfl (show (tt_L (tt_dh g dd) mm).length < 1440 by omega) (by decide) ⟨9, by decide, rfl⟩ hL d_M_look_214 (fun H1 locs1 hP1 hz1 hq1 hL => ?_)
            have hM : tm D ci am g th (nI (tt_L (tt_dh g dd) mm).length) sz hs (upd mi (tt_L (tt_dh g dd) mm).length (nI mm)) (upd hi (tt_L (tt_dh g dd) mm).length (nI 0)) tx H1 := tm_set hD hM 9 (by decide) rfl hP1 (fun j hj => by rcases j with _ | _ | _ | _ | _ | _ | _ | _ | _ | _ | _ | j <;> first | rfl | exact absurd rfl hj) hq1
            have hO := hO.tr (mO.put (k := 9) (by decide) hz1 hq1)
            refine lv_aload_n hx hb d_M_look_215 rfl (lv_at hl 3 rfl) ?_
            refine lv_dup hx hb d_M_look_216 rfl ?_
            refine va_get hx hb hts (fun w h => hT w (uM_in w h)) hown hK hM 0 rfl rfl 9 (by decide) (hts _ (hT _ k_M_112)) (fun _ h => h) rfl d_M_look_217 ?_
            refine lv_iconst hx hb d_M_look_220 (v := (nI 1)) rfl ?_
            refine lv_iadd hx hb d_M_look_221 ?_
            refine tq_ti (show _ = (nI ((tt_L (tt_dh g dd) mm).length + 1)) from nI_add _ 1) ?_
            refine tq_put (F := mF am) hx hb hts (fun w h => hT w (uM_in w h)) tM tM_ok nM hown hK (tm_one hM 0 rfl) (ci := 1) rfl 9 (by decide) (hts _ (hT _ k_M_112)) (fun _ h => h) rfl (ty := .int) rfl rfl rfl (Nat.le_of_ble_eq_true rfl) ⟨0, by decide, rfl⟩ hL d_M_look_222 (fun H1 locs1 hP1 hz1 hq1 hL => ?_)
            have hM : tm D ci am g th (nI ((tt_L (tt_dh g dd) mm).length + 1)) sz hs (upd mi (tt_L (tt_dh g dd) mm).length (nI mm)) (upd hi (tt_L (tt_dh g dd) mm).length (nI 0)) tx H1 := tm_set hD hM 0 (by decide) rfl hP1 (fun j hj => by rcases j with _ | _ | _ | _ | _ | _ | _ | _ | _ | _ | _ | j <;> first | rfl | exact absurd rfl hj) hq1
            have hO := hO.tr (mO.put (k := 0) (by decide) hz1 hq1)
            have hC := tt_MC_add (r := mm) (x := nI 0) hC (by rw [zb, if_neg (by omega)]; rfl)
            have hsc : tt_L (tt_dh g dd) (mm + 1) = (tt_L (tt_dh g dd) mm) ++ [mm] := by rw [hsc, hT9]; rfl
            rw [← hsc] at hC
            refine lv_iinc hx hb d_M_look_225 hl (k := 2) rfl (v := (nI (mm + 1))) (by rw [show Int32.ofInt 1 = 1 from rfl]; exact nI_1 mm) (by decide) (lv' := [(2, .int (nI (mm + 1))), (4, .int (nI 1)), (3, .int (nI (tt_nx (tt_dh g dd) mm))), (0, .ref (am 0)), (1, .int (nI dd))]) rfl (fun ls hl => ?_)
            refine lv_goto hx hb d_M_look_228 (tgt := 39) (by decide) ?_
            have hl := lv_sub hl (l' := [(2, .int (nI (mm + 1))), (0, .ref (am 0)), (1, .int (nI dd))]) [0, 3, 4] rfl
            exact ih (mm + 1) _ _ _ H1 locs1 ls (by omega) (by omega) hM hC hO hL hl
          · have h5 := mt (iZ_le (by omega) (by omega) (by omega) (by omega)).mpr h5
            refine lv_iconst hx hb d_M_look_168 (v := (nI 1)) rfl ?_
            refine lv_goto hx hb d_M_look_169 (tgt := 173) (by decide) ?_
            have hT9 : tt_T (tt_dh g dd) mm = false := tt_T_no (by omega)
            refine lv_icmp_ne hx hb d_M_look_173 (tgt := 225) (by decide) (fun _ => ?_) (fun hno => absurd hno (by decide))
            have hC : tt_MC (tt_dh g dd) (tt_L (tt_dh g dd) (mm + 1)) fo mi hi := by rw [hsc, hT9]; exact hC
            refine lv_iinc hx hb d_M_look_225 hl (k := 2) rfl (v := (nI (mm + 1))) (by rw [show Int32.ofInt 1 = 1 from rfl]; exact nI_1 mm) (by decide) (lv' := [(2, .int (nI (mm + 1))), (4, .int (nI 1)), (3, .int (nI (tt_nx (tt_dh g dd) mm))), (0, .ref (am 0)), (1, .int (nI dd))]) rfl (fun ls hl => ?_)
            refine lv_goto hx hb d_M_look_228 (tgt := 39) (by decide) ?_
            have hl := lv_sub hl (l' := [(2, .int (nI (mm + 1))), (0, .ref (am 0)), (1, .int (nI dd))]) [0, 3, 4] rfl
            exact ih (mm + 1) fo mi hi H locs ls (by omega) (by omega) hM hC hO hL hl
        · have h4 := mt (iZ_le (by omega) (by omega) (by omega) (by omega)).mpr h4
          refine lv_iconst hx hb d_M_look_148 (v := (nI 1)) rfl ?_
          refine lv_goto hx hb d_M_look_149 (tgt := 153) (by decide) ?_
          refine lv_aload_n hx hb d_M_look_153 rfl (lv_at hl 3 rfl) ?_
          refine va_get hx hb hts (fun w h => hT w (uM_in w h)) hown hK hM 0 rfl rfl 8 (by decide) (hts _ (hT _ k_M_29)) (fun _ h => h) rfl d_M_look_154 ?_
          refine lv_iload_n hx hb d_M_look_157 rfl (lv_at hl 1 rfl) ?_
          refine tq_iald hx hb hK hM 7 0 rfl rfl (show (tt_nx (tt_dh g dd) mm) < 1440 by omega) (by decide) d_M_look_158 ?_
          refine tq_ti (show _ = (iZ ((tt_dh g dd) (tt_nx (tt_dh g dd) mm))) from hH (tt_nx (tt_dh g dd) mm) (by omega)) ?_
          refine lv_aload_n hx hb d_M_look_159 rfl (lv_at hl 3 rfl) ?_
          refine va_get hx hb hts (fun w h => hT w (uM_in w h)) hown hK hM 0 rfl rfl 8 (by decide) (hts _ (hT _ k_M_29)) (fun _ h => h) rfl d_M_look_160 ?_
          refine lv_iload_n hx hb d_M_look_163 rfl (lv_at hl 2 rfl) ?_
          refine tq_iald hx hb hK hM 7 0 rfl rfl (show mm < 1440 by omega) (by decide) d_M_look_164 ?_
          refine tq_ti (show _ = (iZ ((tt_dh g dd) mm)) from hH mm (by omega)) ?_
          refine lv_icmp_ge hx hb d_M_look_165 (tgt := 172) (by decide) (fun h5 => ?_) (fun h5 => ?_)
          · have h5 := (iZ_le (by omega) (by omega) (by omega) (by omega)).mp h5
            refine lv_iconst hx hb d_M_look_172 (v := (nI 0)) rfl ?_
            have hT9 : tt_T (tt_dh g dd) mm = false := tt_T_no (by omega)
            refine lv_icmp_ne hx hb d_M_look_173 (tgt := 225) (by decide) (fun _ => ?_) (fun hno => absurd hno (by decide))
            have hC : tt_MC (tt_dh g dd) (tt_L (tt_dh g dd) (mm + 1)) fo mi hi := by rw [hsc, hT9]; exact hC
            refine lv_iinc hx hb d_M_look_225 hl (k := 2) rfl (v := (nI (mm + 1))) (by rw [show Int32.ofInt 1 = 1 from rfl]; exact nI_1 mm) (by decide) (lv' := [(2, .int (nI (mm + 1))), (4, .int (nI 1)), (3, .int (nI (tt_nx (tt_dh g dd) mm))), (0, .ref (am 0)), (1, .int (nI dd))]) rfl (fun ls hl => ?_)
            refine lv_goto hx hb d_M_look_228 (tgt := 39) (by decide) ?_
            have hl := lv_sub hl (l' := [(2, .int (nI (mm + 1))), (0, .ref (am 0)), (1, .int (nI dd))]) [0, 3, 4] rfl
            exact ih (mm + 1) fo mi hi H locs ls (by omega) (by omega) hM hC hO hL hl
          · have h5 := mt (iZ_le (by omega) (by omega) (by omega) (by omega)).mpr h5
            refine lv_iconst hx hb d_M_look_168 (v := (nI 1)) rfl ?_
            refine lv_goto hx hb d_M_look_169 (tgt := 173) (by decide) ?_
            have hT9 : tt_T (tt_dh g dd) mm = true := tt_T_is h1 hfl h3 (by omega)
            refine lv_icmp_ne hx hb d_M_look_173 (tgt := 225) (by decide) (fun hyes => absurd rfl hyes) (fun _ => ?_)
            refine lv_aload_n hx hb d_M_look_176 rfl (lv_at hl 3 rfl) ?_
            refine va_get hx hb hts (fun w h => hT w (uM_in w h)) hown hK hM 0 rfl rfl 10 (by decide) (hts _ (hT _ k_M_32)) (fun _ h => h) rfl d_M_look_177 ?_
            refine lv_aload_n hx hb d_M_look_180 rfl (lv_at hl 3 rfl) ?_
            refine va_get hx hb hts (fun w h => hT w (uM_in w h)) hown hK hM 0 rfl rfl 9 (by decide) (hts _ (hT _ k_M_112)) (fun _ h => h) rfl d_M_look_181 ?_
            refine lv_iload_n hx hb d_M_look_184 rfl (lv_at hl 2 rfl) ?_
            have ht := hC.1
            subst ht
            refine tq_iast (F := mF am) hx hb hK 0 (tm_one hM 8 rfl) rfl (show (tt_L (tt_dh g dd) mm).length < 1440 by omega) (by decide) ⟨8, by decide, rfl⟩ hL d_M_look_185 (fun H1 locs1 hP1 hz1 hq1 hL => ?_)
            have hM : tm D ci am g th (nI (tt_L (tt_dh g dd) mm).length) sz hs (upd mi (tt_L (tt_dh g dd) mm).length (nI mm)) hi tx H1 := tm_set hD hM 8 (by decide) rfl hP1 (fun j hj => by rcases j with _ | _ | _ | _ | _ | _ | _ | _ | _ | _ | _ | j <;> first | rfl | exact absurd rfl hj) hq1
            have hO := hO.tr (mO.put (k := 8) (by decide) hz1 hq1)
            refine lv_aload_n hx hb d_M_look_186 rfl (lv_at hl 3 rfl) ?_
            refine va_get hx hb hts (fun w h => hT w (uM_in w h)) hown hK hM 0 rfl rfl 11 (by decide) (hts _ (hT _ k_M_35)) (fun _ h => h) rfl d_M_look_187 ?_
            refine lv_aload_n hx hb d_M_look_190 rfl (lv_at hl 3 rfl) ?_
            refine va_get hx hb hts (fun w h => hT w (uM_in w h)) hown hK hM 0 rfl rfl 9 (by decide) (hts _ (hT _ k_M_112)) (fun _ h => h) rfl d_M_look_191 ?_
            refine lv_aload_n hx hb d_M_look_194 rfl (lv_at hl 3 rfl) ?_
            refine va_get hx hb hts (fun w h => hT w (uM_in w h)) hown hK hM 0 rfl rfl 8 (by decide) (hts _ (hT _ k_M_29)) (fun _ h => h) rfl d_M_look_195 ?_
            refine lv_iload_n hx hb d_M_look_198 rfl (lv_at hl 1 rfl) ?_
            refine tq_iald hx hb hK hM 7 0 rfl rfl (show (tt_nx (tt_dh g dd) mm) < 1440 by omega) (by decide) d_M_look_199 ?_
            refine tq_ti (show _ = (iZ ((tt_dh g dd) (tt_nx (tt_dh g dd) mm))) from hH (tt_nx (tt_dh g dd) mm) (by omega)) ?_
            refine lv_aload_n hx hb d_M_look_200 rfl (lv_at hl 3 rfl) ?_
            refine va_get hx hb hts (fun w h => hT w (uM_in w h)) hown hK hM 0 rfl rfl 8 (by decide) (hts _ (hT _ k_M_29)) (fun _ h => h) rfl d_M_look_201 ?_
            refine lv_iload_n hx hb d_M_look_204 rfl (lv_at hl 2 rfl) ?_
            refine tq_iald hx hb hK hM 7 0 rfl rfl (show mm < 1440 by omega) (by decide) d_M_look_205 ?_
            refine tq_ti (show _ = (iZ ((tt_dh g dd) mm)) from hH mm (by omega)) ?_
            refine lv_icmp_ge hx hb d_M_look_206 (tgt := 213) (by decide) (fun hyes => absurd hyes (mt (iZ_le (by omega) (by omega) (by omega) (by omega)).mp (by omega))) (fun _ => ?_)
            refine lv_iconst hx hb d_M_look_209 (v := (nI 1)) rfl ?_
            refine lv_goto hx hb d_M_look_210 (tgt := 214) (by decide) ?_
            refine tq_zast (F := mF am) hx hb hK 4 narrow_b1 (tm_one hM 9 rfl) rfl (show (tt_L (tt_dh g dd) mm).length < 1440 by omega) (by decide) ⟨9, by decide, rfl⟩ hL d_M_look_214 (fun H1 locs1 hP1 hz1 hq1 hL => ?_)
            have hM : tm D ci am g th (nI (tt_L (tt_dh g dd) mm).length) sz hs (upd mi (tt_L (tt_dh g dd) mm).length (nI mm)) (upd hi (tt_L (tt_dh g dd) mm).length (nI 1)) tx H1 := tm_set hD hM 9 (by decide) rfl hP1 (fun j hj => by rcases j with _ | _ | _ | _ | _ | _ | _ | _ | _ | _ | _ | j <;> first | rfl | exact absurd rfl hj) hq1
            have hO := hO.tr (mO.put (k := 9) (by decide) hz1 hq1)
            refine lv_aload_n hx hb d_M_look_215 rfl (lv_at hl 3 rfl) ?_
            refine lv_dup hx hb d_M_look_216 rfl ?_
            refine va_get hx hb hts (fun w h => hT w (uM_in w h)) hown hK hM 0 rfl rfl 9 (by decide) (hts _ (hT _ k_M_112)) (fun _ h => h) rfl d_M_look_217 ?_
            refine lv_iconst hx hb d_M_look_220 (v := (nI 1)) rfl ?_
            refine lv_iadd hx hb d_M_look_221 ?_
            refine tq_ti (show _ = (nI ((tt_L (tt_dh g dd) mm).length + 1)) from nI_add _ 1) ?_
            refine tq_put (F := mF am) hx hb hts (fun w h => hT w (uM_in w h)) tM tM_ok nM hown hK (tm_one hM 0 rfl) (ci := 1) rfl 9 (by decide) (hts _ (hT _ k_M_112)) (fun _ h => h) rfl (ty := .int) rfl rfl rfl (Nat.le_of_ble_eq_true rfl) ⟨0, by decide, rfl⟩ hL d_M_look_222 (fun H1 locs1 hP1 hz1 hq1 hL => ?_)
            have hM : tm D ci am g th (nI ((tt_L (tt_dh g dd) mm).length + 1)) sz hs (upd mi (tt_L (tt_dh g dd) mm).length (nI mm)) (upd hi (tt_L (tt_dh g dd) mm).length (nI 1)) tx H1 := tm_set hD hM 0 (by decide) rfl hP1 (fun j hj => by rcases j with _ | _ | _ | _ | _ | _ | _ | _ | _ | _ | _ | j <;> first | rfl | exact absurd rfl hj) hq1
            have hO := hO.tr (mO.put (k := 0) (by decide) hz1 hq1)
            have hC := tt_MC_add (r := mm) (x := nI 1) hC (by rw [zb, if_pos (by omega)]; rfl)
            have hsc : tt_L (tt_dh g dd) (mm + 1) = (tt_L (tt_dh g dd) mm) ++ [mm] := by rw [hsc, hT9]; rfl
            rw [← hsc] at hC
            refine lv_iinc hx hb d_M_look_225 hl (k := 2) rfl (v := (nI (mm + 1))) (by rw [show Int32.ofInt 1 = 1 from rfl]; exact nI_1 mm) (by decide) (lv' := [(2, .int (nI (mm + 1))), (4, .int (nI 1)), (3, .int (nI (tt_nx (tt_dh g dd) mm))), (0, .ref (am 0)), (1, .int (nI dd))]) rfl (fun ls hl => ?_)
            refine lv_goto hx hb d_M_look_228 (tgt := 39) (by decide) ?_
            have hl := lv_sub hl (l' := [(2, .int (nI (mm + 1))), (0, .ref (am 0)), (1, .int (nI dd))]) [0, 3, 4] rfl
            exact ih (mm + 1) _ _ _ H1 locs1 ls (by omega) (by omega) hM hC hO hL hl
end G34c
set_option maxHeartbeats 4000000 in
set_option maxRecDepth 100000 in
theorem c_M_look (l : Launch) (D : va_G) (ci : Nat → ClassId) (am : Nat → Nat) (g : TS) (th fo sz : Int32) (hs mi hi tx : Nat → Int32) {dd : Nat} (hd : dd < 5000) : Met l y_M_look (wT y_M_look b_M_look 5 none) (rP 3 70) (tb (wMD D ci am g th fo sz hs mi hi tx) [.ref (am 0), .int (nI dd)]) (tq_Q (fun v H H1 => v = none ∧ ∃ fo1 hs1 mi1 hi1, tm D ci am g th fo1 sz hs1 mi1 hi1 tx H1 ∧ tt_MH (tt_dh g dd) hs1 ∧ tt_MC (tt_dh g dd) (tt_L (tt_dh g dd) 1440) fo1 mi1 hi1 ∧ mO am H H1)) 0 0 (mF am) := by
  refine Met.ofW (cc := b_M_look) (maxL := 5) (ret := none) (by decide) rfl ?_
  intro p e s m args below meth c s₁ B hml hv
  obtain ⟨rfl, hK, hg, hM, hD⟩ := hv
  have hx := B.exec
  have hb := B.bytes
  have hr := B.returns
  have hts := atoms_spec (ws := wT y_M_look b_M_look 5 none) B.pre
  have hT : ∀ w ∈ TT, w ∈ wT y_M_look b_M_look 5 none := wT_T
  have hown : s.vm.findClass RM = some m.cls := findClass_of_methodNamed B.named
  have hlocks := B.notSynchronized
  have hl := lv_entry ([.ref (am 0), .int (nI dd)]) (n := 5) (Nat.le_of_ble_eq_true rfl)
  rw [lg_entry_eq]
  generalize (lg_sl ([.ref (am 0), .int (nI dd)]) ++ List.replicate (5 - (lg_sl ([.ref (am 0), .int (nI dd)])).length) Slot.unset).toArray = ls at hl ⊢
  have hl : lv_has ls 5 [(0, .ref (am 0)), (1, .int (nI dd))] := hl
  have hL : ∀ q ∈ ([] : List Loc), mF am q.base := fun q hq => nomatch hq
  have hO : mO am s.heap s.heap := mO.rf
  refine lv_iconst hx hb d_M_look_0 (v := (nI 0)) rfl ?_
  refine lv_istore_n hx hb d_M_look_1 rfl hl (by decide) (lv' := [(2, .int (nI 0)), (0, .ref (am 0)), (1, .int (nI dd))]) rfl (fun ls hl => ?_)
  refine l_M_look1 hx hb hts hT hown hml hK hg hD ⟨Nat.le_of_ble_eq_true rfl, Nat.le_of_ble_eq_true rfl⟩ ⟨Nat.zero_le _, Nat.zero_le _⟩ (H0 := s.heap) hd (fun hs1 H1 locs1 ls hM hH hO hL hl => ?_) 1440 0 hs s.heap [] ls rfl hM (fun j hj => absurd hj (Nat.not_lt_zero j)) hO hL hl
  refine lv_aload_n hx hb d_M_look_32 rfl (lv_at hl 0 rfl) ?_
  refine lv_iconst hx hb d_M_look_33 (v := (nI 0)) rfl ?_
  refine tq_put (F := mF am) hx hb hts (fun w h => hT w (uM_in w h)) tM tM_ok nM hown hK (tm_one hM 0 rfl) (ci := 1) rfl 9 (by decide) (hts _ (hT _ k_M_112)) (fun _ h => h) rfl (ty := .int) rfl rfl rfl (Nat.le_of_ble_eq_true rfl) ⟨0, by decide, rfl⟩ hL d_M_look_34 (fun H1 locs1 hP1 hz1 hq1 hL => ?_)
  have hM : tm D ci am g th (nI 0) sz hs1 mi hi tx H1 := tm_set hD hM 0 (by decide) rfl hP1 (fun j hj => by rcases j with _ | _ | _ | _ | _ | _ | _ | _ | _ | _ | _ | j <;> first | rfl | exact absurd rfl hj) hq1
  have hO := hO.tr (mO.put (k := 0) (by decide) hz1 hq1)
  refine lv_iconst hx hb d_M_look_37 (v := (nI 1)) rfl ?_
  refine lv_istore_n hx hb d_M_look_38 rfl hl (by decide) (lv' := [(2, .int (nI 1)), (0, .ref (am 0)), (1, .int (nI dd))]) rfl (fun ls hl => ?_)
  refine l_M_look2 hx hb hts hT hown hK hg hD (H0 := s.heap) hH (fun fo1 mi1 hi1 H1 locs1 ls hM hC hO hL => ?_) 1439 1 (nI 0) mi hi H1 locs1 ls rfl (Nat.le_refl _) hM (by rw [tt_L_1]; exact ⟨rfl, fun i hi9 => absurd hi9 (Nat.not_lt_zero i)⟩) hO hL hl
  exact W.vret hx hb hr (fun t ht hW => ⟨_, rfl, rfl, fo1, hs1, mi1, hi1, by rw [ht]; exact hM, hH, hC, by rw [ht]; exact hO⟩) hL d_M_look_231
