/-! rows that make cells: arrays of arrays; final fields; worlds that grow -/
def tAO (ty : FieldType) (U : State) : Prop := (Cond.arrayOver (.array ty)).before #[] U = true
theorem tAO.moved {ty : FieldType} {u U : State} (hvm : u.vm.Alike U.vm) (h : tAO ty u) : tAO ty U :=
  have h9 : (Cond.arrayOver (.array ty)).before #[] (u.setVm U.vm) = true := by rw [Cond.arrayOver_setVmC hvm]; exact h
  h9
theorem tAO.use {ty : FieldType} {A : Array Value} {U : State} (h : tAO ty U) : (Cond.arrayOver (.array ty)).before A U = true := h
theorem vr_outer (c : ClassId) (N h0 : Nat) : ∀ i : Nat, Jvm.Free.Multi.outerC c N h0 i = arrV c N (fun j => va_rf (if j < i then some (h0 + 1 + j) else none))
  | 0 => by
    show ({ cls := c, slots := Array.replicate N .null, vm := .none } : Cell) = _
    rw [arrV_new]
    refine congrArg (arrV c N) (funext fun j => ?_)
    simp [va_rf]
  | i + 1 => by
    show (Jvm.Free.Multi.outerC c N h0 i).setSlot i (.ref (h0 + 1 + i)) = _
    rw [vr_outer c N h0 i, arrV_store]
    refine congrArg (arrV c N) (funext fun j => ?_)
    by_cases e : j = i
    · subst e
      simp [updV, va_rf]
    · by_cases h : j < i
      · simp [updV, e, h, Nat.lt_succ_of_lt h]
      · simp [updV, e, h, show ¬ j < i + 1 by omega]
section TMK
variable {p : Program} {l : Launch} {e : Env} {R : Room} {s : State} {m : MethodId} {args : Array Value} {below : List Frame} {meth : Method} {c : Code} {H : Heap} {locs : List Loc} {cells slots : Nat} {Q : State → Prop}
variable {pc n a0 : Nat} {ls : Array Slot} {rest : List Value} {cc : ByteArray} {D : va_G} {cl : List vw_C} {tys : List (ClassId × FieldType)} {F : Nat → Prop}
theorem tq_mna (hexec : p.tables.exec = Jvm.exec) (hb : c.code = cc) {own : String} {index : Nat} {ty : FieldType} (hown : s.vm.findClass own = some m.cls) (hclink : (Cond.classLink own index ("[" ++ (FieldType.array ty).toString)).before args s = true) (hover : tAO ty s) (harr : (Cond.arrayClass ty).before args s = true)
    {x y : Int32} {N K h : Nat} {z : vp_A} (hn : ¬ x < 0) (hk : ¬ y < 0) (hN : x.toNatClampNeg = N) (hM : y.toNatClampNeg = K) (hb1 : N * 4 ≤ 536870912) (hb2 : K * componentBytes ty ≤ 536870912) (hb3 : K ≤ 536870912) (hdf : fits ty (defaultValue ty) = true) (hdd : (defaultValue ty).isDefault = true) (hcells : cells + (1 + N) ≤ R.cells) (hslots : slots + (N + N * K) ≤ R.slots) (hz : ∀ c : ClassId, Jvm.Free.Multi.innerC c K (defaultValue ty) = vp_cell c z) (hh : H.size = h) (hdg : decode cc pc = .ok (.multianewarray index 2, 4))
    (kk : ∀ (H1 : Heap) (cA cy : ClassId), s.vm.findClass ("[" ++ (FieldType.array ty).toString) = some cA → s.vm.findClass (FieldType.array ty).toString = some cy → H1[h]? = some (vp_cell cA (N, .inr (.inr (.inr (.inr (fun i => if i < N then some (h + 1 + i) else none)))))) → (∀ j, j < N → H1[h + 1 + j]? = some (vp_cell cy z)) → H1.size = h + 1 + N → (∀ q, q < h → H1[q]? = H[q]?) →
      W p l e R s m args below meth c H1 locs (cells + 1 + N) (slots + N + N * K) Q (F0 m (pc + 4) ls (.ref h :: rest))) : W p l e R s m args below meth c H locs cells slots Q (F0 m pc ls (.int y :: .int x :: rest)) := by
  subst hN
  subst hM
  subst hh
  intro T hT Xs
  obtain ⟨vm₁, cA, comp, -, fA, fC, hO, -, X', step⟩ := Xs.multianewarray2F hexec hown hclink (tAO.use hover) harr (g := F0 m pc ls (.int y :: .int x :: rest)) rfl (by rw [hb]; exact hdg) rfl hn hk hb1 hb2 hb3 hdf hdd hcells hslots
  generalize hF : Jvm.Free.Multi.fill (T.setVm vm₁) cA comp x.toNatClampNeg y.toNatClampNeg (defaultValue ty) x.toNatClampNeg = Fs at X' step
  have hTh : (T.setVm vm₁).heap = H := hT
  obtain ⟨f1, f2, -, -⟩ := Jvm.Free.Multi.fill_facts (T.setVm vm₁) cA comp x.toNatClampNeg y.toNatClampNeg (defaultValue ty) x.toNatClampNeg
  rw [hF, hTh] at f1 f2
  have hout : Jvm.Free.Multi.outerC cA x.toNatClampNeg H.size x.toNatClampNeg = vp_cell cA (x.toNatClampNeg, .inr (.inr (.inr (.inr (fun i => if i < x.toNatClampNeg then some (H.size + 1 + i) else none))))) := by
    rw [vp_cell_q]
    exact vr_outer cA x.toNatClampNeg H.size x.toNatClampNeg
  rw [hout] at f2
  obtain ⟨t, a1, b1⟩ := kk Fs.heap cA comp fA fC f2 (fun j hj => by
    have := Jvm.Free.Multi.fill_inner (T.setVm vm₁) cA comp x.toNatClampNeg y.toNatClampNeg (defaultValue ty) x.toNatClampNeg j hj
    rw [hF, hTh, hz] at this
    exact this) f1 (fun q hq => by
    have := Jvm.Free.Multi.fill_old (T.setVm vm₁) cA comp x.toNatClampNeg y.toNatClampNeg (defaultValue ty) (a := q) (by rw [hTh]; exact hq) x.toNatClampNeg
    rw [hF, hTh] at this
    exact this) Fs rfl X'
  exact ⟨t, step t (by rw [show T.heap.size = H.size by rw [hT]]; exact a1), b1⟩
theorem tq_putF (hexec : p.tables.exec = Jvm.exec) (hb : c.code = cc) {own ref C : String} {T : u_T} {N ci index : Nat} {Ts : List Cond} (hts : ∀ w ∈ Ts, w.before args s = true) (hin : ∀ w ∈ u_ws C T N, w ∈ Ts) (ty0 : Nat → FieldType) (hty : ∀ k, k < N → parseFieldDescriptor (T k).2.2.1 = some (ty0 k)) (hnm : ∀ a, a < N → ∀ b, b < N → a ≠ b → (T a).2.1 ≠ (T b).2.1) (hown : s.vm.findClass own = some m.cls) (hK : va_K D cl tys s) {fs : List Value} (hP : va_P D cl [(a0, .inr (ci, fs))] H) (hc : cl[ci]? = some (C, T, N)) (k : Nat) (hk : k < N)
    (hlink : (Cond.fieldLink own index ref (T k).2.1 (T k).2.2.1).before args s = true) (hsame : ∀ x, s.fieldFound? (T k).1 (T k).2.1 (T k).2.2.1 = some x → s.fieldFound? ref (T k).2.1 (T k).2.2.1 = some x) (hfin : (T k).2.2.2 = true) (hin2 : meth.name = "<init>") (hdecl : (T k).1 = own) {ty : FieldType} {v : Value} (hd : parseFieldDescriptor (T k).2.2.1 = some ty) (hn : narrow ty v = v) (hfit : fits ty v = true) (hl : k < fs.length) (hF : F a0) (hL : ∀ q ∈ locs, F q.base) (hdg : decode cc pc = .ok (.putfield index, 3))
    (kk : ∀ (H1 : Heap) (locs1 : List Loc), va_P D cl [(a0, .inr (ci, fs.set k v))] H1 → H1.size = H.size → (∀ q : Nat, q ≠ a0 → H1[q]? = H[q]?) → (∀ q ∈ locs1, F q.base) → W p l e R s m args below meth c H1 locs1 cells slots Q (F0 m (pc + 3) ls rest)) : W p l e R s m args below meth c H locs cells slots Q (F0 m pc ls (v :: .ref a0 :: rest)) := by
  have hap := va_apart (own := own) hts hin ty0 hty hnm hK hc
  obtain ⟨r, h1, cell, q1, q2, q3, q4⟩ := hP 0 _ rfl
  have hr : r = (C, T, N) := Option.some.inj (h1.symm.trans hc)
  subst hr
  obtain ⟨hS, hfc, kC, hkC, hkind⟩ := hK.1 ci _ hc
  obtain ⟨cf, kf, fi, f, hi, hsl⟩ := hS k hk
  have hlay := hts _ (hin _ (u_in_lay hk))
  unfold u_lay at hlay
  rw [if_pos hfin] at hlay
  have hst := (u_facts hfc hkC (u_lays hts hin hk) hi).1
  have hcf : m.cls = cf := by
    obtain ⟨_, _, c', _, _, _, -, -, hf', -, -, -, hown2, -⟩ := Cond.laysFinal_spec hlay
    have e1 : c' = cf := by have := hi.symm.trans hf'; simp at this; exact this.1.symm
    rw [hdecl] at hown2
    rw [← e1]; exact Option.some.inj (hown.symm.trans hown2)
  have h6 := u_fits hfc hkC hkind (Or.inr hlay) hi hd hn hfit
  refine W.putFinK hexec hb hown hlink (hsame _ hi) hst hcf hin2 (by rw [q2]; exact h6) q1 q3 (by rw [hsl]; exact k2_hasslot (q4 k hk)) rfl rfl hdg fun H' e1 e2 e3 => ?_
  rw [hsl] at e1
  refine kk H' _ ?_ e2 e3 (fun q hq => ?_)
  · intro i q hk9
    match i, hk9 with
    | 0, rfl => exact ⟨_, hc, t_OB.to (V := updV (vp_V fs) k v) ⟨_, e1, q2, q3, t_set q4 hap hk v⟩ (fun j _ => vp_updV_set hl v j)⟩
  · rcases List.mem_append.mp hq with h | h
    · exact hL q h
    · rw [List.mem_singleton.mp h]; exact hF
end TMK
theorem vP_old {D : va_G} {cl : List vw_C} {ws : va_W} {H H1 : Heap} {h : Nat} (hz : H.size = h) (hP : va_P D cl ws H) (ho : ∀ q : Nat, q < h → H1[q]? = H[q]?) : va_P D cl ws H1 := hP.kept (fun k x hx => ho x.1 (by rw [← hz]; exact (hP k x hx).lt))
theorem vP_at {D : va_G} {cl : List vw_C} {a : Nat} {cA : ClassId} {z : vp_A} {H : Heap} (h : H[a]? = some (vp_cell cA z)) : va_P D cl [(a, .inl (cA, z))] H := fun k x hx => by cases k with | zero => cases hx; exact h | succ k => cases hx
theorem vP_snoc {D : va_G} {cl : List vw_C} {ws : va_W} {x : Nat × va_E} {H : Heap} (hP : va_P D cl ws H) (h1 : va_P D cl [x] H) : va_P D cl (ws ++ [x]) H := hP.app h1
theorem vP_0 {D : va_G} {cl : List vw_C} {x x' : Nat × va_E} {ws : va_W} {H H1 : Heap} (hP : va_P D cl (x :: ws) H) (h1 : va_P D cl [x'] H1) (hn : ∀ y ∈ ws, y.1 ≠ x'.1) (hq : ∀ q : Nat, q ≠ x'.1 → H1[q]? = H[q]?) : va_P D cl (x' :: ws) H1 := vP_cons h1 (vP_but (fun k q hk => hP (k + 1) q hk) hn hq)
theorem vP_sameQ {D : va_G} {cl : List vw_C} {a : Nat} {cA : ClassId} {n : Nat} {f f' : Nat → Option Nat} {H : Heap} (h : H[a]? = some (vp_cell cA (n, .inr (.inr (.inr (.inr f)))))) (he : ∀ j, j < n → f j = f' j) : H[a]? = some (vp_cell cA (n, .inr (.inr (.inr (.inr f'))))) := by
  rw [h, vp_cell_q, vp_cell_q]
  unfold arrV
  congr 2
  apply Array.ext
  · simp
  · intro i h1 h2
    simp only [Array.size_ofFn] at h1
    simp [he i h1]
