/-! what holds at the start. Written by wip/whole/gen.py -/
theorem NF {w : Cond} (i : Nat) (h : (flatC (Jvm.Cond.and given_1 narrow_1))[i]? = some w) : w ∈ flatC (Jvm.Cond.and given_1 narrow_1) := List.mem_of_getElem? h
theorem LT {w : Cond} (i : Nat) (h : tables_1[i]? = some w) : w ∈ lw_tbl := List.mem_append_right _ (List.mem_of_getElem? h)
theorem k3_sel {C : String} {y y0 : MethodName} {args : Array Value} {s : State} (hy : y.cls ≠ "java/lang/invoke/MethodHandle" ∧ y.cls ≠ "java/lang/invoke/VarHandle") (hc : y.cls = y0.cls) (h0 : (Cond.selects C y0 y0).before args s = true) (hpriv : (Cond.privateMethod y).before args s = true) (hinst : (Cond.instanceMethod y).before args s = true) : (Cond.selects C y y).before args s = true := by
  obtain ⟨c2, r2, m2, q1, q2, q3, q4, kP, hkP, hkPi⟩ := Cond.selects_spec h0
  obtain ⟨mk, methM, hnamed, hmethM, -, -⟩ := Cond.instanceMethod_spec hinst
  have hfound : s.methodFound? y.cls y.name y.desc = some mk := State.methodFound?_of_named hnamed hy
  have e1 := findClass_of_methodNamed hnamed
  have e2 := findClass_of_methodNamed q3
  rw [hc] at e1
  have hcls : mk.cls = m2.cls := Option.some.inj (e1.symm.trans e2)
  have hsel : selectMethod {} s.vm c2 mk = .method mk := selectMethod_private hmethM (Cond.privateMethod_at hpriv mk methM hnamed hmethM)
  simp only [Cond.before, Cond.holds, Cond.value, q1, hfound, hnamed, hsel, hcls, hkP]
  simp
  exact hkPi
theorem sP_start {b : Nat} {s : State} (hts : ∀ w ∈ lw_tbl, w.before #[Value.ref b] s = true) : ∀ w ∈ sP, w.before #[] s = true := by
  have h0 : (Cond.selects RS y_A_isL1 y_A_isL1).before #[Value.ref b] s = true := hts _ ((List.mem_filter.mp k_sb_lat).1)
  have h_A_ens : (Cond.selects RS y_A_ens y_A_ens).before #[] s = true := word_at (State.WarmedH.refl s) (Or.inl rfl) (k3_sel (y0 := y_A_isL1) (by decide +kernel) rfl h0 (hts _ (LT 377 (by decide +kernel))) (hts _ (LT 378 (by decide +kernel))))
  have h_A_newCap : (Cond.selects RS y_A_newCap y_A_newCap).before #[] s = true := word_at (State.WarmedH.refl s) (Or.inl rfl) (k3_sel (y0 := y_A_isL1) (by decide +kernel) rfl h0 (hts _ (LT 381 (by decide +kernel))) (hts _ (LT 382 (by decide +kernel))))
  have h_A_putS : (Cond.selects RS y_A_putS y_A_putS).before #[] s = true := word_at (State.WarmedH.refl s) (Or.inl rfl) (k3_sel (y0 := y_A_isL1) (by decide +kernel) rfl h0 (hts _ (LT 499 (by decide +kernel))) (hts _ (LT 500 (by decide +kernel))))
  have h_A_infl : (Cond.selects RS y_A_infl y_A_infl).before #[] s = true := word_at (State.WarmedH.refl s) (Or.inl rfl) (k3_sel (y0 := y_A_isL1) (by decide +kernel) rfl h0 (hts _ (LT 503 (by decide +kernel))) (hts _ (LT 504 (by decide +kernel))))
  exact List.forall_mem_cons.mpr ⟨h_A_ens, List.forall_mem_cons.mpr ⟨h_A_newCap, List.forall_mem_cons.mpr ⟨h_A_putS, List.forall_mem_cons.mpr ⟨h_A_infl, fun _ h => nomatch h⟩⟩⟩⟩
set_option maxHeartbeats 4000000 in
set_option maxRecDepth 100000 in
theorem kc_start {b : Nat} {s : State} (hts : ∀ w ∈ lw_tbl, w.before #[Value.ref b] s = true) (hgv : (Jvm.Cond.and given_1 narrow_1).before #[Value.ref b] s = true) : kc s.heap.size s s.heap := by
  have hs := flat_of_before _ hgv
  have hA : ∀ a : Nat, a < s.heap.size → ¬ aSz s.heap.size a := fun a h => Nat.not_le.mpr h
  refine ⟨va_Zof (hts _ (LT 346 (by decide +kernel))) (hts _ (LT 12 (by decide +kernel))) (va_eqt (hs _ (NF 6 (by decide +kernel)))) hA, ?_, ?_, va_Zqof (hts _ (LT 439 (by decide +kernel))) (hts _ (LT 17 (by decide +kernel))) (hs _ (NF 7 (by decide +kernel))) hA, ?_, sP_start hts, Nat.le_refl _⟩
  · obtain ⟨t, ht, hT⟩ := va_Tof (tm := (Term.static RI "DigitOnes" "[B")) (ty := .byte) (N := 100) (f := fun k => .int (nI (48 + k % 10))) (A := aSz s.heap.size) (by decide) (hs _ (NF 12 (by decide +kernel))) (va_eqt (hs _ (NF 13 (by decide +kernel)))) (fun j hj => va_eqt (hs _ (va_run (f := fun j => Cond.eq (.elem (Term.static RI "DigitOnes" "[B") (.int (Int32.ofNat j))) (.int (nI (48 + j % 10)))) (p := 14) (by decide +kernel) j hj))) hA
    exact ⟨t, va_Zref (hts _ (LT 533 (by decide +kernel))) (hts _ (LT 18 (by decide +kernel))) ht hA, hT⟩
  · obtain ⟨t, ht, hT⟩ := va_Tof (tm := (Term.static RI "DigitTens" "[B")) (ty := .byte) (N := 100) (f := fun k => .int (nI (48 + k / 10))) (A := aSz s.heap.size) (by decide) (hs _ (NF 115 (by decide +kernel))) (va_eqt (hs _ (NF 116 (by decide +kernel)))) (fun j hj => va_eqt (hs _ (va_run (f := fun j => Cond.eq (.elem (Term.static RI "DigitTens" "[B") (.int (Int32.ofNat j))) (.int (nI (48 + j / 10)))) (p := 117) (by decide +kernel) j hj))) hA
    exact ⟨t, va_Zref (hts _ (LT 535 (by decide +kernel))) (hts _ (LT 18 (by decide +kernel))) ht hA, hT⟩
  · obtain ⟨adK, adV, hS9, hev⟩ := vk_Sof (N := 2) (tm := fun i => .string RX (if i = 0 then 208 else 210)) (len := [6, 5]) (byt := kB) (A := aSz s.heap.size) (fun i hi => by match i, hi with | 0, _ => decide | 1, _ => decide) (fun i hi => by match i, hi with | 0, _ => exact (hs _ (NF 729 (by decide +kernel))) | 1, _ => exact (hs _ (NF 756 (by decide +kernel)))) (fun i hi => by match i, hi with | 0, _ => exact (hs _ (NF 730 (by decide +kernel))) | 1, _ => exact (hs _ (NF 757 (by decide +kernel)))) (fun i hi => by match i, hi with | 0, _ => exact (hs _ (NF 731 (by decide +kernel))) | 1, _ => exact (hs _ (NF 758 (by decide +kernel)))) (fun i hi => by match i, hi with | 0, _ => exact (hs _ (NF 732 (by decide +kernel))) | 1, _ => exact (hs _ (NF 759 (by decide +kernel)))) (fun i hi j hj => by match i, hi, hj with | 0, _, hj => exact (hs _ (va_run (N := 6) (f := fun j => Cond.eq (.elem (.field (.string RX 208) "java/lang/String" "value" "[B") (.int (Int32.ofNat j))) (.int ((kB.getD 0 []).getD j 0))) (p := 733) (by decide +kernel) j hj)) | 1, _, hj => exact (hs _ (va_run (N := 5) (f := fun j => Cond.eq (.elem (.field (.string RX 210) "java/lang/String" "value" "[B") (.int (Int32.ofNat j))) (.int ((kB.getD 1 []).getD j 0))) (p := 760) (by decide +kernel) j hj))) (fun i j hi hj hn => by match i, hi, j, hj with | 0, _, 0, _ => exact absurd rfl hn | 1, _, 1, _ => exact absurd rfl hn | 0, _, 1, _ => exact Or.inl (hs _ (NF 782 (by decide +kernel))) | 1, _, 0, _ => exact Or.inr (hs _ (NF 782 (by decide +kernel)))) hA
    exact ⟨adK, adV, hS9, vk_R.of (hts _ (LT 464 (by decide +kernel))) (hev 0 (by decide)), vk_R.of (hts _ (LT 465 (by decide +kernel))) (hev 1 (by decide))⟩
theorem st_R {b : Nat} {s : State} {k : Nat} {t : String} (h1 : (Cond.stringRef RX k t).before #[Value.ref b] s = true) (h2 : (Cond.exactly (.string RX k) "java/lang/String").before #[Value.ref b] s = true) : ∃ sa, vk_R RX k t sa s := by
  obtain ⟨a, c, cA, kA, q1, -⟩ := Cond.exactly_spec (args := #[Value.ref b]) (first := s) (o := none) (s := s) (idx := []) (t := .string RX k) (cls := "java/lang/String") h2
  exact ⟨a, vk_R.of h1 q1⟩
set_option maxHeartbeats 4000000 in
set_option maxRecDepth 100000 in
theorem wE_start {b : Nat} {s : State} (hts : ∀ w ∈ lw_tbl, w.before #[Value.ref b] s = true) (hgv : (Jvm.Cond.and given_1 narrow_1).before #[Value.ref b] s = true) : wE s s.heap := by
  have hs := flat_of_before _ hgv
  exact ⟨vx_Zqof (hts _ (LT 105 (by decide +kernel))) (hts _ (LT 4 (by decide +kernel))) (hs _ (NF 4 (by decide +kernel))) (fun _ _ z => z), vx_Zqof (hts _ (LT 107 (by decide +kernel))) (hts _ (LT 4 (by decide +kernel))) (hs _ (NF 5 (by decide +kernel))) (fun _ _ z => z), (List.forall_mem_cons.mpr ⟨va_Nw.of rfl (hts _ (LT 82 (by decide +kernel))), (List.forall_mem_cons.mpr ⟨va_Nw.of rfl (hts _ (LT 84 (by decide +kernel))), (List.forall_mem_cons.mpr ⟨va_Nw.of rfl (hts _ (LT 86 (by decide +kernel))), (List.forall_mem_cons.mpr ⟨va_Nw.of rfl (hts _ (LT 80 (by decide +kernel))), (List.forall_mem_cons.mpr ⟨va_Nw.of rfl (hts _ (LT 158 (by decide +kernel))), (fun _ h => nomatch h)⟩)⟩)⟩)⟩)⟩), (List.forall_mem_cons.mpr ⟨st_R (hts _ (LT 118 (by decide +kernel))) (hs _ (NF 225 (by decide +kernel))), (List.forall_mem_cons.mpr ⟨st_R (hts _ (LT 165 (by decide +kernel))) (hs _ (NF 242 (by decide +kernel))), (List.forall_mem_cons.mpr ⟨st_R (hts _ (LT 173 (by decide +kernel))) (hs _ (NF 266 (by decide +kernel))), (List.forall_mem_cons.mpr ⟨st_R (hts _ (LT 175 (by decide +kernel))) (hs _ (NF 289 (by decide +kernel))), (List.forall_mem_cons.mpr ⟨st_R (hts _ (LT 180 (by decide +kernel))) (hs _ (NF 309 (by decide +kernel))), (List.forall_mem_cons.mpr ⟨st_R (hts _ (LT 195 (by decide +kernel))) (hs _ (NF 330 (by decide +kernel))), (List.forall_mem_cons.mpr ⟨st_R (hts _ (LT 197 (by decide +kernel))) (hs _ (NF 366 (by decide +kernel))), (List.forall_mem_cons.mpr ⟨st_R (hts _ (LT 198 (by decide +kernel))) (hs _ (NF 390 (by decide +kernel))), (List.forall_mem_cons.mpr ⟨st_R (hts _ (LT 206 (by decide +kernel))) (hs _ (NF 414 (by decide +kernel))), (List.forall_mem_cons.mpr ⟨st_R (hts _ (LT 207 (by decide +kernel))) (hs _ (NF 438 (by decide +kernel))), (List.forall_mem_cons.mpr ⟨st_R (hts _ (LT 226 (by decide +kernel))) (hs _ (NF 477 (by decide +kernel))), (List.forall_mem_cons.mpr ⟨st_R (hts _ (LT 238 (by decide +kernel))) (hs _ (NF 505 (by decide +kernel))), (List.forall_mem_cons.mpr ⟨st_R (hts _ (LT 251 (by decide +kernel))) (hs _ (NF 549 (by decide +kernel))), (List.forall_mem_cons.mpr ⟨st_R (hts _ (LT 284 (by decide +kernel))) (hs _ (NF 581 (by decide +kernel))), (List.forall_mem_cons.mpr ⟨st_R (hts _ (LT 299 (by decide +kernel))) (hs _ (NF 623 (by decide +kernel))), (List.forall_mem_cons.mpr ⟨st_R (hts _ (LT 319 (by decide +kernel))) (hs _ (NF 652 (by decide +kernel))), (List.forall_mem_cons.mpr ⟨st_R (hts _ (LT 324 (by decide +kernel))) (hs _ (NF 693 (by decide +kernel))), (List.forall_mem_cons.mpr ⟨st_R (hts _ (LT 558 (by decide +kernel))) (hs _ (NF 783 (by decide +kernel))), (List.forall_mem_cons.mpr ⟨st_R (hts _ (LT 578 (by decide +kernel))) (hs _ (NF 823 (by decide +kernel))), (fun _ h => nomatch h)⟩)⟩)⟩)⟩)⟩)⟩)⟩)⟩)⟩)⟩)⟩)⟩)⟩)⟩)⟩)⟩)⟩)⟩)⟩), va_Nc.of (hs _ (NF 223 (by decide +kernel))), va_Nc.of (hs _ (NF 219 (by decide +kernel)))⟩
theorem st_A {b : Nat} {s : State} {ty : FieldType} (h : (Cond.arrayClass ty).before #[Value.ref b] s = true) : ∃ cA, ArrOfT s cA ty ∧ s.vm.findClass ("[" ++ ty.toString) = some cA := by
  obtain ⟨cA, k, comp, h1, h2, h3⟩ := Cond.arrayClass_spec h
  exact ⟨cA, fun n z => ⟨fun k h => (by cases h), k, h2, comp, h3⟩, h1⟩
theorem st_AA {b : Nat} {s : State} {ty : FieldType} (h : (Cond.arrayOver (.array ty)).before #[Value.ref b] s = true) : ∃ cA, ArrOfT s cA (.array ty) ∧ s.vm.findClass ("[" ++ (FieldType.array ty).toString) = some cA := by
  obtain ⟨comp, cA, k, h1, h2, h3, h4⟩ := Cond.arrayOver_specA h
  exact ⟨cA, fun n z => ⟨fun k h => (by cases h), k, h2, comp, h3⟩, h4⟩
theorem tk_start {b : Nat} {s : State} (hts : ∀ w ∈ lw_tbl, w.before #[Value.ref b] s = true) : ∃ D ci, tk D ci s := by
  have hT : ∀ w ∈ TT, w ∈ lw_tbl := fun w h => (List.mem_filter.mp h).1
  obtain ⟨cX, iX, kX⟩ := u_known (C := RX) (T := TX) (N := 10) hts (fun w h => hT w (uX_in w h)) (hts _ (hT _ k_in_X))
  obtain ⟨cM, iM, kM⟩ := u_known (C := RM) (T := TM) (N := 14) hts (fun w h => hT w (uM_in w h)) (hts _ (hT _ k_in_M))
  obtain ⟨a0, b0, d0⟩ := st_A (hts _ (hT _ k_arr_int))
  obtain ⟨a1, b1, d1⟩ := st_A (hts _ (hT _ k_arr_long))
  obtain ⟨a2, b2, d2⟩ := st_AA (ty := .int) (hts _ (LT 28 (by decide +kernel)))
  obtain ⟨a3, b3, d3⟩ := st_AA (ty := .long) (hts _ (LT 30 (by decide +kernel)))
  obtain ⟨a4, b4, d4⟩ := st_A (hts _ (hT _ k_arr_boolean))
  refine ⟨(fun k => if k = 0 then cX else cM, fun k => if k = 0 then iX else iM), fun k => match k with | 0 => a0 | 1 => a1 | 2 => a2 | 3 => a3 | _ => a4, fun c q hq => ?_, fun k q hk => ?_⟩
  · match c, hq with
    | 0, rfl => exact kX
    | 1, rfl => exact kM
  · match k, hk with
    | 0, rfl => exact ⟨b0, d0⟩
    | 1, rfl => exact ⟨b1, d1⟩
    | 2, rfl => exact ⟨b2, d2⟩
    | 3, rfl => exact ⟨b3, d3⟩
    | 4, rfl => exact ⟨b4, d4⟩
theorem tkB_start {b : Nat} {s : State} (hts : ∀ w ∈ lw_tbl, w.before #[Value.ref b] s = true) : ∃ D cB, tkB D cB s := by
  have hT : ∀ w ∈ TT, w ∈ lw_tbl := fun w h => (List.mem_filter.mp h).1
  obtain ⟨cS, iS, kS9⟩ := u_known (C := RS) (T := TSB) (N := 4) hts (fun w h => hT w (uS_in w h)) (hts _ (hT _ k_in_S))
  obtain ⟨a0, b0, d0⟩ := st_A (hts _ (hT _ k_arr_byte))
  refine ⟨(fun _ => cS, fun _ => iS), a0, fun c q hq => ?_, fun k q hk => ?_⟩
  · match c, hq with
    | 0, rfl => exact kS9
  · match k, hk with
    | 0, rfl => exact ⟨b0, d0⟩
theorem tAO_start {b : Nat} {s : State} (hts : ∀ w ∈ lw_tbl, w.before #[Value.ref b] s = true) : tAO .int s ∧ tAO .long s := by
  have h1 : (Cond.arrayOver (.array .int)).before #[Value.ref b] s = true := (hts _ (LT 28 (by decide +kernel)))
  have h2 : (Cond.arrayOver (.array .long)).before #[Value.ref b] s = true := (hts _ (LT 30 (by decide +kernel)))
  exact ⟨h1, h2⟩
