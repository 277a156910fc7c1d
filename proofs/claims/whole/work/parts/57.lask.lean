/-! a question in the law. Written by wip/whole/gen.py -/
section G57
variable {p : Program} {l : Launch} {e : Env} {s : State} {m : MethodId} {args : Array Value} {below : List Frame} {meth : Method} {c : Code} {Q : State → Prop} {D : va_G} {ci : Nat → ClassId} {D2 : va_G} {cB : ClassId} {b L n : Nat} {xs : Nat → Int32}
variable {H : Heap} {locs : List Loc} {cells slots : Nat}
set_option maxHeartbeats 4000000 in
set_option maxRecDepth 100000 in
theorem lq_level (hx : p.tables.exec = Jvm.exec) (hb : c.code = b_L_law) (hml : c.maxLocals = 8) (hown : s.vm.findClass RL = some m.cls) (hts : ∀ w ∈ lw_tbl, w.before args s = true) (htr : l.stackTraces = false) (hXs : va_X b L xs s s.heap) (hbl : b < s.heap.size) (hL2 : L < 2147483648) (hK : tk D ci s) (hKB : tkB D2 cB s) (hKC0 : kc s.heap.size s s.heap) (hE0 : wE s s.heap) (hI : lJ D ci s H locs) (hn : 7 * n + 7 ≤ L) (hf : cells + 22 ≤ 601024 ∧ slots + 672 ≤ 7293034)
    (kk : ∀ (H1 : Heap) (locs1 : List Loc) (ls1 : Array Slot), lJ D ci s H1 locs1 → lv_has ls1 8 [(4, .int (nI (7 * n))), (0, .ref b), (1, .ref (lad s.heap.size 0)), (2, .ref (lam s.heap.size 0)), (3, .ref (lao s.heap.size))] → W p l e room_1 s m args below meth c H1 locs1 (cells + 22) (slots + 672) Q (F0 m 1237 ls1 [])) {ls : Array Slot} (hl : lv_has ls 8 [(4, .int (nI (7 * n))), (0, .ref b), (1, .ref (lad s.heap.size 0)), (2, .ref (lam s.heap.size 0)), (3, .ref (lao s.heap.size))]) : W p l e room_1 s m args below meth c H locs cells slots Q (F0 m 116 ls []) := by
  have hT : ∀ w ∈ TT, w ∈ lw_tbl := fun w h => (List.mem_filter.mp h).1
  obtain ⟨g, tc, td, tn, th, fo, sz, hs, mi, hi, tx9, o, hg, hX, hCI, hM, hA, hS⟩ := hI
  obtain ⟨rs, hCx, hCm⟩ := both_level l htr D ci (lad s.heap.size) g tc td tn D2 cB s.heap.size (lao s.heap.size) o (lam s.heap.size) th fo sz hs mi hi tx9 (xs (7 * n + 1))
  refine lv_aload_n hx hb d_L_law_116 rfl (lv_at hl 2 rfl) ?_
  refine lv_aload_n hx hb d_L_law_117 rfl (lv_at hl 1 rfl) ?_
  refine lv_iload hx hb d_L_law_118 (lv_at hl 0 rfl) ?_
  refine lv_iconst hx hb d_L_law_120 (v := (nI 1)) rfl ?_
  refine lv_iadd hx hb d_L_law_121 ?_
  refine tq_ti (show _ = (nI (7 * n + 1)) from nI_add _ _) ?_
  refine tq_sld hx hb hXs hbl hS (show 7 * n + 1 < L by omega) hL2 d_L_law_122 ?_
  refine lv_aload_n hx hb d_L_law_123 rfl (lv_at hl 4 rfl) ?_
  refine tl_L (F2 := aSz s.heap.size) ⟨hx, hb, hml, hown, hts⟩ hT hCx lh_L_69 wl_mv ⟨⟨⟨⟨hK, hg, hX, lad_D _, hCI⟩, hKB, kc_S hKC0 hS, fun j hj => (lad_in hj).1⟩, wE_S hE0 hS⟩, hA, fun k hk => lad_ne hk⟩ (fun _ h => lF_in h) rfl hl.1 rfl (Nat.le_of_ble_eq_true rfl) d_L_law_124 ⟨rfl, rfl, Nat.le_of_ble_eq_true rfl, Nat.le_of_ble_eq_true rfl⟩ hf hS.2.2 (fun v9 H1 locs1 hF9 hL9 => ?_)
  obtain ⟨rfl, tc1, td1, tn1, o1, hX1, hg1, hCI1, hA1, hr1, hO1⟩ := hF9
  have hS1 := lS_st hS hO1 hL9
  have hM1 := tm_lO hM hO1
  refine lv_istore hx hb d_L_law_127 hl (by decide) (lv' := [(5, .int rs.1), (4, .int (nI (7 * n))), (0, .ref b), (1, .ref (lad s.heap.size 0)), (2, .ref (lam s.heap.size 0)), (3, .ref (lao s.heap.size))]) rfl (fun ls hl => ?_)
  refine lv_aload_n hx hb d_L_law_129 rfl (lv_at hl 4 rfl) ?_
  refine lv_aload_n hx hb d_L_law_130 rfl (lv_at hl 2 rfl) ?_
  refine lv_iload hx hb d_L_law_131 (lv_at hl 1 rfl) ?_
  refine lv_iconst hx hb d_L_law_133 (v := (nI 1)) rfl ?_
  refine lv_iadd hx hb d_L_law_134 ?_
  refine tq_ti (show _ = (nI (7 * n + 1)) from nI_add _ _) ?_
  refine tq_sld hx hb hXs hbl hS1 (show 7 * n + 1 < L by omega) hL2 d_L_law_135 ?_
  refine tl_V (F2 := aSz s.heap.size) (fun _ h => mF_in h) ⟨hx, hb, hml, hown, hts⟩ hT hCm lk_L_74 wMD_mv ⟨hK, hg, hM1, lam_D _⟩ (wM_rc hK hM1) rfl hl.1 rfl (Nat.le_of_ble_eq_true rfl) d_L_law_136 ⟨rfl, rfl, Nat.le_of_ble_eq_true rfl, Nat.le_of_ble_eq_true rfl⟩ hf hS1.2.2 (fun v9 H2 locs2 hF9 hL9 => ?_)
  obtain ⟨b9, rfl, hb9, fo1, sz1, hs1, mi1, hi1, tx1, hM2, hO2⟩ := hF9
  have hX2 := tx_mO hX1 hO2
  have hA2 := lP_mO hA1 hO2
  have hS2 := mS_st hS1 hO2 hL9
  refine lv_istore hx hb d_L_law_139 hl (by decide) (lv' := [(6, .int b9), (5, .int rs.1), (4, .int (nI (7 * n))), (0, .ref b), (1, .ref (lad s.heap.size 0)), (2, .ref (lam s.heap.size 0)), (3, .ref (lao s.heap.size))]) rfl (fun ls hl => ?_)
  refine lv_aload_n hx hb d_L_law_141 rfl (lv_at hl 5 rfl) ?_
  refine tq_V ⟨hx, hb, hml, hown, hts⟩ hT (c_M_thrown l D ci (lam s.heap.size) rs.2.2 rs.1 fo1 sz1 hs1 mi1 hi1 tx1) lk_L_75 wM_mv ⟨hK, hg1, hM2⟩ (wM_rc hK hM2) rfl hl.1 rfl (Nat.le_of_ble_eq_true rfl) d_L_law_142 ⟨rfl, rfl, Nat.le_of_ble_eq_true rfl, Nat.le_of_ble_eq_true rfl⟩ hf ?_
  refine lv_iload hx hb d_L_law_145 (lv_at hl 1 rfl) ?_
  refine lv_icmp_eq hx hb d_L_law_147 (tgt := 152) (by decide) (fun _ => ?_) (fun hno => absurd rfl hno)
  refine lv_iload hx hb d_L_law_152 (lv_at hl 1 rfl) ?_
  refine lv_if_ne hx hb d_L_law_154 (tgt := 169) (by decide) (fun h0 => ?_) (fun h0 => ?_)
  · refine lv_goto hx hb d_L_law_169 (tgt := 1237) (by decide) ?_
    have hl := lv_sub hl (l' := [(4, .int (nI (7 * n))), (0, .ref b), (1, .ref (lad s.heap.size 0)), (2, .ref (lam s.heap.size 0)), (3, .ref (lao s.heap.size))]) [2, 3, 4, 5, 6] rfl
    exact kk H2 locs2 ls ⟨rs.2.2, tc1, td1, tn1, rs.1, fo1, sz1, hs1, mi1, hi1, tx1, o1, hg1, hX2, hCI1, hM2, hA2, hS2⟩ hl
  · refine lv_aload_n hx hb d_L_law_157 rfl (lv_at hl 6 rfl) ?_
    refine lv_iconst hx hb d_L_law_158 (v := (nI 0)) rfl ?_
    refine tq_lald hx hb hK hA2 0 1 rfl rfl (j := 0) (by decide) (by decide) d_L_law_159 ?_
    refine lv_iload hx hb d_L_law_160 (lv_at hl 0 rfl) ?_
    refine lv_i2l hx hb d_L_law_162 (v := b9.toInt64) rfl ?_
    refine W.lcmp hx hb d_L_law_163 ?_
    refine lv_if_eq hx hb d_L_law_164 (tgt := 169) (by decide) (fun _ => ?_) (fun hno => absurd ((lg_cmp_eq _ _).mpr (by rw [hr1 h0, hb9 h0])) hno)
    refine lv_goto hx hb d_L_law_169 (tgt := 1237) (by decide) ?_
    have hl := lv_sub hl (l' := [(4, .int (nI (7 * n))), (0, .ref b), (1, .ref (lad s.heap.size 0)), (2, .ref (lam s.heap.size 0)), (3, .ref (lao s.heap.size))]) [2, 3, 4, 5, 6] rfl
    exact kk H2 locs2 ls ⟨rs.2.2, tc1, td1, tn1, rs.1, fo1, sz1, hs1, mi1, hi1, tx1, o1, hg1, hX2, hCI1, hM2, hA2, hS2⟩ hl
set_option maxHeartbeats 4000000 in
set_option maxRecDepth 100000 in
theorem lq_constituent (hx : p.tables.exec = Jvm.exec) (hb : c.code = b_L_law) (hml : c.maxLocals = 8) (hown : s.vm.findClass RL = some m.cls) (hts : ∀ w ∈ lw_tbl, w.before args s = true) (htr : l.stackTraces = false) (hXs : va_X b L xs s s.heap) (hbl : b < s.heap.size) (hL2 : L < 2147483648) (hK : tk D ci s) (hKB : tkB D2 cB s) (hKC0 : kc s.heap.size s s.heap) (hE0 : wE s s.heap) (hI : lJ D ci s H locs) (hn : 7 * n + 7 ≤ L) (hf : cells + 22 ≤ 601024 ∧ slots + 672 ≤ 7293034)
    (kk : ∀ (H1 : Heap) (locs1 : List Loc) (ls1 : Array Slot), lJ D ci s H1 locs1 → lv_has ls1 8 [(4, .int (nI (7 * n))), (0, .ref b), (1, .ref (lad s.heap.size 0)), (2, .ref (lam s.heap.size 0)), (3, .ref (lao s.heap.size))] → W p l e room_1 s m args below meth c H1 locs1 (cells + 22) (slots + 672) Q (F0 m 1237 ls1 [])) {ls : Array Slot} (hl : lv_has ls 8 [(4, .int (nI (7 * n))), (0, .ref b), (1, .ref (lad s.heap.size 0)), (2, .ref (lam s.heap.size 0)), (3, .ref (lao s.heap.size))]) : W p l e room_1 s m args below meth c H locs cells slots Q (F0 m 172 ls []) := by
  have hT : ∀ w ∈ TT, w ∈ lw_tbl := fun w h => (List.mem_filter.mp h).1
  obtain ⟨g, tc, td, tn, th, fo, sz, hs, mi, hi, tx9, o, hg, hX, hCI, hM, hA, hS⟩ := hI
  obtain ⟨rs, hCx, hCm⟩ := both_constituent l htr D ci (lad s.heap.size) g tc td tn D2 cB s.heap.size (lao s.heap.size) o (lam s.heap.size) th fo sz hs mi hi tx9 (xs (7 * n + 1)) (xs (7 * n + 2)) (((xs (7 * n + 3)).toInt64 <<< ((nI 32).toInt64 &&& 63)) ||| ((xs (7 * n + 4)).toInt64 &&& (lN 4294967295))) (((xs (7 * n + 5)).toInt64 <<< ((nI 32).toInt64 &&& 63)) ||| ((xs (7 * n + 6)).toInt64 &&& (lN 4294967295)))
  refine lv_aload_n hx hb d_L_law_172 rfl (lv_at hl 2 rfl) ?_
  refine lv_aload_n hx hb d_L_law_173 rfl (lv_at hl 1 rfl) ?_
  refine lv_iload hx hb d_L_law_174 (lv_at hl 0 rfl) ?_
  refine lv_iconst hx hb d_L_law_176 (v := (nI 1)) rfl ?_
  refine lv_iadd hx hb d_L_law_177 ?_
  refine tq_ti (show _ = (nI (7 * n + 1)) from nI_add _ _) ?_
  refine tq_sld hx hb hXs hbl hS (show 7 * n + 1 < L by omega) hL2 d_L_law_178 ?_
  refine lv_aload_n hx hb d_L_law_179 rfl (lv_at hl 1 rfl) ?_
  refine lv_iload hx hb d_L_law_180 (lv_at hl 0 rfl) ?_
  refine lv_iconst hx hb d_L_law_182 (v := (nI 2)) rfl ?_
  refine lv_iadd hx hb d_L_law_183 ?_
  refine tq_ti (show _ = (nI (7 * n + 2)) from nI_add _ _) ?_
  refine tq_sld hx hb hXs hbl hS (show 7 * n + 2 < L by omega) hL2 d_L_law_184 ?_
  refine lv_aload_n hx hb d_L_law_185 rfl (lv_at hl 1 rfl) ?_
  refine lv_iload hx hb d_L_law_186 (lv_at hl 0 rfl) ?_
  refine lv_iconst hx hb d_L_law_188 (v := (nI 3)) rfl ?_
  refine lv_iadd hx hb d_L_law_189 ?_
  refine tq_ti (show _ = (nI (7 * n + 3)) from nI_add _ _) ?_
  refine tq_sld hx hb hXs hbl hS (show 7 * n + 3 < L by omega) hL2 d_L_law_190 ?_
  refine lv_i2l hx hb d_L_law_191 (v := (xs (7 * n + 3)).toInt64) rfl ?_
  refine lv_bipush hx hb d_L_law_192 (v := (nI 32)) rfl ?_
  refine lv_lshl hx hb d_L_law_194 (v := ((xs (7 * n + 3)).toInt64 <<< ((nI 32).toInt64 &&& 63))) rfl ?_
  refine lv_aload_n hx hb d_L_law_195 rfl (lv_at hl 1 rfl) ?_
  refine lv_iload hx hb d_L_law_196 (lv_at hl 0 rfl) ?_
  refine lv_iconst hx hb d_L_law_198 (v := (nI 4)) rfl ?_
  refine lv_iadd hx hb d_L_law_199 ?_
  refine tq_ti (show _ = (nI (7 * n + 4)) from nI_add _ _) ?_
  refine tq_sld hx hb hXs hbl hS (show 7 * n + 4 < L by omega) hL2 d_L_law_200 ?_
  refine lv_i2l hx hb d_L_law_201 (v := (xs (7 * n + 4)).toInt64) rfl ?_
  refine lv_ldc2 hx hb (v := (lN 4294967295)) hown (hts _ (hT _ k_L_79)) d_L_law_202 ?_
  refine lv_land hx hb d_L_law_205 ?_
  refine lv_lor hx hb d_L_law_206 ?_
  refine lv_aload_n hx hb d_L_law_207 rfl (lv_at hl 1 rfl) ?_
  refine lv_iload hx hb d_L_law_208 (lv_at hl 0 rfl) ?_
  refine lv_iconst hx hb d_L_law_210 (v := (nI 5)) rfl ?_
  refine lv_iadd hx hb d_L_law_211 ?_
  refine tq_ti (show _ = (nI (7 * n + 5)) from nI_add _ _) ?_
  refine tq_sld hx hb hXs hbl hS (show 7 * n + 5 < L by omega) hL2 d_L_law_212 ?_
  refine lv_i2l hx hb d_L_law_213 (v := (xs (7 * n + 5)).toInt64) rfl ?_
  refine lv_bipush hx hb d_L_law_214 (v := (nI 32)) rfl ?_
  refine lv_lshl hx hb d_L_law_216 (v := ((xs (7 * n + 5)).toInt64 <<< ((nI 32).toInt64 &&& 63))) rfl ?_
  refine lv_aload_n hx hb d_L_law_217 rfl (lv_at hl 1 rfl) ?_
  refine lv_iload hx hb d_L_law_218 (lv_at hl 0 rfl) ?_
  refine lv_bipush hx hb d_L_law_220 (v := (nI 6)) rfl ?_
  refine lv_iadd hx hb d_L_law_222 ?_
  refine tq_ti (show _ = (nI (7 * n + 6)) from nI_add _ _) ?_
  refine tq_sld hx hb hXs hbl hS (show 7 * n + 6 < L by omega) hL2 d_L_law_223 ?_
  refine lv_i2l hx hb d_L_law_224 (v := (xs (7 * n + 6)).toInt64) rfl ?_
  refine lv_ldc2 hx hb (v := (lN 4294967295)) hown (hts _ (hT _ k_L_79)) d_L_law_225 ?_
  refine lv_land hx hb d_L_law_228 ?_
  refine lv_lor hx hb d_L_law_229 ?_
  refine tl_L (F2 := aSz s.heap.size) ⟨hx, hb, hml, hown, hts⟩ hT hCx lh_L_81 wl_mv ⟨⟨⟨⟨hK, hg, hX, lad_D _, hCI⟩, hKB, kc_S hKC0 hS, fun j hj => (lad_in hj).1⟩, wE_S hE0 hS⟩, hA, fun k hk => lad_ne hk⟩ (fun _ h => lF_in h) rfl hl.1 rfl (Nat.le_of_ble_eq_true rfl) d_L_law_230 ⟨rfl, rfl, Nat.le_of_ble_eq_true rfl, Nat.le_of_ble_eq_true rfl⟩ hf hS.2.2 (fun v9 H1 locs1 hF9 hL9 => ?_)
  obtain ⟨rfl, tc1, td1, tn1, o1, hX1, hg1, hCI1, hA1, hr1, hO1⟩ := hF9
  have hS1 := lS_st hS hO1 hL9
  have hM1 := tm_lO hM hO1
  refine lv_istore hx hb d_L_law_233 hl (by decide) (lv' := [(5, .int rs.1), (4, .int (nI (7 * n))), (0, .ref b), (1, .ref (lad s.heap.size 0)), (2, .ref (lam s.heap.size 0)), (3, .ref (lao s.heap.size))]) rfl (fun ls hl => ?_)
  refine lv_aload_n hx hb d_L_law_235 rfl (lv_at hl 4 rfl) ?_
  refine lv_aload_n hx hb d_L_law_236 rfl (lv_at hl 2 rfl) ?_
  refine lv_iload hx hb d_L_law_237 (lv_at hl 1 rfl) ?_
  refine lv_iconst hx hb d_L_law_239 (v := (nI 1)) rfl ?_
  refine lv_iadd hx hb d_L_law_240 ?_
  refine tq_ti (show _ = (nI (7 * n + 1)) from nI_add _ _) ?_
  refine tq_sld hx hb hXs hbl hS1 (show 7 * n + 1 < L by omega) hL2 d_L_law_241 ?_
  refine lv_aload_n hx hb d_L_law_242 rfl (lv_at hl 2 rfl) ?_
  refine lv_iload hx hb d_L_law_243 (lv_at hl 1 rfl) ?_
  refine lv_iconst hx hb d_L_law_245 (v := (nI 2)) rfl ?_
  refine lv_iadd hx hb d_L_law_246 ?_
  refine tq_ti (show _ = (nI (7 * n + 2)) from nI_add _ _) ?_
  refine tq_sld hx hb hXs hbl hS1 (show 7 * n + 2 < L by omega) hL2 d_L_law_247 ?_
  refine lv_aload_n hx hb d_L_law_248 rfl (lv_at hl 2 rfl) ?_
  refine lv_iload hx hb d_L_law_249 (lv_at hl 1 rfl) ?_
  refine lv_iconst hx hb d_L_law_251 (v := (nI 3)) rfl ?_
  refine lv_iadd hx hb d_L_law_252 ?_
  refine tq_ti (show _ = (nI (7 * n + 3)) from nI_add _ _) ?_
  refine tq_sld hx hb hXs hbl hS1 (show 7 * n + 3 < L by omega) hL2 d_L_law_253 ?_
  refine lv_i2l hx hb d_L_law_254 (v := (xs (7 * n + 3)).toInt64) rfl ?_
  refine lv_bipush hx hb d_L_law_255 (v := (nI 32)) rfl ?_
  refine lv_lshl hx hb d_L_law_257 (v := ((xs (7 * n + 3)).toInt64 <<< ((nI 32).toInt64 &&& 63))) rfl ?_
  refine lv_aload_n hx hb d_L_law_258 rfl (lv_at hl 2 rfl) ?_
  refine lv_iload hx hb d_L_law_259 (lv_at hl 1 rfl) ?_
  refine lv_iconst hx hb d_L_law_261 (v := (nI 4)) rfl ?_
  refine lv_iadd hx hb d_L_law_262 ?_
  refine tq_ti (show _ = (nI (7 * n + 4)) from nI_add _ _) ?_
  refine tq_sld hx hb hXs hbl hS1 (show 7 * n + 4 < L by omega) hL2 d_L_law_263 ?_
  refine lv_i2l hx hb d_L_law_264 (v := (xs (7 * n + 4)).toInt64) rfl ?_
  refine lv_ldc2 hx hb (v := (lN 4294967295)) hown (hts _ (hT _ k_L_79)) d_L_law_265 ?_
  refine lv_land hx hb d_L_law_268 ?_
  refine lv_lor hx hb d_L_law_269 ?_
  refine lv_aload_n hx hb d_L_law_270 rfl (lv_at hl 2 rfl) ?_
  refine lv_iload hx hb d_L_law_271 (lv_at hl 1 rfl) ?_
  refine lv_iconst hx hb d_L_law_273 (v := (nI 5)) rfl ?_
  refine lv_iadd hx hb d_L_law_274 ?_
  refine tq_ti (show _ = (nI (7 * n + 5)) from nI_add _ _) ?_
  refine tq_sld hx hb hXs hbl hS1 (show 7 * n + 5 < L by omega) hL2 d_L_law_275 ?_
  refine lv_i2l hx hb d_L_law_276 (v := (xs (7 * n + 5)).toInt64) rfl ?_
  refine lv_bipush hx hb d_L_law_277 (v := (nI 32)) rfl ?_
  refine lv_lshl hx hb d_L_law_279 (v := ((xs (7 * n + 5)).toInt64 <<< ((nI 32).toInt64 &&& 63))) rfl ?_
  refine lv_aload_n hx hb d_L_law_280 rfl (lv_at hl 2 rfl) ?_
  refine lv_iload hx hb d_L_law_281 (lv_at hl 1 rfl) ?_
  refine lv_bipush hx hb d_L_law_283 (v := (nI 6)) rfl ?_
  refine lv_iadd hx hb d_L_law_285 ?_
  refine tq_ti (show _ = (nI (7 * n + 6)) from nI_add _ _) ?_
  refine tq_sld hx hb hXs hbl hS1 (show 7 * n + 6 < L by omega) hL2 d_L_law_286 ?_
  refine lv_i2l hx hb d_L_law_287 (v := (xs (7 * n + 6)).toInt64) rfl ?_
  refine lv_ldc2 hx hb (v := (lN 4294967295)) hown (hts _ (hT _ k_L_79)) d_L_law_288 ?_
  refine lv_land hx hb d_L_law_291 ?_
  refine lv_lor hx hb d_L_law_292 ?_
  refine tl_V (F2 := aSz s.heap.size) (fun _ h => mF_in h) ⟨hx, hb, hml, hown, hts⟩ hT hCm lk_L_84 wMD_mv ⟨hK, hg, hM1, lam_D _⟩ (wM_rc hK hM1) rfl hl.1 rfl (Nat.le_of_ble_eq_true rfl) d_L_law_293 ⟨rfl, rfl, Nat.le_of_ble_eq_true rfl, Nat.le_of_ble_eq_true rfl⟩ hf hS1.2.2 (fun v9 H2 locs2 hF9 hL9 => ?_)
  obtain ⟨rfl, fo1, sz1, hs1, mi1, hi1, tx1, hM2, hO2⟩ := hF9
  have hX2 := tx_mO hX1 hO2
  have hA2 := lP_mO hA1 hO2
  have hS2 := mS_st hS1 hO2 hL9
  refine lv_aload_n hx hb d_L_law_296 rfl (lv_at hl 4 rfl) ?_
  refine tq_V ⟨hx, hb, hml, hown, hts⟩ hT (c_M_thrown l D ci (lam s.heap.size) rs.2.2 rs.1 fo1 sz1 hs1 mi1 hi1 tx1) lk_L_75 wM_mv ⟨hK, hg1, hM2⟩ (wM_rc hK hM2) rfl hl.1 rfl (Nat.le_of_ble_eq_true rfl) d_L_law_297 ⟨rfl, rfl, Nat.le_of_ble_eq_true rfl, Nat.le_of_ble_eq_true rfl⟩ hf ?_
  refine lv_iload hx hb d_L_law_300 (lv_at hl 0 rfl) ?_
  refine lv_icmp_eq hx hb d_L_law_302 (tgt := 307) (by decide) (fun _ => ?_) (fun hno => absurd rfl hno)
  refine lv_goto hx hb d_L_law_307 (tgt := 1237) (by decide) ?_
  have hl := lv_sub hl (l' := [(4, .int (nI (7 * n))), (0, .ref b), (1, .ref (lad s.heap.size 0)), (2, .ref (lam s.heap.size 0)), (3, .ref (lao s.heap.size))]) [1, 2, 3, 4, 5] rfl
  exact kk H2 locs2 ls ⟨rs.2.2, tc1, td1, tn1, rs.1, fo1, sz1, hs1, mi1, hi1, tx1, o1, hg1, hX2, hCI1, hM2, hA2, hS2⟩ hl
set_option maxHeartbeats 4000000 in
set_option maxRecDepth 100000 in
theorem lq_node (hx : p.tables.exec = Jvm.exec) (hb : c.code = b_L_law) (hml : c.maxLocals = 8) (hown : s.vm.findClass RL = some m.cls) (hts : ∀ w ∈ lw_tbl, w.before args s = true) (htr : l.stackTraces = false) (hXs : va_X b L xs s s.heap) (hbl : b < s.heap.size) (hL2 : L < 2147483648) (hK : tk D ci s) (hKB : tkB D2 cB s) (hKC0 : kc s.heap.size s s.heap) (hE0 : wE s s.heap) (hI : lJ D ci s H locs) (hn : 7 * n + 7 ≤ L) (hf : cells + 22 ≤ 601024 ∧ slots + 672 ≤ 7293034)
    (kk : ∀ (H1 : Heap) (locs1 : List Loc) (ls1 : Array Slot), lJ D ci s H1 locs1 → lv_has ls1 8 [(4, .int (nI (7 * n))), (0, .ref b), (1, .ref (lad s.heap.size 0)), (2, .ref (lam s.heap.size 0)), (3, .ref (lao s.heap.size))] → W p l e room_1 s m args below meth c H1 locs1 (cells + 22) (slots + 672) Q (F0 m 1237 ls1 [])) {ls : Array Slot} (hl : lv_has ls 8 [(4, .int (nI (7 * n))), (0, .ref b), (1, .ref (lad s.heap.size 0)), (2, .ref (lam s.heap.size 0)), (3, .ref (lao s.heap.size))]) : W p l e room_1 s m args below meth c H locs cells slots Q (F0 m 310 ls []) := by
  have hT : ∀ w ∈ TT, w ∈ lw_tbl := fun w h => (List.mem_filter.mp h).1
  obtain ⟨g, tc, td, tn, th, fo, sz, hs, mi, hi, tx9, o, hg, hX, hCI, hM, hA, hS⟩ := hI
  obtain ⟨rs, hCx, hCm⟩ := both_node l htr D ci (lad s.heap.size) g tc td tn D2 cB s.heap.size (lao s.heap.size) o (lam s.heap.size) th fo sz hs mi hi tx9 (xs (7 * n + 1)) (xs (7 * n + 2)) (xs (7 * n + 3)) (((xs (7 * n + 4)).toInt64 <<< ((nI 32).toInt64 &&& 63)) ||| ((xs (7 * n + 5)).toInt64 &&& (lN 4294967295)))
  refine lv_aload_n hx hb d_L_law_310 rfl (lv_at hl 2 rfl) ?_
  refine lv_aload_n hx hb d_L_law_311 rfl (lv_at hl 1 rfl) ?_
  refine lv_iload hx hb d_L_law_312 (lv_at hl 0 rfl) ?_
  refine lv_iconst hx hb d_L_law_314 (v := (nI 1)) rfl ?_
  refine lv_iadd hx hb d_L_law_315 ?_
  refine tq_ti (show _ = (nI (7 * n + 1)) from nI_add _ _) ?_
  refine tq_sld hx hb hXs hbl hS (show 7 * n + 1 < L by omega) hL2 d_L_law_316 ?_
  refine lv_aload_n hx hb d_L_law_317 rfl (lv_at hl 1 rfl) ?_
  refine lv_iload hx hb d_L_law_318 (lv_at hl 0 rfl) ?_
  refine lv_iconst hx hb d_L_law_320 (v := (nI 2)) rfl ?_
  refine lv_iadd hx hb d_L_law_321 ?_
  refine tq_ti (show _ = (nI (7 * n + 2)) from nI_add _ _) ?_
  refine tq_sld hx hb hXs hbl hS (show 7 * n + 2 < L by omega) hL2 d_L_law_322 ?_
  refine lv_aload_n hx hb d_L_law_323 rfl (lv_at hl 1 rfl) ?_
  refine lv_iload hx hb d_L_law_324 (lv_at hl 0 rfl) ?_
  refine lv_iconst hx hb d_L_law_326 (v := (nI 3)) rfl ?_
  refine lv_iadd hx hb d_L_law_327 ?_
  refine tq_ti (show _ = (nI (7 * n + 3)) from nI_add _ _) ?_
  refine tq_sld hx hb hXs hbl hS (show 7 * n + 3 < L by omega) hL2 d_L_law_328 ?_
  refine lv_aload_n hx hb d_L_law_329 rfl (lv_at hl 1 rfl) ?_
  refine lv_iload hx hb d_L_law_330 (lv_at hl 0 rfl) ?_
  refine lv_iconst hx hb d_L_law_332 (v := (nI 4)) rfl ?_
  refine lv_iadd hx hb d_L_law_333 ?_
  refine tq_ti (show _ = (nI (7 * n + 4)) from nI_add _ _) ?_
  refine tq_sld hx hb hXs hbl hS (show 7 * n + 4 < L by omega) hL2 d_L_law_334 ?_
  refine lv_i2l hx hb d_L_law_335 (v := (xs (7 * n + 4)).toInt64) rfl ?_
  refine lv_bipush hx hb d_L_law_336 (v := (nI 32)) rfl ?_
  refine lv_lshl hx hb d_L_law_338 (v := ((xs (7 * n + 4)).toInt64 <<< ((nI 32).toInt64 &&& 63))) rfl ?_
  refine lv_aload_n hx hb d_L_law_339 rfl (lv_at hl 1 rfl) ?_
  refine lv_iload hx hb d_L_law_340 (lv_at hl 0 rfl) ?_
  refine lv_iconst hx hb d_L_law_342 (v := (nI 5)) rfl ?_
  refine lv_iadd hx hb d_L_law_343 ?_
  refine tq_ti (show _ = (nI (7 * n + 5)) from nI_add _ _) ?_
  refine tq_sld hx hb hXs hbl hS (show 7 * n + 5 < L by omega) hL2 d_L_law_344 ?_
  refine lv_i2l hx hb d_L_law_345 (v := (xs (7 * n + 5)).toInt64) rfl ?_
  refine lv_ldc2 hx hb (v := (lN 4294967295)) hown (hts _ (hT _ k_L_79)) d_L_law_346 ?_
  refine lv_land hx hb d_L_law_349 ?_
  refine lv_lor hx hb d_L_law_350 ?_
  refine tl_L (F2 := aSz s.heap.size) ⟨hx, hb, hml, hown, hts⟩ hT hCx lh_L_85 wl_mv ⟨⟨⟨⟨hK, hg, hX, lad_D _, hCI⟩, hKB, kc_S hKC0 hS, fun j hj => (lad_in hj).1⟩, wE_S hE0 hS⟩, hA, fun k hk => lad_ne hk⟩ (fun _ h => lF_in h) rfl hl.1 rfl (Nat.le_of_ble_eq_true rfl) d_L_law_351 ⟨rfl, rfl, Nat.le_of_ble_eq_true rfl, Nat.le_of_ble_eq_true rfl⟩ hf hS.2.2 (fun v9 H1 locs1 hF9 hL9 => ?_)
  obtain ⟨rfl, tc1, td1, tn1, o1, hX1, hg1, hCI1, hA1, hr1, hO1⟩ := hF9
  have hS1 := lS_st hS hO1 hL9
  have hM1 := tm_lO hM hO1
  refine lv_istore hx hb d_L_law_354 hl (by decide) (lv' := [(5, .int rs.1), (4, .int (nI (7 * n))), (0, .ref b), (1, .ref (lad s.heap.size 0)), (2, .ref (lam s.heap.size 0)), (3, .ref (lao s.heap.size))]) rfl (fun ls hl => ?_)
  refine lv_aload_n hx hb d_L_law_356 rfl (lv_at hl 4 rfl) ?_
  refine lv_aload_n hx hb d_L_law_357 rfl (lv_at hl 2 rfl) ?_
  refine lv_iload hx hb d_L_law_358 (lv_at hl 1 rfl) ?_
  refine lv_iconst hx hb d_L_law_360 (v := (nI 1)) rfl ?_
  refine lv_iadd hx hb d_L_law_361 ?_
  refine tq_ti (show _ = (nI (7 * n + 1)) from nI_add _ _) ?_
  refine tq_sld hx hb hXs hbl hS1 (show 7 * n + 1 < L by omega) hL2 d_L_law_362 ?_
  refine lv_aload_n hx hb d_L_law_363 rfl (lv_at hl 2 rfl) ?_
  refine lv_iload hx hb d_L_law_364 (lv_at hl 1 rfl) ?_
  refine lv_iconst hx hb d_L_law_366 (v := (nI 2)) rfl ?_
  refine lv_iadd hx hb d_L_law_367 ?_
  refine tq_ti (show _ = (nI (7 * n + 2)) from nI_add _ _) ?_
  refine tq_sld hx hb hXs hbl hS1 (show 7 * n + 2 < L by omega) hL2 d_L_law_368 ?_
  refine lv_aload_n hx hb d_L_law_369 rfl (lv_at hl 2 rfl) ?_
  refine lv_iload hx hb d_L_law_370 (lv_at hl 1 rfl) ?_
  refine lv_iconst hx hb d_L_law_372 (v := (nI 3)) rfl ?_
  refine lv_iadd hx hb d_L_law_373 ?_
  refine tq_ti (show _ = (nI (7 * n + 3)) from nI_add _ _) ?_
  refine tq_sld hx hb hXs hbl hS1 (show 7 * n + 3 < L by omega) hL2 d_L_law_374 ?_
  refine lv_aload_n hx hb d_L_law_375 rfl (lv_at hl 2 rfl) ?_
  refine lv_iload hx hb d_L_law_376 (lv_at hl 1 rfl) ?_
  refine lv_iconst hx hb d_L_law_378 (v := (nI 4)) rfl ?_
  refine lv_iadd hx hb d_L_law_379 ?_
  refine tq_ti (show _ = (nI (7 * n + 4)) from nI_add _ _) ?_
  refine tq_sld hx hb hXs hbl hS1 (show 7 * n + 4 < L by omega) hL2 d_L_law_380 ?_
  refine lv_i2l hx hb d_L_law_381 (v := (xs (7 * n + 4)).toInt64) rfl ?_
  refine lv_bipush hx hb d_L_law_382 (v := (nI 32)) rfl ?_
  refine lv_lshl hx hb d_L_law_384 (v := ((xs (7 * n + 4)).toInt64 <<< ((nI 32).toInt64 &&& 63))) rfl ?_
  refine lv_aload_n hx hb d_L_law_385 rfl (lv_at hl 2 rfl) ?_
  refine lv_iload hx hb d_L_law_386 (lv_at hl 1 rfl) ?_
  refine lv_iconst hx hb d_L_law_388 (v := (nI 5)) rfl ?_
  refine lv_iadd hx hb d_L_law_389 ?_
  refine tq_ti (show _ = (nI (7 * n + 5)) from nI_add _ _) ?_
  refine tq_sld hx hb hXs hbl hS1 (show 7 * n + 5 < L by omega) hL2 d_L_law_390 ?_
  refine lv_i2l hx hb d_L_law_391 (v := (xs (7 * n + 5)).toInt64) rfl ?_
  refine lv_ldc2 hx hb (v := (lN 4294967295)) hown (hts _ (hT _ k_L_79)) d_L_law_392 ?_
  refine lv_land hx hb d_L_law_395 ?_
  refine lv_lor hx hb d_L_law_396 ?_
  refine tl_V (F2 := aSz s.heap.size) (fun _ h => mF_in h) ⟨hx, hb, hml, hown, hts⟩ hT hCm lk_L_88 wMD_mv ⟨hK, hg, hM1, lam_D _⟩ (wM_rc hK hM1) rfl hl.1 rfl (Nat.le_of_ble_eq_true rfl) d_L_law_397 ⟨rfl, rfl, Nat.le_of_ble_eq_true rfl, Nat.le_of_ble_eq_true rfl⟩ hf hS1.2.2 (fun v9 H2 locs2 hF9 hL9 => ?_)
  obtain ⟨rfl, fo1, sz1, hs1, mi1, hi1, tx1, hM2, hO2⟩ := hF9
  have hX2 := tx_mO hX1 hO2
  have hA2 := lP_mO hA1 hO2
  have hS2 := mS_st hS1 hO2 hL9
  refine lv_aload_n hx hb d_L_law_400 rfl (lv_at hl 4 rfl) ?_
  refine tq_V ⟨hx, hb, hml, hown, hts⟩ hT (c_M_thrown l D ci (lam s.heap.size) rs.2.2 rs.1 fo1 sz1 hs1 mi1 hi1 tx1) lk_L_75 wM_mv ⟨hK, hg1, hM2⟩ (wM_rc hK hM2) rfl hl.1 rfl (Nat.le_of_ble_eq_true rfl) d_L_law_401 ⟨rfl, rfl, Nat.le_of_ble_eq_true rfl, Nat.le_of_ble_eq_true rfl⟩ hf ?_
  refine lv_iload hx hb d_L_law_404 (lv_at hl 0 rfl) ?_
  refine lv_icmp_eq hx hb d_L_law_406 (tgt := 411) (by decide) (fun _ => ?_) (fun hno => absurd rfl hno)
  refine lv_goto hx hb d_L_law_411 (tgt := 1237) (by decide) ?_
  have hl := lv_sub hl (l' := [(4, .int (nI (7 * n))), (0, .ref b), (1, .ref (lad s.heap.size 0)), (2, .ref (lam s.heap.size 0)), (3, .ref (lao s.heap.size))]) [1, 2, 3, 4, 5] rfl
  exact kk H2 locs2 ls ⟨rs.2.2, tc1, td1, tn1, rs.1, fo1, sz1, hs1, mi1, hi1, tx1, o1, hg1, hX2, hCI1, hM2, hA2, hS2⟩ hl
set_option maxHeartbeats 4000000 in
set_option maxRecDepth 100000 in
theorem lq_days (hx : p.tables.exec = Jvm.exec) (hb : c.code = b_L_law) (hml : c.maxLocals = 8) (hown : s.vm.findClass RL = some m.cls) (hts : ∀ w ∈ lw_tbl, w.before args s = true) (htr : l.stackTraces = false) (hXs : va_X b L xs s s.heap) (hbl : b < s.heap.size) (hL2 : L < 2147483648) (hK : tk D ci s) (hKB : tkB D2 cB s) (hKC0 : kc s.heap.size s s.heap) (hE0 : wE s s.heap) (hI : lJ D ci s H locs) (hn : 7 * n + 7 ≤ L) (hf : cells + 22 ≤ 601024 ∧ slots + 672 ≤ 7293034)
    (kk : ∀ (H1 : Heap) (locs1 : List Loc) (ls1 : Array Slot), lJ D ci s H1 locs1 → lv_has ls1 8 [(4, .int (nI (7 * n))), (0, .ref b), (1, .ref (lad s.heap.size 0)), (2, .ref (lam s.heap.size 0)), (3, .ref (lao s.heap.size))] → W p l e room_1 s m args below meth c H1 locs1 (cells + 22) (slots + 672) Q (F0 m 1237 ls1 [])) {ls : Array Slot} (hl : lv_has ls 8 [(4, .int (nI (7 * n))), (0, .ref b), (1, .ref (lad s.heap.size 0)), (2, .ref (lam s.heap.size 0)), (3, .ref (lao s.heap.size))]) : W p l e room_1 s m args below meth c H locs cells slots Q (F0 m 414 ls []) := by
  have hT : ∀ w ∈ TT, w ∈ lw_tbl := fun w h => (List.mem_filter.mp h).1
  obtain ⟨g, tc, td, tn, th, fo, sz, hs, mi, hi, tx9, o, hg, hX, hCI, hM, hA, hS⟩ := hI
  obtain ⟨rs, hCx, hCm⟩ := both_days l htr D ci (lad s.heap.size) g tc td tn D2 cB s.heap.size (lao s.heap.size) o (lam s.heap.size) th fo sz hs mi hi tx9 (xs (7 * n + 1)) (xs (7 * n + 2))
  refine lv_aload_n hx hb d_L_law_414 rfl (lv_at hl 2 rfl) ?_
  refine lv_aload_n hx hb d_L_law_415 rfl (lv_at hl 1 rfl) ?_
  refine lv_iload hx hb d_L_law_416 (lv_at hl 0 rfl) ?_
  refine lv_iconst hx hb d_L_law_418 (v := (nI 1)) rfl ?_
  refine lv_iadd hx hb d_L_law_419 ?_
  refine tq_ti (show _ = (nI (7 * n + 1)) from nI_add _ _) ?_
  refine tq_sld hx hb hXs hbl hS (show 7 * n + 1 < L by omega) hL2 d_L_law_420 ?_
  refine lv_aload_n hx hb d_L_law_421 rfl (lv_at hl 1 rfl) ?_
  refine lv_iload hx hb d_L_law_422 (lv_at hl 0 rfl) ?_
  refine lv_iconst hx hb d_L_law_424 (v := (nI 2)) rfl ?_
  refine lv_iadd hx hb d_L_law_425 ?_
  refine tq_ti (show _ = (nI (7 * n + 2)) from nI_add _ _) ?_
  refine tq_sld hx hb hXs hbl hS (show 7 * n + 2 < L by omega) hL2 d_L_law_426 ?_
  refine lv_aload_n hx hb d_L_law_427 rfl (lv_at hl 4 rfl) ?_
  refine tl_L (F2 := aSz s.heap.size) ⟨hx, hb, hml, hown, hts⟩ hT hCx lh_L_89 wl_mv ⟨⟨⟨⟨hK, hg, hX, lad_D _, hCI⟩, hKB, kc_S hKC0 hS, fun j hj => (lad_in hj).1⟩, wE_S hE0 hS⟩, hA, fun k hk => lad_ne hk⟩ (fun _ h => lF_in h) rfl hl.1 rfl (Nat.le_of_ble_eq_true rfl) d_L_law_428 ⟨rfl, rfl, Nat.le_of_ble_eq_true rfl, Nat.le_of_ble_eq_true rfl⟩ hf hS.2.2 (fun v9 H1 locs1 hF9 hL9 => ?_)
  obtain ⟨rfl, tc1, td1, tn1, o1, hX1, hg1, hCI1, hA1, hr1, hO1⟩ := hF9
  have hS1 := lS_st hS hO1 hL9
  have hM1 := tm_lO hM hO1
  refine lv_istore hx hb d_L_law_431 hl (by decide) (lv' := [(5, .int rs.1), (4, .int (nI (7 * n))), (0, .ref b), (1, .ref (lad s.heap.size 0)), (2, .ref (lam s.heap.size 0)), (3, .ref (lao s.heap.size))]) rfl (fun ls hl => ?_)
  refine lv_aload_n hx hb d_L_law_433 rfl (lv_at hl 4 rfl) ?_
  refine lv_aload_n hx hb d_L_law_434 rfl (lv_at hl 2 rfl) ?_
  refine lv_iload hx hb d_L_law_435 (lv_at hl 1 rfl) ?_
  refine lv_iconst hx hb d_L_law_437 (v := (nI 1)) rfl ?_
  refine lv_iadd hx hb d_L_law_438 ?_
  refine tq_ti (show _ = (nI (7 * n + 1)) from nI_add _ _) ?_
  refine tq_sld hx hb hXs hbl hS1 (show 7 * n + 1 < L by omega) hL2 d_L_law_439 ?_
  refine lv_aload_n hx hb d_L_law_440 rfl (lv_at hl 2 rfl) ?_
  refine lv_iload hx hb d_L_law_441 (lv_at hl 1 rfl) ?_
  refine lv_iconst hx hb d_L_law_443 (v := (nI 2)) rfl ?_
  refine lv_iadd hx hb d_L_law_444 ?_
  refine tq_ti (show _ = (nI (7 * n + 2)) from nI_add _ _) ?_
  refine tq_sld hx hb hXs hbl hS1 (show 7 * n + 2 < L by omega) hL2 d_L_law_445 ?_
  refine tl_V (F2 := aSz s.heap.size) (fun _ h => mF_in h) ⟨hx, hb, hml, hown, hts⟩ hT hCm lk_L_92 wMD_mv ⟨hK, hg, hM1, lam_D _⟩ (wM_rc hK hM1) rfl hl.1 rfl (Nat.le_of_ble_eq_true rfl) d_L_law_446 ⟨rfl, rfl, Nat.le_of_ble_eq_true rfl, Nat.le_of_ble_eq_true rfl⟩ hf hS1.2.2 (fun v9 H2 locs2 hF9 hL9 => ?_)
  obtain ⟨b9, rfl, hb9, fo1, sz1, hs1, mi1, hi1, tx1, hM2, hO2⟩ := hF9
  have hX2 := tx_mO hX1 hO2
  have hA2 := lP_mO hA1 hO2
  have hS2 := mS_st hS1 hO2 hL9
  refine lv_istore hx hb d_L_law_449 hl (by decide) (lv' := [(6, .int b9), (5, .int rs.1), (4, .int (nI (7 * n))), (0, .ref b), (1, .ref (lad s.heap.size 0)), (2, .ref (lam s.heap.size 0)), (3, .ref (lao s.heap.size))]) rfl (fun ls hl => ?_)
  refine lv_aload_n hx hb d_L_law_451 rfl (lv_at hl 5 rfl) ?_
  refine tq_V ⟨hx, hb, hml, hown, hts⟩ hT (c_M_thrown l D ci (lam s.heap.size) rs.2.2 rs.1 fo1 sz1 hs1 mi1 hi1 tx1) lk_L_75 wM_mv ⟨hK, hg1, hM2⟩ (wM_rc hK hM2) rfl hl.1 rfl (Nat.le_of_ble_eq_true rfl) d_L_law_452 ⟨rfl, rfl, Nat.le_of_ble_eq_true rfl, Nat.le_of_ble_eq_true rfl⟩ hf ?_
  refine lv_iload hx hb d_L_law_455 (lv_at hl 1 rfl) ?_
  refine lv_icmp_eq hx hb d_L_law_457 (tgt := 462) (by decide) (fun _ => ?_) (fun hno => absurd rfl hno)
  refine lv_iload hx hb d_L_law_462 (lv_at hl 1 rfl) ?_
  refine lv_if_ne hx hb d_L_law_464 (tgt := 479) (by decide) (fun h0 => ?_) (fun h0 => ?_)
  · refine lv_goto hx hb d_L_law_479 (tgt := 1237) (by decide) ?_
    have hl := lv_sub hl (l' := [(4, .int (nI (7 * n))), (0, .ref b), (1, .ref (lad s.heap.size 0)), (2, .ref (lam s.heap.size 0)), (3, .ref (lao s.heap.size))]) [2, 3, 4, 5, 6] rfl
    exact kk H2 locs2 ls ⟨rs.2.2, tc1, td1, tn1, rs.1, fo1, sz1, hs1, mi1, hi1, tx1, o1, hg1, hX2, hCI1, hM2, hA2, hS2⟩ hl
  · refine lv_aload_n hx hb d_L_law_467 rfl (lv_at hl 6 rfl) ?_
    refine lv_iconst hx hb d_L_law_468 (v := (nI 0)) rfl ?_
    refine tq_lald hx hb hK hA2 0 1 rfl rfl (j := 0) (by decide) (by decide) d_L_law_469 ?_
    refine lv_iload hx hb d_L_law_470 (lv_at hl 0 rfl) ?_
    refine lv_i2l hx hb d_L_law_472 (v := b9.toInt64) rfl ?_
    refine W.lcmp hx hb d_L_law_473 ?_
    refine lv_if_eq hx hb d_L_law_474 (tgt := 479) (by decide) (fun _ => ?_) (fun hno => absurd ((lg_cmp_eq _ _).mpr (by rw [hr1 h0, hb9 h0])) hno)
    refine lv_goto hx hb d_L_law_479 (tgt := 1237) (by decide) ?_
    have hl := lv_sub hl (l' := [(4, .int (nI (7 * n))), (0, .ref b), (1, .ref (lad s.heap.size 0)), (2, .ref (lam s.heap.size 0)), (3, .ref (lao s.heap.size))]) [2, 3, 4, 5, 6] rfl
    exact kk H2 locs2 ls ⟨rs.2.2, tc1, td1, tn1, rs.1, fo1, sz1, hs1, mi1, hi1, tx1, o1, hg1, hX2, hCI1, hM2, hA2, hS2⟩ hl
set_option maxHeartbeats 4000000 in
set_option maxRecDepth 100000 in
theorem lq_first (hx : p.tables.exec = Jvm.exec) (hb : c.code = b_L_law) (hml : c.maxLocals = 8) (hown : s.vm.findClass RL = some m.cls) (hts : ∀ w ∈ lw_tbl, w.before args s = true) (htr : l.stackTraces = false) (hXs : va_X b L xs s s.heap) (hbl : b < s.heap.size) (hL2 : L < 2147483648) (hK : tk D ci s) (hKB : tkB D2 cB s) (hKC0 : kc s.heap.size s s.heap) (hE0 : wE s s.heap) (hI : lJ D ci s H locs) (hn : 7 * n + 7 ≤ L) (hf : cells + 22 ≤ 601024 ∧ slots + 672 ≤ 7293034)
    (kk : ∀ (H1 : Heap) (locs1 : List Loc) (ls1 : Array Slot), lJ D ci s H1 locs1 → lv_has ls1 8 [(4, .int (nI (7 * n))), (0, .ref b), (1, .ref (lad s.heap.size 0)), (2, .ref (lam s.heap.size 0)), (3, .ref (lao s.heap.size))] → W p l e room_1 s m args below meth c H1 locs1 (cells + 22) (slots + 672) Q (F0 m 1237 ls1 [])) {ls : Array Slot} (hl : lv_has ls 8 [(4, .int (nI (7 * n))), (0, .ref b), (1, .ref (lad s.heap.size 0)), (2, .ref (lam s.heap.size 0)), (3, .ref (lao s.heap.size))]) : W p l e room_1 s m args below meth c H locs cells slots Q (F0 m 482 ls []) := by
  have hT : ∀ w ∈ TT, w ∈ lw_tbl := fun w h => (List.mem_filter.mp h).1
  obtain ⟨g, tc, td, tn, th, fo, sz, hs, mi, hi, tx9, o, hg, hX, hCI, hM, hA, hS⟩ := hI
  obtain ⟨rs, hCx, hCm⟩ := both_first l htr D ci (lad s.heap.size) g tc td tn D2 cB s.heap.size (lao s.heap.size) o (lam s.heap.size) th fo sz hs mi hi tx9 (xs (7 * n + 1))
  refine lv_aload_n hx hb d_L_law_482 rfl (lv_at hl 2 rfl) ?_
  refine lv_aload_n hx hb d_L_law_483 rfl (lv_at hl 1 rfl) ?_
  refine lv_iload hx hb d_L_law_484 (lv_at hl 0 rfl) ?_
  refine lv_iconst hx hb d_L_law_486 (v := (nI 1)) rfl ?_
  refine lv_iadd hx hb d_L_law_487 ?_
  refine tq_ti (show _ = (nI (7 * n + 1)) from nI_add _ _) ?_
  refine tq_sld hx hb hXs hbl hS (show 7 * n + 1 < L by omega) hL2 d_L_law_488 ?_
  refine lv_aload_n hx hb d_L_law_489 rfl (lv_at hl 4 rfl) ?_
  refine tl_L (F2 := aSz s.heap.size) ⟨hx, hb, hml, hown, hts⟩ hT hCx lh_L_93 wl_mv ⟨⟨⟨⟨hK, hg, hX, lad_D _, hCI⟩, hKB, kc_S hKC0 hS, fun j hj => (lad_in hj).1⟩, wE_S hE0 hS⟩, hA, fun k hk => lad_ne hk⟩ (fun _ h => lF_in h) rfl hl.1 rfl (Nat.le_of_ble_eq_true rfl) d_L_law_490 ⟨rfl, rfl, Nat.le_of_ble_eq_true rfl, Nat.le_of_ble_eq_true rfl⟩ hf hS.2.2 (fun v9 H1 locs1 hF9 hL9 => ?_)
  obtain ⟨rfl, tc1, td1, tn1, o1, hX1, hg1, hCI1, hA1, hr1, hO1⟩ := hF9
  have hS1 := lS_st hS hO1 hL9
  have hM1 := tm_lO hM hO1
  refine lv_istore hx hb d_L_law_493 hl (by decide) (lv' := [(5, .int rs.1), (4, .int (nI (7 * n))), (0, .ref b), (1, .ref (lad s.heap.size 0)), (2, .ref (lam s.heap.size 0)), (3, .ref (lao s.heap.size))]) rfl (fun ls hl => ?_)
  refine lv_aload_n hx hb d_L_law_495 rfl (lv_at hl 4 rfl) ?_
  refine lv_aload_n hx hb d_L_law_496 rfl (lv_at hl 2 rfl) ?_
  refine lv_iload hx hb d_L_law_497 (lv_at hl 1 rfl) ?_
  refine lv_iconst hx hb d_L_law_499 (v := (nI 1)) rfl ?_
  refine lv_iadd hx hb d_L_law_500 ?_
  refine tq_ti (show _ = (nI (7 * n + 1)) from nI_add _ _) ?_
  refine tq_sld hx hb hXs hbl hS1 (show 7 * n + 1 < L by omega) hL2 d_L_law_501 ?_
  refine tl_V (F2 := aSz s.heap.size) (fun _ h => mF_in h) ⟨hx, hb, hml, hown, hts⟩ hT hCm lk_L_95 wMD_mv ⟨hK, hg, hM1, lam_D _⟩ (wM_rc hK hM1) rfl hl.1 rfl (Nat.le_of_ble_eq_true rfl) d_L_law_502 ⟨rfl, rfl, Nat.le_of_ble_eq_true rfl, Nat.le_of_ble_eq_true rfl⟩ hf hS1.2.2 (fun v9 H2 locs2 hF9 hL9 => ?_)
  obtain ⟨b9, rfl, hb9, fo1, sz1, hs1, mi1, hi1, tx1, hM2, hO2⟩ := hF9
  have hX2 := tx_mO hX1 hO2
  have hA2 := lP_mO hA1 hO2
  have hS2 := mS_st hS1 hO2 hL9
  refine lv_istore hx hb d_L_law_505 hl (by decide) (lv' := [(6, .int b9), (5, .int rs.1), (4, .int (nI (7 * n))), (0, .ref b), (1, .ref (lad s.heap.size 0)), (2, .ref (lam s.heap.size 0)), (3, .ref (lao s.heap.size))]) rfl (fun ls hl => ?_)
  refine lv_aload_n hx hb d_L_law_507 rfl (lv_at hl 5 rfl) ?_
  refine tq_V ⟨hx, hb, hml, hown, hts⟩ hT (c_M_thrown l D ci (lam s.heap.size) rs.2.2 rs.1 fo1 sz1 hs1 mi1 hi1 tx1) lk_L_75 wM_mv ⟨hK, hg1, hM2⟩ (wM_rc hK hM2) rfl hl.1 rfl (Nat.le_of_ble_eq_true rfl) d_L_law_508 ⟨rfl, rfl, Nat.le_of_ble_eq_true rfl, Nat.le_of_ble_eq_true rfl⟩ hf ?_
  refine lv_iload hx hb d_L_law_511 (lv_at hl 1 rfl) ?_
  refine lv_icmp_eq hx hb d_L_law_513 (tgt := 518) (by decide) (fun _ => ?_) (fun hno => absurd rfl hno)
  refine lv_iload hx hb d_L_law_518 (lv_at hl 1 rfl) ?_
  refine lv_if_ne hx hb d_L_law_520 (tgt := 535) (by decide) (fun h0 => ?_) (fun h0 => ?_)
  · refine lv_goto hx hb d_L_law_535 (tgt := 1237) (by decide) ?_
    have hl := lv_sub hl (l' := [(4, .int (nI (7 * n))), (0, .ref b), (1, .ref (lad s.heap.size 0)), (2, .ref (lam s.heap.size 0)), (3, .ref (lao s.heap.size))]) [2, 3, 4, 5, 6] rfl
    exact kk H2 locs2 ls ⟨rs.2.2, tc1, td1, tn1, rs.1, fo1, sz1, hs1, mi1, hi1, tx1, o1, hg1, hX2, hCI1, hM2, hA2, hS2⟩ hl
  · refine lv_aload_n hx hb d_L_law_523 rfl (lv_at hl 6 rfl) ?_
    refine lv_iconst hx hb d_L_law_524 (v := (nI 0)) rfl ?_
    refine tq_lald hx hb hK hA2 0 1 rfl rfl (j := 0) (by decide) (by decide) d_L_law_525 ?_
    refine lv_iload hx hb d_L_law_526 (lv_at hl 0 rfl) ?_
    refine lv_i2l hx hb d_L_law_528 (v := b9.toInt64) rfl ?_
    refine W.lcmp hx hb d_L_law_529 ?_
    refine lv_if_eq hx hb d_L_law_530 (tgt := 535) (by decide) (fun _ => ?_) (fun hno => absurd ((lg_cmp_eq _ _).mpr (by rw [hr1 h0, hb9 h0])) hno)
    refine lv_goto hx hb d_L_law_535 (tgt := 1237) (by decide) ?_
    have hl := lv_sub hl (l' := [(4, .int (nI (7 * n))), (0, .ref b), (1, .ref (lad s.heap.size 0)), (2, .ref (lam s.heap.size 0)), (3, .ref (lao s.heap.size))]) [2, 3, 4, 5, 6] rfl
    exact kk H2 locs2 ls ⟨rs.2.2, tc1, td1, tn1, rs.1, fo1, sz1, hs1, mi1, hi1, tx1, o1, hg1, hX2, hCI1, hM2, hA2, hS2⟩ hl
set_option maxHeartbeats 4000000 in
set_option maxRecDepth 100000 in
theorem lq_year (hx : p.tables.exec = Jvm.exec) (hb : c.code = b_L_law) (hml : c.maxLocals = 8) (hown : s.vm.findClass RL = some m.cls) (hts : ∀ w ∈ lw_tbl, w.before args s = true) (htr : l.stackTraces = false) (hXs : va_X b L xs s s.heap) (hbl : b < s.heap.size) (hL2 : L < 2147483648) (hK : tk D ci s) (hKB : tkB D2 cB s) (hKC0 : kc s.heap.size s s.heap) (hE0 : wE s s.heap) (hI : lJ D ci s H locs) (hn : 7 * n + 7 ≤ L) (hf : cells + 22 ≤ 601024 ∧ slots + 672 ≤ 7293034)
    (kk : ∀ (H1 : Heap) (locs1 : List Loc) (ls1 : Array Slot), lJ D ci s H1 locs1 → lv_has ls1 8 [(4, .int (nI (7 * n))), (0, .ref b), (1, .ref (lad s.heap.size 0)), (2, .ref (lam s.heap.size 0)), (3, .ref (lao s.heap.size))] → W p l e room_1 s m args below meth c H1 locs1 (cells + 22) (slots + 672) Q (F0 m 1237 ls1 [])) {ls : Array Slot} (hl : lv_has ls 8 [(4, .int (nI (7 * n))), (0, .ref b), (1, .ref (lad s.heap.size 0)), (2, .ref (lam s.heap.size 0)), (3, .ref (lao s.heap.size))]) : W p l e room_1 s m args below meth c H locs cells slots Q (F0 m 538 ls []) := by
  have hT : ∀ w ∈ TT, w ∈ lw_tbl := fun w h => (List.mem_filter.mp h).1
  obtain ⟨g, tc, td, tn, th, fo, sz, hs, mi, hi, tx9, o, hg, hX, hCI, hM, hA, hS⟩ := hI
  obtain ⟨rs, hCx, hCm⟩ := both_year l htr D ci (lad s.heap.size) g tc td tn D2 cB s.heap.size (lao s.heap.size) o (lam s.heap.size) th fo sz hs mi hi tx9 (xs (7 * n + 1))
  refine lv_aload_n hx hb d_L_law_538 rfl (lv_at hl 2 rfl) ?_
  refine lv_aload_n hx hb d_L_law_539 rfl (lv_at hl 1 rfl) ?_
  refine lv_iload hx hb d_L_law_540 (lv_at hl 0 rfl) ?_
  refine lv_iconst hx hb d_L_law_542 (v := (nI 1)) rfl ?_
  refine lv_iadd hx hb d_L_law_543 ?_
  refine tq_ti (show _ = (nI (7 * n + 1)) from nI_add _ _) ?_
  refine tq_sld hx hb hXs hbl hS (show 7 * n + 1 < L by omega) hL2 d_L_law_544 ?_
  refine lv_aload_n hx hb d_L_law_545 rfl (lv_at hl 4 rfl) ?_
  refine tl_L (F2 := aSz s.heap.size) ⟨hx, hb, hml, hown, hts⟩ hT hCx lh_L_96 wl_mv ⟨⟨⟨⟨hK, hg, hX, lad_D _, hCI⟩, hKB, kc_S hKC0 hS, fun j hj => (lad_in hj).1⟩, wE_S hE0 hS⟩, hA, fun k hk => lad_ne hk⟩ (fun _ h => lF_in h) rfl hl.1 rfl (Nat.le_of_ble_eq_true rfl) d_L_law_546 ⟨rfl, rfl, Nat.le_of_ble_eq_true rfl, Nat.le_of_ble_eq_true rfl⟩ hf hS.2.2 (fun v9 H1 locs1 hF9 hL9 => ?_)
  obtain ⟨rfl, tc1, td1, tn1, o1, hX1, hg1, hCI1, hA1, hr1, hO1⟩ := hF9
  have hS1 := lS_st hS hO1 hL9
  have hM1 := tm_lO hM hO1
  refine lv_istore hx hb d_L_law_549 hl (by decide) (lv' := [(5, .int rs.1), (4, .int (nI (7 * n))), (0, .ref b), (1, .ref (lad s.heap.size 0)), (2, .ref (lam s.heap.size 0)), (3, .ref (lao s.heap.size))]) rfl (fun ls hl => ?_)
  refine lv_aload_n hx hb d_L_law_551 rfl (lv_at hl 4 rfl) ?_
  refine lv_aload_n hx hb d_L_law_552 rfl (lv_at hl 2 rfl) ?_
  refine lv_iload hx hb d_L_law_553 (lv_at hl 1 rfl) ?_
  refine lv_iconst hx hb d_L_law_555 (v := (nI 1)) rfl ?_
  refine lv_iadd hx hb d_L_law_556 ?_
  refine tq_ti (show _ = (nI (7 * n + 1)) from nI_add _ _) ?_
  refine tq_sld hx hb hXs hbl hS1 (show 7 * n + 1 < L by omega) hL2 d_L_law_557 ?_
  refine tl_V (F2 := aSz s.heap.size) (fun _ h => mF_in h) ⟨hx, hb, hml, hown, hts⟩ hT hCm lk_L_98 wMD_mv ⟨hK, hg, hM1, lam_D _⟩ (wM_rc hK hM1) rfl hl.1 rfl (Nat.le_of_ble_eq_true rfl) d_L_law_558 ⟨rfl, rfl, Nat.le_of_ble_eq_true rfl, Nat.le_of_ble_eq_true rfl⟩ hf hS1.2.2 (fun v9 H2 locs2 hF9 hL9 => ?_)
  obtain ⟨b9, rfl, hb9, fo1, sz1, hs1, mi1, hi1, tx1, hM2, hO2⟩ := hF9
  have hX2 := tx_mO hX1 hO2
  have hA2 := lP_mO hA1 hO2
  have hS2 := mS_st hS1 hO2 hL9
  refine lv_istore hx hb d_L_law_561 hl (by decide) (lv' := [(6, .int b9), (5, .int rs.1), (4, .int (nI (7 * n))), (0, .ref b), (1, .ref (lad s.heap.size 0)), (2, .ref (lam s.heap.size 0)), (3, .ref (lao s.heap.size))]) rfl (fun ls hl => ?_)
  refine lv_aload_n hx hb d_L_law_563 rfl (lv_at hl 5 rfl) ?_
  refine tq_V ⟨hx, hb, hml, hown, hts⟩ hT (c_M_thrown l D ci (lam s.heap.size) rs.2.2 rs.1 fo1 sz1 hs1 mi1 hi1 tx1) lk_L_75 wM_mv ⟨hK, hg1, hM2⟩ (wM_rc hK hM2) rfl hl.1 rfl (Nat.le_of_ble_eq_true rfl) d_L_law_564 ⟨rfl, rfl, Nat.le_of_ble_eq_true rfl, Nat.le_of_ble_eq_true rfl⟩ hf ?_
  refine lv_iload hx hb d_L_law_567 (lv_at hl 1 rfl) ?_
  refine lv_icmp_eq hx hb d_L_law_569 (tgt := 574) (by decide) (fun _ => ?_) (fun hno => absurd rfl hno)
  refine lv_iload hx hb d_L_law_574 (lv_at hl 1 rfl) ?_
  refine lv_if_ne hx hb d_L_law_576 (tgt := 591) (by decide) (fun h0 => ?_) (fun h0 => ?_)
  · refine lv_goto hx hb d_L_law_591 (tgt := 1237) (by decide) ?_
    have hl := lv_sub hl (l' := [(4, .int (nI (7 * n))), (0, .ref b), (1, .ref (lad s.heap.size 0)), (2, .ref (lam s.heap.size 0)), (3, .ref (lao s.heap.size))]) [2, 3, 4, 5, 6] rfl
    exact kk H2 locs2 ls ⟨rs.2.2, tc1, td1, tn1, rs.1, fo1, sz1, hs1, mi1, hi1, tx1, o1, hg1, hX2, hCI1, hM2, hA2, hS2⟩ hl
  · refine lv_aload_n hx hb d_L_law_579 rfl (lv_at hl 6 rfl) ?_
    refine lv_iconst hx hb d_L_law_580 (v := (nI 0)) rfl ?_
    refine tq_lald hx hb hK hA2 0 1 rfl rfl (j := 0) (by decide) (by decide) d_L_law_581 ?_
    refine lv_iload hx hb d_L_law_582 (lv_at hl 0 rfl) ?_
    refine lv_i2l hx hb d_L_law_584 (v := b9.toInt64) rfl ?_
    refine W.lcmp hx hb d_L_law_585 ?_
    refine lv_if_eq hx hb d_L_law_586 (tgt := 591) (by decide) (fun _ => ?_) (fun hno => absurd ((lg_cmp_eq _ _).mpr (by rw [hr1 h0, hb9 h0])) hno)
    refine lv_goto hx hb d_L_law_591 (tgt := 1237) (by decide) ?_
    have hl := lv_sub hl (l' := [(4, .int (nI (7 * n))), (0, .ref b), (1, .ref (lad s.heap.size 0)), (2, .ref (lam s.heap.size 0)), (3, .ref (lao s.heap.size))]) [2, 3, 4, 5, 6] rfl
    exact kk H2 locs2 ls ⟨rs.2.2, tc1, td1, tn1, rs.1, fo1, sz1, hs1, mi1, hi1, tx1, o1, hg1, hX2, hCI1, hM2, hA2, hS2⟩ hl
set_option maxHeartbeats 4000000 in
set_option maxRecDepth 100000 in
theorem lq_position (hx : p.tables.exec = Jvm.exec) (hb : c.code = b_L_law) (hml : c.maxLocals = 8) (hown : s.vm.findClass RL = some m.cls) (hts : ∀ w ∈ lw_tbl, w.before args s = true) (htr : l.stackTraces = false) (hXs : va_X b L xs s s.heap) (hbl : b < s.heap.size) (hL2 : L < 2147483648) (hK : tk D ci s) (hKB : tkB D2 cB s) (hKC0 : kc s.heap.size s s.heap) (hE0 : wE s s.heap) (hI : lJ D ci s H locs) (hn : 7 * n + 7 ≤ L) (hf : cells + 22 ≤ 601024 ∧ slots + 672 ≤ 7293034)
    (kk : ∀ (H1 : Heap) (locs1 : List Loc) (ls1 : Array Slot), lJ D ci s H1 locs1 → lv_has ls1 8 [(4, .int (nI (7 * n))), (0, .ref b), (1, .ref (lad s.heap.size 0)), (2, .ref (lam s.heap.size 0)), (3, .ref (lao s.heap.size))] → W p l e room_1 s m args below meth c H1 locs1 (cells + 22) (slots + 672) Q (F0 m 1237 ls1 [])) {ls : Array Slot} (hl : lv_has ls 8 [(4, .int (nI (7 * n))), (0, .ref b), (1, .ref (lad s.heap.size 0)), (2, .ref (lam s.heap.size 0)), (3, .ref (lao s.heap.size))]) : W p l e room_1 s m args below meth c H locs cells slots Q (F0 m 594 ls []) := by
  have hT : ∀ w ∈ TT, w ∈ lw_tbl := fun w h => (List.mem_filter.mp h).1
  obtain ⟨g, tc, td, tn, th, fo, sz, hs, mi, hi, tx9, o, hg, hX, hCI, hM, hA, hS⟩ := hI
  obtain ⟨rs, hCx, hCm⟩ := both_position l htr D ci (lad s.heap.size) g tc td tn D2 cB s.heap.size (lao s.heap.size) o (lam s.heap.size) th fo sz hs mi hi tx9 (xs (7 * n + 1)) (xs (7 * n + 2))
  refine lv_aload_n hx hb d_L_law_594 rfl (lv_at hl 2 rfl) ?_
  refine lv_aload_n hx hb d_L_law_595 rfl (lv_at hl 1 rfl) ?_
  refine lv_iload hx hb d_L_law_596 (lv_at hl 0 rfl) ?_
  refine lv_iconst hx hb d_L_law_598 (v := (nI 1)) rfl ?_
  refine lv_iadd hx hb d_L_law_599 ?_
  refine tq_ti (show _ = (nI (7 * n + 1)) from nI_add _ _) ?_
  refine tq_sld hx hb hXs hbl hS (show 7 * n + 1 < L by omega) hL2 d_L_law_600 ?_
  refine lv_aload_n hx hb d_L_law_601 rfl (lv_at hl 1 rfl) ?_
  refine lv_iload hx hb d_L_law_602 (lv_at hl 0 rfl) ?_
  refine lv_iconst hx hb d_L_law_604 (v := (nI 2)) rfl ?_
  refine lv_iadd hx hb d_L_law_605 ?_
  refine tq_ti (show _ = (nI (7 * n + 2)) from nI_add _ _) ?_
  refine tq_sld hx hb hXs hbl hS (show 7 * n + 2 < L by omega) hL2 d_L_law_606 ?_
  refine lv_aload_n hx hb d_L_law_607 rfl (lv_at hl 4 rfl) ?_
  refine tl_L (F2 := aSz s.heap.size) ⟨hx, hb, hml, hown, hts⟩ hT hCx lh_L_99 wl_mv ⟨⟨⟨⟨hK, hg, hX, lad_D _, hCI⟩, hKB, kc_S hKC0 hS, fun j hj => (lad_in hj).1⟩, wE_S hE0 hS⟩, hA, fun k hk => lad_ne hk⟩ (fun _ h => lF_in h) rfl hl.1 rfl (Nat.le_of_ble_eq_true rfl) d_L_law_608 ⟨rfl, rfl, Nat.le_of_ble_eq_true rfl, Nat.le_of_ble_eq_true rfl⟩ hf hS.2.2 (fun v9 H1 locs1 hF9 hL9 => ?_)
  obtain ⟨rfl, tc1, td1, tn1, o1, hX1, hg1, hCI1, hA1, hr1, hO1⟩ := hF9
  have hS1 := lS_st hS hO1 hL9
  have hM1 := tm_lO hM hO1
  refine lv_istore hx hb d_L_law_611 hl (by decide) (lv' := [(5, .int rs.1), (4, .int (nI (7 * n))), (0, .ref b), (1, .ref (lad s.heap.size 0)), (2, .ref (lam s.heap.size 0)), (3, .ref (lao s.heap.size))]) rfl (fun ls hl => ?_)
  refine lv_aload_n hx hb d_L_law_613 rfl (lv_at hl 4 rfl) ?_
  refine lv_aload_n hx hb d_L_law_614 rfl (lv_at hl 2 rfl) ?_
  refine lv_iload hx hb d_L_law_615 (lv_at hl 1 rfl) ?_
  refine lv_iconst hx hb d_L_law_617 (v := (nI 1)) rfl ?_
  refine lv_iadd hx hb d_L_law_618 ?_
  refine tq_ti (show _ = (nI (7 * n + 1)) from nI_add _ _) ?_
  refine tq_sld hx hb hXs hbl hS1 (show 7 * n + 1 < L by omega) hL2 d_L_law_619 ?_
  refine lv_aload_n hx hb d_L_law_620 rfl (lv_at hl 2 rfl) ?_
  refine lv_iload hx hb d_L_law_621 (lv_at hl 1 rfl) ?_
  refine lv_iconst hx hb d_L_law_623 (v := (nI 2)) rfl ?_
  refine lv_iadd hx hb d_L_law_624 ?_
  refine tq_ti (show _ = (nI (7 * n + 2)) from nI_add _ _) ?_
  refine tq_sld hx hb hXs hbl hS1 (show 7 * n + 2 < L by omega) hL2 d_L_law_625 ?_
  refine tl_V (F2 := aSz s.heap.size) (fun _ h => mF_in h) ⟨hx, hb, hml, hown, hts⟩ hT hCm lk_L_101 wMD_mv ⟨hK, hg, hM1, lam_D _⟩ (wM_rc hK hM1) rfl hl.1 rfl (Nat.le_of_ble_eq_true rfl) d_L_law_626 ⟨rfl, rfl, Nat.le_of_ble_eq_true rfl, Nat.le_of_ble_eq_true rfl⟩ hf hS1.2.2 (fun v9 H2 locs2 hF9 hL9 => ?_)
  obtain ⟨b9, rfl, hb9, fo1, sz1, hs1, mi1, hi1, tx1, hM2, hO2⟩ := hF9
  have hX2 := tx_mO hX1 hO2
  have hA2 := lP_mO hA1 hO2
  have hS2 := mS_st hS1 hO2 hL9
  refine lv_lstore hx hb d_L_law_629 hl (by decide) (lv' := [(6, .long b9), (5, .int rs.1), (4, .int (nI (7 * n))), (0, .ref b), (1, .ref (lad s.heap.size 0)), (2, .ref (lam s.heap.size 0)), (3, .ref (lao s.heap.size))]) rfl (fun ls hl => ?_)
  refine lv_aload_n hx hb d_L_law_631 rfl (lv_at hl 5 rfl) ?_
  refine tq_V ⟨hx, hb, hml, hown, hts⟩ hT (c_M_thrown l D ci (lam s.heap.size) rs.2.2 rs.1 fo1 sz1 hs1 mi1 hi1 tx1) lk_L_75 wM_mv ⟨hK, hg1, hM2⟩ (wM_rc hK hM2) rfl hl.1 rfl (Nat.le_of_ble_eq_true rfl) d_L_law_632 ⟨rfl, rfl, Nat.le_of_ble_eq_true rfl, Nat.le_of_ble_eq_true rfl⟩ hf ?_
  refine lv_iload hx hb d_L_law_635 (lv_at hl 1 rfl) ?_
  refine lv_icmp_eq hx hb d_L_law_637 (tgt := 642) (by decide) (fun _ => ?_) (fun hno => absurd rfl hno)
  refine lv_iload hx hb d_L_law_642 (lv_at hl 1 rfl) ?_
  refine lv_if_ne hx hb d_L_law_644 (tgt := 658) (by decide) (fun h0 => ?_) (fun h0 => ?_)
  · refine lv_goto hx hb d_L_law_658 (tgt := 1237) (by decide) ?_
    have hl := lv_sub hl (l' := [(4, .int (nI (7 * n))), (0, .ref b), (1, .ref (lad s.heap.size 0)), (2, .ref (lam s.heap.size 0)), (3, .ref (lao s.heap.size))]) [2, 3, 4, 5, 6] rfl
    exact kk H2 locs2 ls ⟨rs.2.2, tc1, td1, tn1, rs.1, fo1, sz1, hs1, mi1, hi1, tx1, o1, hg1, hX2, hCI1, hM2, hA2, hS2⟩ hl
  · refine lv_aload_n hx hb d_L_law_647 rfl (lv_at hl 6 rfl) ?_
    refine lv_iconst hx hb d_L_law_648 (v := (nI 0)) rfl ?_
    refine tq_lald hx hb hK hA2 0 1 rfl rfl (j := 0) (by decide) (by decide) d_L_law_649 ?_
    refine lv_lload hx hb d_L_law_650 (lv_at hl 0 rfl) ?_
    refine W.lcmp hx hb d_L_law_652 ?_
    refine lv_if_eq hx hb d_L_law_653 (tgt := 658) (by decide) (fun _ => ?_) (fun hno => absurd ((lg_cmp_eq _ _).mpr (by rw [hr1 h0, hb9 h0])) hno)
    refine lv_goto hx hb d_L_law_658 (tgt := 1237) (by decide) ?_
    have hl := lv_sub hl (l' := [(4, .int (nI (7 * n))), (0, .ref b), (1, .ref (lad s.heap.size 0)), (2, .ref (lam s.heap.size 0)), (3, .ref (lao s.heap.size))]) [2, 3, 4, 5, 6] rfl
    exact kk H2 locs2 ls ⟨rs.2.2, tc1, td1, tn1, rs.1, fo1, sz1, hs1, mi1, hi1, tx1, o1, hg1, hX2, hCI1, hM2, hA2, hS2⟩ hl
set_option maxHeartbeats 4000000 in
set_option maxRecDepth 100000 in
theorem lq_cosine (hx : p.tables.exec = Jvm.exec) (hb : c.code = b_L_law) (hml : c.maxLocals = 8) (hown : s.vm.findClass RL = some m.cls) (hts : ∀ w ∈ lw_tbl, w.before args s = true) (htr : l.stackTraces = false) (hXs : va_X b L xs s s.heap) (hbl : b < s.heap.size) (hL2 : L < 2147483648) (hK : tk D ci s) (hKB : tkB D2 cB s) (hKC0 : kc s.heap.size s s.heap) (hE0 : wE s s.heap) (hI : lJ D ci s H locs) (hn : 7 * n + 7 ≤ L) (hf : cells + 22 ≤ 601024 ∧ slots + 672 ≤ 7293034)
    (kk : ∀ (H1 : Heap) (locs1 : List Loc) (ls1 : Array Slot), lJ D ci s H1 locs1 → lv_has ls1 8 [(4, .int (nI (7 * n))), (0, .ref b), (1, .ref (lad s.heap.size 0)), (2, .ref (lam s.heap.size 0)), (3, .ref (lao s.heap.size))] → W p l e room_1 s m args below meth c H1 locs1 (cells + 22) (slots + 672) Q (F0 m 1237 ls1 [])) {ls : Array Slot} (hl : lv_has ls 8 [(4, .int (nI (7 * n))), (0, .ref b), (1, .ref (lad s.heap.size 0)), (2, .ref (lam s.heap.size 0)), (3, .ref (lao s.heap.size))]) : W p l e room_1 s m args below meth c H locs cells slots Q (F0 m 661 ls []) := by
  have hT : ∀ w ∈ TT, w ∈ lw_tbl := fun w h => (List.mem_filter.mp h).1
  obtain ⟨g, tc, td, tn, th, fo, sz, hs, mi, hi, tx9, o, hg, hX, hCI, hM, hA, hS⟩ := hI
  obtain ⟨rs, hCx, hCm⟩ := both_cosine l htr D ci (lad s.heap.size) g tc td tn D2 cB s.heap.size (lao s.heap.size) o (lam s.heap.size) th fo sz hs mi hi tx9 (((xs (7 * n + 1)).toInt64 <<< ((nI 32).toInt64 &&& 63)) ||| ((xs (7 * n + 2)).toInt64 &&& (lN 4294967295)))
  refine lv_aload_n hx hb d_L_law_661 rfl (lv_at hl 2 rfl) ?_
  refine lv_aload_n hx hb d_L_law_662 rfl (lv_at hl 1 rfl) ?_
  refine lv_iload hx hb d_L_law_663 (lv_at hl 0 rfl) ?_
  refine lv_iconst hx hb d_L_law_665 (v := (nI 1)) rfl ?_
  refine lv_iadd hx hb d_L_law_666 ?_
  refine tq_ti (show _ = (nI (7 * n + 1)) from nI_add _ _) ?_
  refine tq_sld hx hb hXs hbl hS (show 7 * n + 1 < L by omega) hL2 d_L_law_667 ?_
  refine lv_i2l hx hb d_L_law_668 (v := (xs (7 * n + 1)).toInt64) rfl ?_
  refine lv_bipush hx hb d_L_law_669 (v := (nI 32)) rfl ?_
  refine lv_lshl hx hb d_L_law_671 (v := ((xs (7 * n + 1)).toInt64 <<< ((nI 32).toInt64 &&& 63))) rfl ?_
  refine lv_aload_n hx hb d_L_law_672 rfl (lv_at hl 1 rfl) ?_
  refine lv_iload hx hb d_L_law_673 (lv_at hl 0 rfl) ?_
  refine lv_iconst hx hb d_L_law_675 (v := (nI 2)) rfl ?_
  refine lv_iadd hx hb d_L_law_676 ?_
  refine tq_ti (show _ = (nI (7 * n + 2)) from nI_add _ _) ?_
  refine tq_sld hx hb hXs hbl hS (show 7 * n + 2 < L by omega) hL2 d_L_law_677 ?_
  refine lv_i2l hx hb d_L_law_678 (v := (xs (7 * n + 2)).toInt64) rfl ?_
  refine lv_ldc2 hx hb (v := (lN 4294967295)) hown (hts _ (hT _ k_L_79)) d_L_law_679 ?_
  refine lv_land hx hb d_L_law_682 ?_
  refine lv_lor hx hb d_L_law_683 ?_
  refine lv_aload_n hx hb d_L_law_684 rfl (lv_at hl 4 rfl) ?_
  refine tl_L (F2 := aSz s.heap.size) ⟨hx, hb, hml, hown, hts⟩ hT hCx lh_L_102 wl_mv ⟨⟨⟨⟨hK, hg, hX, lad_D _, hCI⟩, hKB, kc_S hKC0 hS, fun j hj => (lad_in hj).1⟩, wE_S hE0 hS⟩, hA, fun k hk => lad_ne hk⟩ (fun _ h => lF_in h) rfl hl.1 rfl (Nat.le_of_ble_eq_true rfl) d_L_law_685 ⟨rfl, rfl, Nat.le_of_ble_eq_true rfl, Nat.le_of_ble_eq_true rfl⟩ hf hS.2.2 (fun v9 H1 locs1 hF9 hL9 => ?_)
  obtain ⟨rfl, tc1, td1, tn1, o1, hX1, hg1, hCI1, hA1, hr1, hO1⟩ := hF9
  have hS1 := lS_st hS hO1 hL9
  have hM1 := tm_lO hM hO1
  refine lv_istore hx hb d_L_law_688 hl (by decide) (lv' := [(5, .int rs.1), (4, .int (nI (7 * n))), (0, .ref b), (1, .ref (lad s.heap.size 0)), (2, .ref (lam s.heap.size 0)), (3, .ref (lao s.heap.size))]) rfl (fun ls hl => ?_)
  refine lv_aload_n hx hb d_L_law_690 rfl (lv_at hl 4 rfl) ?_
  refine lv_aload_n hx hb d_L_law_691 rfl (lv_at hl 2 rfl) ?_
  refine lv_iload hx hb d_L_law_692 (lv_at hl 1 rfl) ?_
  refine lv_iconst hx hb d_L_law_694 (v := (nI 1)) rfl ?_
  refine lv_iadd hx hb d_L_law_695 ?_
  refine tq_ti (show _ = (nI (7 * n + 1)) from nI_add _ _) ?_
  refine tq_sld hx hb hXs hbl hS1 (show 7 * n + 1 < L by omega) hL2 d_L_law_696 ?_
  refine lv_i2l hx hb d_L_law_697 (v := (xs (7 * n + 1)).toInt64) rfl ?_
  refine lv_bipush hx hb d_L_law_698 (v := (nI 32)) rfl ?_
  refine lv_lshl hx hb d_L_law_700 (v := ((xs (7 * n + 1)).toInt64 <<< ((nI 32).toInt64 &&& 63))) rfl ?_
  refine lv_aload_n hx hb d_L_law_701 rfl (lv_at hl 2 rfl) ?_
  refine lv_iload hx hb d_L_law_702 (lv_at hl 1 rfl) ?_
  refine lv_iconst hx hb d_L_law_704 (v := (nI 2)) rfl ?_
  refine lv_iadd hx hb d_L_law_705 ?_
  refine tq_ti (show _ = (nI (7 * n + 2)) from nI_add _ _) ?_
  refine tq_sld hx hb hXs hbl hS1 (show 7 * n + 2 < L by omega) hL2 d_L_law_706 ?_
  refine lv_i2l hx hb d_L_law_707 (v := (xs (7 * n + 2)).toInt64) rfl ?_
  refine lv_ldc2 hx hb (v := (lN 4294967295)) hown (hts _ (hT _ k_L_79)) d_L_law_708 ?_
  refine lv_land hx hb d_L_law_711 ?_
  refine lv_lor hx hb d_L_law_712 ?_
  refine tl_V (F2 := aSz s.heap.size) (fun _ h => mF_in h) ⟨hx, hb, hml, hown, hts⟩ hT hCm lk_L_105 wMD_mv ⟨hK, hg, hM1, lam_D _⟩ (wM_rc hK hM1) rfl hl.1 rfl (Nat.le_of_ble_eq_true rfl) d_L_law_713 ⟨rfl, rfl, Nat.le_of_ble_eq_true rfl, Nat.le_of_ble_eq_true rfl⟩ hf hS1.2.2 (fun v9 H2 locs2 hF9 hL9 => ?_)
  obtain ⟨b9, rfl, hb9, fo1, sz1, hs1, mi1, hi1, tx1, hM2, hO2⟩ := hF9
  have hX2 := tx_mO hX1 hO2
  have hA2 := lP_mO hA1 hO2
  have hS2 := mS_st hS1 hO2 hL9
  refine lv_istore hx hb d_L_law_716 hl (by decide) (lv' := [(6, .int b9), (5, .int rs.1), (4, .int (nI (7 * n))), (0, .ref b), (1, .ref (lad s.heap.size 0)), (2, .ref (lam s.heap.size 0)), (3, .ref (lao s.heap.size))]) rfl (fun ls hl => ?_)
  refine lv_aload_n hx hb d_L_law_718 rfl (lv_at hl 5 rfl) ?_
  refine tq_V ⟨hx, hb, hml, hown, hts⟩ hT (c_M_thrown l D ci (lam s.heap.size) rs.2.2 rs.1 fo1 sz1 hs1 mi1 hi1 tx1) lk_L_75 wM_mv ⟨hK, hg1, hM2⟩ (wM_rc hK hM2) rfl hl.1 rfl (Nat.le_of_ble_eq_true rfl) d_L_law_719 ⟨rfl, rfl, Nat.le_of_ble_eq_true rfl, Nat.le_of_ble_eq_true rfl⟩ hf ?_
  refine lv_iload hx hb d_L_law_722 (lv_at hl 1 rfl) ?_
  refine lv_icmp_eq hx hb d_L_law_724 (tgt := 729) (by decide) (fun _ => ?_) (fun hno => absurd rfl hno)
  refine lv_iload hx hb d_L_law_729 (lv_at hl 1 rfl) ?_
  refine lv_if_ne hx hb d_L_law_731 (tgt := 746) (by decide) (fun h0 => ?_) (fun h0 => ?_)
  · refine lv_goto hx hb d_L_law_746 (tgt := 1237) (by decide) ?_
    have hl := lv_sub hl (l' := [(4, .int (nI (7 * n))), (0, .ref b), (1, .ref (lad s.heap.size 0)), (2, .ref (lam s.heap.size 0)), (3, .ref (lao s.heap.size))]) [2, 3, 4, 5, 6] rfl
    exact kk H2 locs2 ls ⟨rs.2.2, tc1, td1, tn1, rs.1, fo1, sz1, hs1, mi1, hi1, tx1, o1, hg1, hX2, hCI1, hM2, hA2, hS2⟩ hl
  · refine lv_aload_n hx hb d_L_law_734 rfl (lv_at hl 6 rfl) ?_
    refine lv_iconst hx hb d_L_law_735 (v := (nI 0)) rfl ?_
    refine tq_lald hx hb hK hA2 0 1 rfl rfl (j := 0) (by decide) (by decide) d_L_law_736 ?_
    refine lv_iload hx hb d_L_law_737 (lv_at hl 0 rfl) ?_
    refine lv_i2l hx hb d_L_law_739 (v := b9.toInt64) rfl ?_
    refine W.lcmp hx hb d_L_law_740 ?_
    refine lv_if_eq hx hb d_L_law_741 (tgt := 746) (by decide) (fun _ => ?_) (fun hno => absurd ((lg_cmp_eq _ _).mpr (by rw [hr1 h0, hb9 h0])) hno)
    refine lv_goto hx hb d_L_law_746 (tgt := 1237) (by decide) ?_
    have hl := lv_sub hl (l' := [(4, .int (nI (7 * n))), (0, .ref b), (1, .ref (lad s.heap.size 0)), (2, .ref (lam s.heap.size 0)), (3, .ref (lao s.heap.size))]) [2, 3, 4, 5, 6] rfl
    exact kk H2 locs2 ls ⟨rs.2.2, tc1, td1, tn1, rs.1, fo1, sz1, hs1, mi1, hi1, tx1, o1, hg1, hX2, hCI1, hM2, hA2, hS2⟩ hl
set_option maxHeartbeats 4000000 in
set_option maxRecDepth 100000 in
theorem lq_height (hx : p.tables.exec = Jvm.exec) (hb : c.code = b_L_law) (hml : c.maxLocals = 8) (hown : s.vm.findClass RL = some m.cls) (hts : ∀ w ∈ lw_tbl, w.before args s = true) (htr : l.stackTraces = false) (hXs : va_X b L xs s s.heap) (hbl : b < s.heap.size) (hL2 : L < 2147483648) (hK : tk D ci s) (hKB : tkB D2 cB s) (hKC0 : kc s.heap.size s s.heap) (hE0 : wE s s.heap) (hI : lJ D ci s H locs) (hn : 7 * n + 7 ≤ L) (hf : cells + 22 ≤ 601024 ∧ slots + 672 ≤ 7293034)
    (kk : ∀ (H1 : Heap) (locs1 : List Loc) (ls1 : Array Slot), lJ D ci s H1 locs1 → lv_has ls1 8 [(4, .int (nI (7 * n))), (0, .ref b), (1, .ref (lad s.heap.size 0)), (2, .ref (lam s.heap.size 0)), (3, .ref (lao s.heap.size))] → W p l e room_1 s m args below meth c H1 locs1 (cells + 22) (slots + 672) Q (F0 m 1237 ls1 [])) {ls : Array Slot} (hl : lv_has ls 8 [(4, .int (nI (7 * n))), (0, .ref b), (1, .ref (lad s.heap.size 0)), (2, .ref (lam s.heap.size 0)), (3, .ref (lao s.heap.size))]) : W p l e room_1 s m args below meth c H locs cells slots Q (F0 m 749 ls []) := by
  have hT : ∀ w ∈ TT, w ∈ lw_tbl := fun w h => (List.mem_filter.mp h).1
  obtain ⟨g, tc, td, tn, th, fo, sz, hs, mi, hi, tx9, o, hg, hX, hCI, hM, hA, hS⟩ := hI
  obtain ⟨rs, hCx, hCm⟩ := both_height l htr D ci (lad s.heap.size) g tc td tn D2 cB s.heap.size (lao s.heap.size) o (lam s.heap.size) th fo sz hs mi hi tx9 (xs (7 * n + 1))
  refine lv_aload_n hx hb d_L_law_749 rfl (lv_at hl 2 rfl) ?_
  refine lv_aload_n hx hb d_L_law_750 rfl (lv_at hl 1 rfl) ?_
  refine lv_iload hx hb d_L_law_751 (lv_at hl 0 rfl) ?_
  refine lv_iconst hx hb d_L_law_753 (v := (nI 1)) rfl ?_
  refine lv_iadd hx hb d_L_law_754 ?_
  refine tq_ti (show _ = (nI (7 * n + 1)) from nI_add _ _) ?_
  refine tq_sld hx hb hXs hbl hS (show 7 * n + 1 < L by omega) hL2 d_L_law_755 ?_
  refine lv_aload_n hx hb d_L_law_756 rfl (lv_at hl 4 rfl) ?_
  refine tl_L (F2 := aSz s.heap.size) ⟨hx, hb, hml, hown, hts⟩ hT hCx lh_L_106 wl_mv ⟨⟨⟨⟨hK, hg, hX, lad_D _, hCI⟩, hKB, kc_S hKC0 hS, fun j hj => (lad_in hj).1⟩, wE_S hE0 hS⟩, hA, fun k hk => lad_ne hk⟩ (fun _ h => lF_in h) rfl hl.1 rfl (Nat.le_of_ble_eq_true rfl) d_L_law_757 ⟨rfl, rfl, Nat.le_of_ble_eq_true rfl, Nat.le_of_ble_eq_true rfl⟩ hf hS.2.2 (fun v9 H1 locs1 hF9 hL9 => ?_)
  obtain ⟨rfl, tc1, td1, tn1, o1, hX1, hg1, hCI1, hA1, hr1, hO1⟩ := hF9
  have hS1 := lS_st hS hO1 hL9
  have hM1 := tm_lO hM hO1
  refine lv_istore hx hb d_L_law_760 hl (by decide) (lv' := [(5, .int rs.1), (4, .int (nI (7 * n))), (0, .ref b), (1, .ref (lad s.heap.size 0)), (2, .ref (lam s.heap.size 0)), (3, .ref (lao s.heap.size))]) rfl (fun ls hl => ?_)
  refine lv_aload_n hx hb d_L_law_762 rfl (lv_at hl 4 rfl) ?_
  refine lv_aload_n hx hb d_L_law_763 rfl (lv_at hl 2 rfl) ?_
  refine lv_iload hx hb d_L_law_764 (lv_at hl 1 rfl) ?_
  refine lv_iconst hx hb d_L_law_766 (v := (nI 1)) rfl ?_
  refine lv_iadd hx hb d_L_law_767 ?_
  refine tq_ti (show _ = (nI (7 * n + 1)) from nI_add _ _) ?_
  refine tq_sld hx hb hXs hbl hS1 (show 7 * n + 1 < L by omega) hL2 d_L_law_768 ?_
  refine tl_V (F2 := aSz s.heap.size) (fun _ h => mF_in h) ⟨hx, hb, hml, hown, hts⟩ hT hCm lk_L_108 wMD_mv ⟨hK, hg, hM1, lam_D _⟩ (wM_rc hK hM1) rfl hl.1 rfl (Nat.le_of_ble_eq_true rfl) d_L_law_769 ⟨rfl, rfl, Nat.le_of_ble_eq_true rfl, Nat.le_of_ble_eq_true rfl⟩ hf hS1.2.2 (fun v9 H2 locs2 hF9 hL9 => ?_)
  obtain ⟨b9, rfl, hb9, fo1, sz1, hs1, mi1, hi1, tx1, hM2, hO2⟩ := hF9
  have hX2 := tx_mO hX1 hO2
  have hA2 := lP_mO hA1 hO2
  have hS2 := mS_st hS1 hO2 hL9
  refine lv_istore hx hb d_L_law_772 hl (by decide) (lv' := [(6, .int b9), (5, .int rs.1), (4, .int (nI (7 * n))), (0, .ref b), (1, .ref (lad s.heap.size 0)), (2, .ref (lam s.heap.size 0)), (3, .ref (lao s.heap.size))]) rfl (fun ls hl => ?_)
  refine lv_aload_n hx hb d_L_law_774 rfl (lv_at hl 5 rfl) ?_
  refine tq_V ⟨hx, hb, hml, hown, hts⟩ hT (c_M_thrown l D ci (lam s.heap.size) rs.2.2 rs.1 fo1 sz1 hs1 mi1 hi1 tx1) lk_L_75 wM_mv ⟨hK, hg1, hM2⟩ (wM_rc hK hM2) rfl hl.1 rfl (Nat.le_of_ble_eq_true rfl) d_L_law_775 ⟨rfl, rfl, Nat.le_of_ble_eq_true rfl, Nat.le_of_ble_eq_true rfl⟩ hf ?_
  refine lv_iload hx hb d_L_law_778 (lv_at hl 1 rfl) ?_
  refine lv_icmp_eq hx hb d_L_law_780 (tgt := 785) (by decide) (fun _ => ?_) (fun hno => absurd rfl hno)
  refine lv_iload hx hb d_L_law_785 (lv_at hl 1 rfl) ?_
  refine lv_if_ne hx hb d_L_law_787 (tgt := 802) (by decide) (fun h0 => ?_) (fun h0 => ?_)
  · refine lv_goto hx hb d_L_law_802 (tgt := 1237) (by decide) ?_
    have hl := lv_sub hl (l' := [(4, .int (nI (7 * n))), (0, .ref b), (1, .ref (lad s.heap.size 0)), (2, .ref (lam s.heap.size 0)), (3, .ref (lao s.heap.size))]) [2, 3, 4, 5, 6] rfl
    exact kk H2 locs2 ls ⟨rs.2.2, tc1, td1, tn1, rs.1, fo1, sz1, hs1, mi1, hi1, tx1, o1, hg1, hX2, hCI1, hM2, hA2, hS2⟩ hl
  · refine lv_aload_n hx hb d_L_law_790 rfl (lv_at hl 6 rfl) ?_
    refine lv_iconst hx hb d_L_law_791 (v := (nI 0)) rfl ?_
    refine tq_lald hx hb hK hA2 0 1 rfl rfl (j := 0) (by decide) (by decide) d_L_law_792 ?_
    refine lv_iload hx hb d_L_law_793 (lv_at hl 0 rfl) ?_
    refine lv_i2l hx hb d_L_law_795 (v := b9.toInt64) rfl ?_
    refine W.lcmp hx hb d_L_law_796 ?_
    refine lv_if_eq hx hb d_L_law_797 (tgt := 802) (by decide) (fun _ => ?_) (fun hno => absurd ((lg_cmp_eq _ _).mpr (by rw [hr1 h0, hb9 h0])) hno)
    refine lv_goto hx hb d_L_law_802 (tgt := 1237) (by decide) ?_
    have hl := lv_sub hl (l' := [(4, .int (nI (7 * n))), (0, .ref b), (1, .ref (lad s.heap.size 0)), (2, .ref (lam s.heap.size 0)), (3, .ref (lao s.heap.size))]) [2, 3, 4, 5, 6] rfl
    exact kk H2 locs2 ls ⟨rs.2.2, tc1, td1, tn1, rs.1, fo1, sz1, hs1, mi1, hi1, tx1, o1, hg1, hX2, hCI1, hM2, hA2, hS2⟩ hl
set_option maxHeartbeats 4000000 in
set_option maxRecDepth 100000 in
theorem lq_mean (hx : p.tables.exec = Jvm.exec) (hb : c.code = b_L_law) (hml : c.maxLocals = 8) (hown : s.vm.findClass RL = some m.cls) (hts : ∀ w ∈ lw_tbl, w.before args s = true) (htr : l.stackTraces = false) (hXs : va_X b L xs s s.heap) (hbl : b < s.heap.size) (hL2 : L < 2147483648) (hK : tk D ci s) (hKB : tkB D2 cB s) (hKC0 : kc s.heap.size s s.heap) (hE0 : wE s s.heap) (hI : lJ D ci s H locs) (hn : 7 * n + 7 ≤ L) (hf : cells + 22 ≤ 601024 ∧ slots + 672 ≤ 7293034)
    (kk : ∀ (H1 : Heap) (locs1 : List Loc) (ls1 : Array Slot), lJ D ci s H1 locs1 → lv_has ls1 8 [(4, .int (nI (7 * n))), (0, .ref b), (1, .ref (lad s.heap.size 0)), (2, .ref (lam s.heap.size 0)), (3, .ref (lao s.heap.size))] → W p l e room_1 s m args below meth c H1 locs1 (cells + 22) (slots + 672) Q (F0 m 1237 ls1 [])) {ls : Array Slot} (hl : lv_has ls 8 [(4, .int (nI (7 * n))), (0, .ref b), (1, .ref (lad s.heap.size 0)), (2, .ref (lam s.heap.size 0)), (3, .ref (lao s.heap.size))]) : W p l e room_1 s m args below meth c H locs cells slots Q (F0 m 805 ls []) := by
  have hT : ∀ w ∈ TT, w ∈ lw_tbl := fun w h => (List.mem_filter.mp h).1
  obtain ⟨g, tc, td, tn, th, fo, sz, hs, mi, hi, tx9, o, hg, hX, hCI, hM, hA, hS⟩ := hI
  obtain ⟨rs, hCx, hCm⟩ := both_mean l htr D ci (lad s.heap.size) g tc td tn D2 cB s.heap.size (lao s.heap.size) o (lam s.heap.size) th fo sz hs mi hi tx9 (xs (7 * n + 1)) (xs (7 * n + 2))
  refine lv_aload_n hx hb d_L_law_805 rfl (lv_at hl 2 rfl) ?_
  refine lv_aload_n hx hb d_L_law_806 rfl (lv_at hl 1 rfl) ?_
  refine lv_iload hx hb d_L_law_807 (lv_at hl 0 rfl) ?_
  refine lv_iconst hx hb d_L_law_809 (v := (nI 1)) rfl ?_
  refine lv_iadd hx hb d_L_law_810 ?_
  refine tq_ti (show _ = (nI (7 * n + 1)) from nI_add _ _) ?_
  refine tq_sld hx hb hXs hbl hS (show 7 * n + 1 < L by omega) hL2 d_L_law_811 ?_
  refine lv_aload_n hx hb d_L_law_812 rfl (lv_at hl 1 rfl) ?_
  refine lv_iload hx hb d_L_law_813 (lv_at hl 0 rfl) ?_
  refine lv_iconst hx hb d_L_law_815 (v := (nI 2)) rfl ?_
  refine lv_iadd hx hb d_L_law_816 ?_
  refine tq_ti (show _ = (nI (7 * n + 2)) from nI_add _ _) ?_
  refine tq_sld hx hb hXs hbl hS (show 7 * n + 2 < L by omega) hL2 d_L_law_817 ?_
  refine lv_aload_n hx hb d_L_law_818 rfl (lv_at hl 4 rfl) ?_
  refine tl_L (F2 := aSz s.heap.size) ⟨hx, hb, hml, hown, hts⟩ hT hCx lh_L_109 wl_mv ⟨⟨⟨⟨hK, hg, hX, lad_D _, hCI⟩, hKB, kc_S hKC0 hS, fun j hj => (lad_in hj).1⟩, wE_S hE0 hS⟩, hA, fun k hk => lad_ne hk⟩ (fun _ h => lF_in h) rfl hl.1 rfl (Nat.le_of_ble_eq_true rfl) d_L_law_819 ⟨rfl, rfl, Nat.le_of_ble_eq_true rfl, Nat.le_of_ble_eq_true rfl⟩ hf hS.2.2 (fun v9 H1 locs1 hF9 hL9 => ?_)
  obtain ⟨rfl, tc1, td1, tn1, o1, hX1, hg1, hCI1, hA1, hr1, hO1⟩ := hF9
  have hS1 := lS_st hS hO1 hL9
  have hM1 := tm_lO hM hO1
  refine lv_istore hx hb d_L_law_822 hl (by decide) (lv' := [(5, .int rs.1), (4, .int (nI (7 * n))), (0, .ref b), (1, .ref (lad s.heap.size 0)), (2, .ref (lam s.heap.size 0)), (3, .ref (lao s.heap.size))]) rfl (fun ls hl => ?_)
  refine lv_aload_n hx hb d_L_law_824 rfl (lv_at hl 4 rfl) ?_
  refine lv_aload_n hx hb d_L_law_825 rfl (lv_at hl 2 rfl) ?_
  refine lv_iload hx hb d_L_law_826 (lv_at hl 1 rfl) ?_
  refine lv_iconst hx hb d_L_law_828 (v := (nI 1)) rfl ?_
  refine lv_iadd hx hb d_L_law_829 ?_
  refine tq_ti (show _ = (nI (7 * n + 1)) from nI_add _ _) ?_
  refine tq_sld hx hb hXs hbl hS1 (show 7 * n + 1 < L by omega) hL2 d_L_law_830 ?_
  refine lv_aload_n hx hb d_L_law_831 rfl (lv_at hl 2 rfl) ?_
  refine lv_iload hx hb d_L_law_832 (lv_at hl 1 rfl) ?_
  refine lv_iconst hx hb d_L_law_834 (v := (nI 2)) rfl ?_
  refine lv_iadd hx hb d_L_law_835 ?_
  refine tq_ti (show _ = (nI (7 * n + 2)) from nI_add _ _) ?_
  refine tq_sld hx hb hXs hbl hS1 (show 7 * n + 2 < L by omega) hL2 d_L_law_836 ?_
  refine tl_V (F2 := aSz s.heap.size) (fun _ h => mF_in h) ⟨hx, hb, hml, hown, hts⟩ hT hCm lk_L_111 wMD_mv ⟨hK, hg, hM1, lam_D _⟩ (wM_rc hK hM1) rfl hl.1 rfl (Nat.le_of_ble_eq_true rfl) d_L_law_837 ⟨rfl, rfl, Nat.le_of_ble_eq_true rfl, Nat.le_of_ble_eq_true rfl⟩ hf hS1.2.2 (fun v9 H2 locs2 hF9 hL9 => ?_)
  obtain ⟨b9, rfl, hb9, fo1, sz1, hs1, mi1, hi1, tx1, hM2, hO2⟩ := hF9
  have hX2 := tx_mO hX1 hO2
  have hA2 := lP_mO hA1 hO2
  have hS2 := mS_st hS1 hO2 hL9
  refine lv_istore hx hb d_L_law_840 hl (by decide) (lv' := [(6, .int b9), (5, .int rs.1), (4, .int (nI (7 * n))), (0, .ref b), (1, .ref (lad s.heap.size 0)), (2, .ref (lam s.heap.size 0)), (3, .ref (lao s.heap.size))]) rfl (fun ls hl => ?_)
  refine lv_aload_n hx hb d_L_law_842 rfl (lv_at hl 5 rfl) ?_
  refine tq_V ⟨hx, hb, hml, hown, hts⟩ hT (c_M_thrown l D ci (lam s.heap.size) rs.2.2 rs.1 fo1 sz1 hs1 mi1 hi1 tx1) lk_L_75 wM_mv ⟨hK, hg1, hM2⟩ (wM_rc hK hM2) rfl hl.1 rfl (Nat.le_of_ble_eq_true rfl) d_L_law_843 ⟨rfl, rfl, Nat.le_of_ble_eq_true rfl, Nat.le_of_ble_eq_true rfl⟩ hf ?_
  refine lv_iload hx hb d_L_law_846 (lv_at hl 1 rfl) ?_
  refine lv_icmp_eq hx hb d_L_law_848 (tgt := 853) (by decide) (fun _ => ?_) (fun hno => absurd rfl hno)
  refine lv_iload hx hb d_L_law_853 (lv_at hl 1 rfl) ?_
  refine lv_if_ne hx hb d_L_law_855 (tgt := 870) (by decide) (fun h0 => ?_) (fun h0 => ?_)
  · refine lv_goto hx hb d_L_law_870 (tgt := 1237) (by decide) ?_
    have hl := lv_sub hl (l' := [(4, .int (nI (7 * n))), (0, .ref b), (1, .ref (lad s.heap.size 0)), (2, .ref (lam s.heap.size 0)), (3, .ref (lao s.heap.size))]) [2, 3, 4, 5, 6] rfl
    exact kk H2 locs2 ls ⟨rs.2.2, tc1, td1, tn1, rs.1, fo1, sz1, hs1, mi1, hi1, tx1, o1, hg1, hX2, hCI1, hM2, hA2, hS2⟩ hl
  · refine lv_aload_n hx hb d_L_law_858 rfl (lv_at hl 6 rfl) ?_
    refine lv_iconst hx hb d_L_law_859 (v := (nI 0)) rfl ?_
    refine tq_lald hx hb hK hA2 0 1 rfl rfl (j := 0) (by decide) (by decide) d_L_law_860 ?_
    refine lv_iload hx hb d_L_law_861 (lv_at hl 0 rfl) ?_
    refine lv_i2l hx hb d_L_law_863 (v := b9.toInt64) rfl ?_
    refine W.lcmp hx hb d_L_law_864 ?_
    refine lv_if_eq hx hb d_L_law_865 (tgt := 870) (by decide) (fun _ => ?_) (fun hno => absurd ((lg_cmp_eq _ _).mpr (by rw [hr1 h0, hb9 h0])) hno)
    refine lv_goto hx hb d_L_law_870 (tgt := 1237) (by decide) ?_
    have hl := lv_sub hl (l' := [(4, .int (nI (7 * n))), (0, .ref b), (1, .ref (lad s.heap.size 0)), (2, .ref (lam s.heap.size 0)), (3, .ref (lao s.heap.size))]) [2, 3, 4, 5, 6] rfl
    exact kk H2 locs2 ls ⟨rs.2.2, tc1, td1, tn1, rs.1, fo1, sz1, hs1, mi1, hi1, tx1, o1, hg1, hX2, hCI1, hM2, hA2, hS2⟩ hl
set_option maxHeartbeats 4000000 in
set_option maxRecDepth 100000 in
theorem lq_extremes (hx : p.tables.exec = Jvm.exec) (hb : c.code = b_L_law) (hml : c.maxLocals = 8) (hown : s.vm.findClass RL = some m.cls) (hts : ∀ w ∈ lw_tbl, w.before args s = true) (htr : l.stackTraces = false) (hXs : va_X b L xs s s.heap) (hbl : b < s.heap.size) (hL2 : L < 2147483648) (hK : tk D ci s) (hKB : tkB D2 cB s) (hKC0 : kc s.heap.size s s.heap) (hE0 : wE s s.heap) (hI : lJ D ci s H locs) (hn : 7 * n + 7 ≤ L) (hf : cells + 22 ≤ 601024 ∧ slots + 672 ≤ 7293034)
    (kk : ∀ (H1 : Heap) (locs1 : List Loc) (ls1 : Array Slot), lJ D ci s H1 locs1 → lv_has ls1 8 [(4, .int (nI (7 * n))), (0, .ref b), (1, .ref (lad s.heap.size 0)), (2, .ref (lam s.heap.size 0)), (3, .ref (lao s.heap.size))] → W p l e room_1 s m args below meth c H1 locs1 (cells + 22) (slots + 672) Q (F0 m 1237 ls1 [])) {ls : Array Slot} (hl : lv_has ls 8 [(4, .int (nI (7 * n))), (0, .ref b), (1, .ref (lad s.heap.size 0)), (2, .ref (lam s.heap.size 0)), (3, .ref (lao s.heap.size))]) : W p l e room_1 s m args below meth c H locs cells slots Q (F0 m 873 ls []) := by
  have hT : ∀ w ∈ TT, w ∈ lw_tbl := fun w h => (List.mem_filter.mp h).1
  obtain ⟨g, tc, td, tn, th, fo, sz, hs, mi, hi, tx9, o, hg, hX, hCI, hM, hA, hS⟩ := hI
  obtain ⟨rs, hCx, hCm⟩ := both_extremes l htr D ci (lad s.heap.size) g tc td tn D2 cB s.heap.size (lao s.heap.size) o (lam s.heap.size) th fo sz hs mi hi tx9 (xs (7 * n + 1))
  refine lv_aload_n hx hb d_L_law_873 rfl (lv_at hl 2 rfl) ?_
  refine lv_aload_n hx hb d_L_law_874 rfl (lv_at hl 1 rfl) ?_
  refine lv_iload hx hb d_L_law_875 (lv_at hl 0 rfl) ?_
  refine lv_iconst hx hb d_L_law_877 (v := (nI 1)) rfl ?_
  refine lv_iadd hx hb d_L_law_878 ?_
  refine tq_ti (show _ = (nI (7 * n + 1)) from nI_add _ _) ?_
  refine tq_sld hx hb hXs hbl hS (show 7 * n + 1 < L by omega) hL2 d_L_law_879 ?_
  refine lv_aload_n hx hb d_L_law_880 rfl (lv_at hl 4 rfl) ?_
  refine tl_L (F2 := aSz s.heap.size) ⟨hx, hb, hml, hown, hts⟩ hT hCx lh_L_112 wl_mv ⟨⟨⟨⟨hK, hg, hX, lad_D _, hCI⟩, hKB, kc_S hKC0 hS, fun j hj => (lad_in hj).1⟩, wE_S hE0 hS⟩, hA, fun k hk => lad_ne hk⟩ (fun _ h => lF_in h) rfl hl.1 rfl (Nat.le_of_ble_eq_true rfl) d_L_law_881 ⟨rfl, rfl, Nat.le_of_ble_eq_true rfl, Nat.le_of_ble_eq_true rfl⟩ hf hS.2.2 (fun v9 H1 locs1 hF9 hL9 => ?_)
  obtain ⟨rfl, tc1, td1, tn1, o1, hX1, hg1, hCI1, hA1, hr1, hO1⟩ := hF9
  have hS1 := lS_st hS hO1 hL9
  have hM1 := tm_lO hM hO1
  refine lv_istore hx hb d_L_law_884 hl (by decide) (lv' := [(5, .int rs.1), (4, .int (nI (7 * n))), (0, .ref b), (1, .ref (lad s.heap.size 0)), (2, .ref (lam s.heap.size 0)), (3, .ref (lao s.heap.size))]) rfl (fun ls hl => ?_)
  refine lv_aload_n hx hb d_L_law_886 rfl (lv_at hl 4 rfl) ?_
  refine lv_aload_n hx hb d_L_law_887 rfl (lv_at hl 2 rfl) ?_
  refine lv_iload hx hb d_L_law_888 (lv_at hl 1 rfl) ?_
  refine lv_iconst hx hb d_L_law_890 (v := (nI 1)) rfl ?_
  refine lv_iadd hx hb d_L_law_891 ?_
  refine tq_ti (show _ = (nI (7 * n + 1)) from nI_add _ _) ?_
  refine tq_sld hx hb hXs hbl hS1 (show 7 * n + 1 < L by omega) hL2 d_L_law_892 ?_
  refine tl_V (F2 := aSz s.heap.size) (fun _ h => mF_in h) ⟨hx, hb, hml, hown, hts⟩ hT hCm lk_L_114 wMD_mv ⟨hK, hg, hM1, lam_D _⟩ (wM_rc hK hM1) rfl hl.1 rfl (Nat.le_of_ble_eq_true rfl) d_L_law_893 ⟨rfl, rfl, Nat.le_of_ble_eq_true rfl, Nat.le_of_ble_eq_true rfl⟩ hf hS1.2.2 (fun v9 H2 locs2 hF9 hL9 => ?_)
  obtain ⟨b9, rfl, hb9, fo1, sz1, hs1, mi1, hi1, tx1, hM2, hO2⟩ := hF9
  have hX2 := tx_mO hX1 hO2
  have hA2 := lP_mO hA1 hO2
  have hS2 := mS_st hS1 hO2 hL9
  refine lv_istore hx hb d_L_law_896 hl (by decide) (lv' := [(6, .int b9), (5, .int rs.1), (4, .int (nI (7 * n))), (0, .ref b), (1, .ref (lad s.heap.size 0)), (2, .ref (lam s.heap.size 0)), (3, .ref (lao s.heap.size))]) rfl (fun ls hl => ?_)
  refine lv_aload_n hx hb d_L_law_898 rfl (lv_at hl 5 rfl) ?_
  refine tq_V ⟨hx, hb, hml, hown, hts⟩ hT (c_M_thrown l D ci (lam s.heap.size) rs.2.2 rs.1 fo1 sz1 hs1 mi1 hi1 tx1) lk_L_75 wM_mv ⟨hK, hg1, hM2⟩ (wM_rc hK hM2) rfl hl.1 rfl (Nat.le_of_ble_eq_true rfl) d_L_law_899 ⟨rfl, rfl, Nat.le_of_ble_eq_true rfl, Nat.le_of_ble_eq_true rfl⟩ hf ?_
  refine lv_iload hx hb d_L_law_902 (lv_at hl 1 rfl) ?_
  refine lv_icmp_eq hx hb d_L_law_904 (tgt := 909) (by decide) (fun _ => ?_) (fun hno => absurd rfl hno)
  refine lv_iload hx hb d_L_law_909 (lv_at hl 1 rfl) ?_
  refine lv_if_ne hx hb d_L_law_911 (tgt := 926) (by decide) (fun h0 => ?_) (fun h0 => ?_)
  · refine lv_goto hx hb d_L_law_926 (tgt := 1237) (by decide) ?_
    have hl := lv_sub hl (l' := [(4, .int (nI (7 * n))), (0, .ref b), (1, .ref (lad s.heap.size 0)), (2, .ref (lam s.heap.size 0)), (3, .ref (lao s.heap.size))]) [2, 3, 4, 5, 6] rfl
    exact kk H2 locs2 ls ⟨rs.2.2, tc1, td1, tn1, rs.1, fo1, sz1, hs1, mi1, hi1, tx1, o1, hg1, hX2, hCI1, hM2, hA2, hS2⟩ hl
  · refine lv_aload_n hx hb d_L_law_914 rfl (lv_at hl 6 rfl) ?_
    refine lv_iconst hx hb d_L_law_915 (v := (nI 0)) rfl ?_
    refine tq_lald hx hb hK hA2 0 1 rfl rfl (j := 0) (by decide) (by decide) d_L_law_916 ?_
    refine lv_iload hx hb d_L_law_917 (lv_at hl 0 rfl) ?_
    refine lv_i2l hx hb d_L_law_919 (v := b9.toInt64) rfl ?_
    refine W.lcmp hx hb d_L_law_920 ?_
    refine lv_if_eq hx hb d_L_law_921 (tgt := 926) (by decide) (fun _ => ?_) (fun hno => absurd ((lg_cmp_eq _ _).mpr (by rw [hr1 h0, hb9 h0])) hno)
    refine lv_goto hx hb d_L_law_926 (tgt := 1237) (by decide) ?_
    have hl := lv_sub hl (l' := [(4, .int (nI (7 * n))), (0, .ref b), (1, .ref (lad s.heap.size 0)), (2, .ref (lam s.heap.size 0)), (3, .ref (lao s.heap.size))]) [2, 3, 4, 5, 6] rfl
    exact kk H2 locs2 ls ⟨rs.2.2, tc1, td1, tn1, rs.1, fo1, sz1, hs1, mi1, hi1, tx1, o1, hg1, hX2, hCI1, hM2, hA2, hS2⟩ hl
set_option maxHeartbeats 4000000 in
set_option maxRecDepth 100000 in
theorem lq_extreme (hx : p.tables.exec = Jvm.exec) (hb : c.code = b_L_law) (hml : c.maxLocals = 8) (hown : s.vm.findClass RL = some m.cls) (hts : ∀ w ∈ lw_tbl, w.before args s = true) (htr : l.stackTraces = false) (hXs : va_X b L xs s s.heap) (hbl : b < s.heap.size) (hL2 : L < 2147483648) (hK : tk D ci s) (hKB : tkB D2 cB s) (hKC0 : kc s.heap.size s s.heap) (hE0 : wE s s.heap) (hI : lJ D ci s H locs) (hn : 7 * n + 7 ≤ L) (hf : cells + 22 ≤ 601024 ∧ slots + 672 ≤ 7293034)
    (kk : ∀ (H1 : Heap) (locs1 : List Loc) (ls1 : Array Slot), lJ D ci s H1 locs1 → lv_has ls1 8 [(4, .int (nI (7 * n))), (0, .ref b), (1, .ref (lad s.heap.size 0)), (2, .ref (lam s.heap.size 0)), (3, .ref (lao s.heap.size))] → W p l e room_1 s m args below meth c H1 locs1 (cells + 22) (slots + 672) Q (F0 m 1237 ls1 [])) {ls : Array Slot} (hl : lv_has ls 8 [(4, .int (nI (7 * n))), (0, .ref b), (1, .ref (lad s.heap.size 0)), (2, .ref (lam s.heap.size 0)), (3, .ref (lao s.heap.size))]) : W p l e room_1 s m args below meth c H locs cells slots Q (F0 m 929 ls []) := by
  have hT : ∀ w ∈ TT, w ∈ lw_tbl := fun w h => (List.mem_filter.mp h).1
  obtain ⟨g, tc, td, tn, th, fo, sz, hs, mi, hi, tx9, o, hg, hX, hCI, hM, hA, hS⟩ := hI
  obtain ⟨rs, hCx, hCm⟩ := both_extreme l htr D ci (lad s.heap.size) g tc td tn D2 cB s.heap.size (lao s.heap.size) o (lam s.heap.size) th fo sz hs mi hi tx9 (xs (7 * n + 1)) (xs (7 * n + 2)) (xs (7 * n + 3))
  refine lv_aload_n hx hb d_L_law_929 rfl (lv_at hl 2 rfl) ?_
  refine lv_aload_n hx hb d_L_law_930 rfl (lv_at hl 1 rfl) ?_
  refine lv_iload hx hb d_L_law_931 (lv_at hl 0 rfl) ?_
  refine lv_iconst hx hb d_L_law_933 (v := (nI 1)) rfl ?_
  refine lv_iadd hx hb d_L_law_934 ?_
  refine tq_ti (show _ = (nI (7 * n + 1)) from nI_add _ _) ?_
  refine tq_sld hx hb hXs hbl hS (show 7 * n + 1 < L by omega) hL2 d_L_law_935 ?_
  refine lv_aload_n hx hb d_L_law_936 rfl (lv_at hl 1 rfl) ?_
  refine lv_iload hx hb d_L_law_937 (lv_at hl 0 rfl) ?_
  refine lv_iconst hx hb d_L_law_939 (v := (nI 2)) rfl ?_
  refine lv_iadd hx hb d_L_law_940 ?_
  refine tq_ti (show _ = (nI (7 * n + 2)) from nI_add _ _) ?_
  refine tq_sld hx hb hXs hbl hS (show 7 * n + 2 < L by omega) hL2 d_L_law_941 ?_
  refine lv_aload_n hx hb d_L_law_942 rfl (lv_at hl 1 rfl) ?_
  refine lv_iload hx hb d_L_law_943 (lv_at hl 0 rfl) ?_
  refine lv_iconst hx hb d_L_law_945 (v := (nI 3)) rfl ?_
  refine lv_iadd hx hb d_L_law_946 ?_
  refine tq_ti (show _ = (nI (7 * n + 3)) from nI_add _ _) ?_
  refine tq_sld hx hb hXs hbl hS (show 7 * n + 3 < L by omega) hL2 d_L_law_947 ?_
  refine lv_aload_n hx hb d_L_law_948 rfl (lv_at hl 4 rfl) ?_
  refine tl_L (F2 := aSz s.heap.size) ⟨hx, hb, hml, hown, hts⟩ hT hCx lh_L_115 wl_mv ⟨⟨⟨⟨hK, hg, hX, lad_D _, hCI⟩, hKB, kc_S hKC0 hS, fun j hj => (lad_in hj).1⟩, wE_S hE0 hS⟩, hA, fun k hk => lad_ne hk⟩ (fun _ h => lF_in h) rfl hl.1 rfl (Nat.le_of_ble_eq_true rfl) d_L_law_949 ⟨rfl, rfl, Nat.le_of_ble_eq_true rfl, Nat.le_of_ble_eq_true rfl⟩ hf hS.2.2 (fun v9 H1 locs1 hF9 hL9 => ?_)
  obtain ⟨rfl, tc1, td1, tn1, o1, hX1, hg1, hCI1, hA1, hr1, hO1⟩ := hF9
  have hS1 := lS_st hS hO1 hL9
  have hM1 := tm_lO hM hO1
  refine lv_istore hx hb d_L_law_952 hl (by decide) (lv' := [(5, .int rs.1), (4, .int (nI (7 * n))), (0, .ref b), (1, .ref (lad s.heap.size 0)), (2, .ref (lam s.heap.size 0)), (3, .ref (lao s.heap.size))]) rfl (fun ls hl => ?_)
  refine lv_aload_n hx hb d_L_law_954 rfl (lv_at hl 4 rfl) ?_
  refine lv_aload_n hx hb d_L_law_955 rfl (lv_at hl 2 rfl) ?_
  refine lv_iload hx hb d_L_law_956 (lv_at hl 1 rfl) ?_
  refine lv_iconst hx hb d_L_law_958 (v := (nI 1)) rfl ?_
  refine lv_iadd hx hb d_L_law_959 ?_
  refine tq_ti (show _ = (nI (7 * n + 1)) from nI_add _ _) ?_
  refine tq_sld hx hb hXs hbl hS1 (show 7 * n + 1 < L by omega) hL2 d_L_law_960 ?_
  refine lv_aload_n hx hb d_L_law_961 rfl (lv_at hl 2 rfl) ?_
  refine lv_iload hx hb d_L_law_962 (lv_at hl 1 rfl) ?_
  refine lv_iconst hx hb d_L_law_964 (v := (nI 2)) rfl ?_
  refine lv_iadd hx hb d_L_law_965 ?_
  refine tq_ti (show _ = (nI (7 * n + 2)) from nI_add _ _) ?_
  refine tq_sld hx hb hXs hbl hS1 (show 7 * n + 2 < L by omega) hL2 d_L_law_966 ?_
  refine lv_aload_n hx hb d_L_law_967 rfl (lv_at hl 2 rfl) ?_
  refine lv_iload hx hb d_L_law_968 (lv_at hl 1 rfl) ?_
  refine lv_iconst hx hb d_L_law_970 (v := (nI 3)) rfl ?_
  refine lv_iadd hx hb d_L_law_971 ?_
  refine tq_ti (show _ = (nI (7 * n + 3)) from nI_add _ _) ?_
  refine tq_sld hx hb hXs hbl hS1 (show 7 * n + 3 < L by omega) hL2 d_L_law_972 ?_
  refine tl_V (F2 := aSz s.heap.size) (fun _ h => mF_in h) ⟨hx, hb, hml, hown, hts⟩ hT hCm lk_L_118 wMD_mv ⟨hK, hg, hM1, lam_D _⟩ (wM_rc hK hM1) rfl hl.1 rfl (Nat.le_of_ble_eq_true rfl) d_L_law_973 ⟨rfl, rfl, Nat.le_of_ble_eq_true rfl, Nat.le_of_ble_eq_true rfl⟩ hf hS1.2.2 (fun v9 H2 locs2 hF9 hL9 => ?_)
  obtain ⟨b9, rfl, hb9, fo1, sz1, hs1, mi1, hi1, tx1, hM2, hO2⟩ := hF9
  have hX2 := tx_mO hX1 hO2
  have hA2 := lP_mO hA1 hO2
  have hS2 := mS_st hS1 hO2 hL9
  refine lv_istore hx hb d_L_law_976 hl (by decide) (lv' := [(6, .int b9), (5, .int rs.1), (4, .int (nI (7 * n))), (0, .ref b), (1, .ref (lad s.heap.size 0)), (2, .ref (lam s.heap.size 0)), (3, .ref (lao s.heap.size))]) rfl (fun ls hl => ?_)
  refine lv_aload_n hx hb d_L_law_978 rfl (lv_at hl 5 rfl) ?_
  refine tq_V ⟨hx, hb, hml, hown, hts⟩ hT (c_M_thrown l D ci (lam s.heap.size) rs.2.2 rs.1 fo1 sz1 hs1 mi1 hi1 tx1) lk_L_75 wM_mv ⟨hK, hg1, hM2⟩ (wM_rc hK hM2) rfl hl.1 rfl (Nat.le_of_ble_eq_true rfl) d_L_law_979 ⟨rfl, rfl, Nat.le_of_ble_eq_true rfl, Nat.le_of_ble_eq_true rfl⟩ hf ?_
  refine lv_iload hx hb d_L_law_982 (lv_at hl 1 rfl) ?_
  refine lv_icmp_eq hx hb d_L_law_984 (tgt := 989) (by decide) (fun _ => ?_) (fun hno => absurd rfl hno)
  refine lv_iload hx hb d_L_law_989 (lv_at hl 1 rfl) ?_
  refine lv_if_ne hx hb d_L_law_991 (tgt := 1006) (by decide) (fun h0 => ?_) (fun h0 => ?_)
  · refine lv_goto hx hb d_L_law_1006 (tgt := 1237) (by decide) ?_
    have hl := lv_sub hl (l' := [(4, .int (nI (7 * n))), (0, .ref b), (1, .ref (lad s.heap.size 0)), (2, .ref (lam s.heap.size 0)), (3, .ref (lao s.heap.size))]) [2, 3, 4, 5, 6] rfl
    exact kk H2 locs2 ls ⟨rs.2.2, tc1, td1, tn1, rs.1, fo1, sz1, hs1, mi1, hi1, tx1, o1, hg1, hX2, hCI1, hM2, hA2, hS2⟩ hl
  · refine lv_aload_n hx hb d_L_law_994 rfl (lv_at hl 6 rfl) ?_
    refine lv_iconst hx hb d_L_law_995 (v := (nI 0)) rfl ?_
    refine tq_lald hx hb hK hA2 0 1 rfl rfl (j := 0) (by decide) (by decide) d_L_law_996 ?_
    refine lv_iload hx hb d_L_law_997 (lv_at hl 0 rfl) ?_
    refine lv_i2l hx hb d_L_law_999 (v := b9.toInt64) rfl ?_
    refine W.lcmp hx hb d_L_law_1000 ?_
    refine lv_if_eq hx hb d_L_law_1001 (tgt := 1006) (by decide) (fun _ => ?_) (fun hno => absurd ((lg_cmp_eq _ _).mpr (by rw [hr1 h0, hb9 h0])) hno)
    refine lv_goto hx hb d_L_law_1006 (tgt := 1237) (by decide) ?_
    have hl := lv_sub hl (l' := [(4, .int (nI (7 * n))), (0, .ref b), (1, .ref (lad s.heap.size 0)), (2, .ref (lam s.heap.size 0)), (3, .ref (lao s.heap.size))]) [2, 3, 4, 5, 6] rfl
    exact kk H2 locs2 ls ⟨rs.2.2, tc1, td1, tn1, rs.1, fo1, sz1, hs1, mi1, hi1, tx1, o1, hg1, hX2, hCI1, hM2, hA2, hS2⟩ hl
set_option maxHeartbeats 4000000 in
set_option maxRecDepth 100000 in
theorem lq_line (hx : p.tables.exec = Jvm.exec) (hb : c.code = b_L_law) (hml : c.maxLocals = 8) (hown : s.vm.findClass RL = some m.cls) (hts : ∀ w ∈ lw_tbl, w.before args s = true) (htr : l.stackTraces = false) (hXs : va_X b L xs s s.heap) (hbl : b < s.heap.size) (hL2 : L < 2147483648) (hK : tk D ci s) (hKB : tkB D2 cB s) (hKC0 : kc s.heap.size s s.heap) (hE0 : wE s s.heap) (hI : lJ D ci s H locs) (hn : 7 * n + 7 ≤ L) (hf : cells + 22 ≤ 601024 ∧ slots + 672 ≤ 7293034)
    (kk : ∀ (H1 : Heap) (locs1 : List Loc) (ls1 : Array Slot), lJ D ci s H1 locs1 → lv_has ls1 8 [(4, .int (nI (7 * n))), (0, .ref b), (1, .ref (lad s.heap.size 0)), (2, .ref (lam s.heap.size 0)), (3, .ref (lao s.heap.size))] → W p l e room_1 s m args below meth c H1 locs1 (cells + 22) (slots + 672) Q (F0 m 1237 ls1 [])) {ls : Array Slot} (hl : lv_has ls 8 [(4, .int (nI (7 * n))), (0, .ref b), (1, .ref (lad s.heap.size 0)), (2, .ref (lam s.heap.size 0)), (3, .ref (lao s.heap.size))]) : W p l e room_1 s m args below meth c H locs cells slots Q (F0 m 1009 ls []) := by
  have hT : ∀ w ∈ TT, w ∈ lw_tbl := fun w h => (List.mem_filter.mp h).1
  obtain ⟨g, tc, td, tn, th, fo, sz, hs, mi, hi, tx9, o, hg, hX, hCI, hM, hA, hS⟩ := hI
  obtain ⟨rs, hCx, hCm⟩ := both_line l htr D ci (lad s.heap.size) g tc td tn D2 cB s.heap.size (lao s.heap.size) o (lam s.heap.size) th fo sz hs mi hi tx9 (xs (7 * n + 1)) (xs (7 * n + 2))
  refine lv_aload_n hx hb d_L_law_1009 rfl (lv_at hl 2 rfl) ?_
  refine lv_aload_n hx hb d_L_law_1010 rfl (lv_at hl 1 rfl) ?_
  refine lv_iload hx hb d_L_law_1011 (lv_at hl 0 rfl) ?_
  refine lv_iconst hx hb d_L_law_1013 (v := (nI 1)) rfl ?_
  refine lv_iadd hx hb d_L_law_1014 ?_
  refine tq_ti (show _ = (nI (7 * n + 1)) from nI_add _ _) ?_
  refine tq_sld hx hb hXs hbl hS (show 7 * n + 1 < L by omega) hL2 d_L_law_1015 ?_
  refine lv_aload_n hx hb d_L_law_1016 rfl (lv_at hl 1 rfl) ?_
  refine lv_iload hx hb d_L_law_1017 (lv_at hl 0 rfl) ?_
  refine lv_iconst hx hb d_L_law_1019 (v := (nI 2)) rfl ?_
  refine lv_iadd hx hb d_L_law_1020 ?_
  refine tq_ti (show _ = (nI (7 * n + 2)) from nI_add _ _) ?_
  refine tq_sld hx hb hXs hbl hS (show 7 * n + 2 < L by omega) hL2 d_L_law_1021 ?_
  refine lv_aload_n hx hb d_L_law_1022 rfl (lv_at hl 4 rfl) ?_
  refine tl_L (F2 := aSz s.heap.size) ⟨hx, hb, hml, hown, hts⟩ hT hCx lh_L_119 wl_mv ⟨⟨⟨⟨hK, hg, hX, lad_D _, hCI⟩, hKB, kc_S hKC0 hS, fun j hj => (lad_in hj).1⟩, wE_S hE0 hS⟩, hA, fun k hk => lad_ne hk⟩ (fun _ h => lF_in h) rfl hl.1 rfl (Nat.le_of_ble_eq_true rfl) d_L_law_1023 ⟨rfl, rfl, Nat.le_of_ble_eq_true rfl, Nat.le_of_ble_eq_true rfl⟩ hf hS.2.2 (fun v9 H1 locs1 hF9 hL9 => ?_)
  obtain ⟨rfl, tc1, td1, tn1, o1, hX1, hg1, hCI1, hA1, hr1, hO1⟩ := hF9
  have hS1 := lS_st hS hO1 hL9
  have hM1 := tm_lO hM hO1
  refine lv_istore hx hb d_L_law_1026 hl (by decide) (lv' := [(5, .int rs.1), (4, .int (nI (7 * n))), (0, .ref b), (1, .ref (lad s.heap.size 0)), (2, .ref (lam s.heap.size 0)), (3, .ref (lao s.heap.size))]) rfl (fun ls hl => ?_)
  refine lv_aload_n hx hb d_L_law_1028 rfl (lv_at hl 4 rfl) ?_
  refine lv_aload_n hx hb d_L_law_1029 rfl (lv_at hl 2 rfl) ?_
  refine lv_iload hx hb d_L_law_1030 (lv_at hl 1 rfl) ?_
  refine lv_iconst hx hb d_L_law_1032 (v := (nI 1)) rfl ?_
  refine lv_iadd hx hb d_L_law_1033 ?_
  refine tq_ti (show _ = (nI (7 * n + 1)) from nI_add _ _) ?_
  refine tq_sld hx hb hXs hbl hS1 (show 7 * n + 1 < L by omega) hL2 d_L_law_1034 ?_
  refine lv_aload_n hx hb d_L_law_1035 rfl (lv_at hl 2 rfl) ?_
  refine lv_iload hx hb d_L_law_1036 (lv_at hl 1 rfl) ?_
  refine lv_iconst hx hb d_L_law_1038 (v := (nI 2)) rfl ?_
  refine lv_iadd hx hb d_L_law_1039 ?_
  refine tq_ti (show _ = (nI (7 * n + 2)) from nI_add _ _) ?_
  refine tq_sld hx hb hXs hbl hS1 (show 7 * n + 2 < L by omega) hL2 d_L_law_1040 ?_
  refine tl_V (F2 := aSz s.heap.size) (fun _ h => mF_in h) ⟨hx, hb, hml, hown, hts⟩ hT hCm lk_L_121 wMD_mv ⟨hK, hg, hM1, lam_D _⟩ (wM_rc hK hM1) rfl hl.1 rfl (Nat.le_of_ble_eq_true rfl) d_L_law_1041 ⟨rfl, rfl, Nat.le_of_ble_eq_true rfl, Nat.le_of_ble_eq_true rfl⟩ hf hS1.2.2 (fun v9 H2 locs2 hF9 hL9 => ?_)
  obtain ⟨b9, rfl, hb9, fo1, sz1, hs1, mi1, hi1, tx1, hM2, hO2⟩ := hF9
  have hX2 := tx_mO hX1 hO2
  have hA2 := lP_mO hA1 hO2
  have hS2 := mS_st hS1 hO2 hL9
  refine lv_istore hx hb d_L_law_1044 hl (by decide) (lv' := [(6, .int b9), (5, .int rs.1), (4, .int (nI (7 * n))), (0, .ref b), (1, .ref (lad s.heap.size 0)), (2, .ref (lam s.heap.size 0)), (3, .ref (lao s.heap.size))]) rfl (fun ls hl => ?_)
  refine lv_aload_n hx hb d_L_law_1046 rfl (lv_at hl 5 rfl) ?_
  refine tq_V ⟨hx, hb, hml, hown, hts⟩ hT (c_M_thrown l D ci (lam s.heap.size) rs.2.2 rs.1 fo1 sz1 hs1 mi1 hi1 tx1) lk_L_75 wM_mv ⟨hK, hg1, hM2⟩ (wM_rc hK hM2) rfl hl.1 rfl (Nat.le_of_ble_eq_true rfl) d_L_law_1047 ⟨rfl, rfl, Nat.le_of_ble_eq_true rfl, Nat.le_of_ble_eq_true rfl⟩ hf ?_
  refine lv_iload hx hb d_L_law_1050 (lv_at hl 1 rfl) ?_
  refine lv_icmp_eq hx hb d_L_law_1052 (tgt := 1057) (by decide) (fun _ => ?_) (fun hno => absurd rfl hno)
  refine lv_iload hx hb d_L_law_1057 (lv_at hl 1 rfl) ?_
  refine lv_if_ne hx hb d_L_law_1059 (tgt := 1074) (by decide) (fun h0 => ?_) (fun h0 => ?_)
  · refine lv_goto hx hb d_L_law_1074 (tgt := 1237) (by decide) ?_
    have hl := lv_sub hl (l' := [(4, .int (nI (7 * n))), (0, .ref b), (1, .ref (lad s.heap.size 0)), (2, .ref (lam s.heap.size 0)), (3, .ref (lao s.heap.size))]) [2, 3, 4, 5, 6] rfl
    exact kk H2 locs2 ls ⟨rs.2.2, tc1, td1, tn1, rs.1, fo1, sz1, hs1, mi1, hi1, tx1, o1, hg1, hX2, hCI1, hM2, hA2, hS2⟩ hl
  · refine lv_aload_n hx hb d_L_law_1062 rfl (lv_at hl 6 rfl) ?_
    refine lv_iconst hx hb d_L_law_1063 (v := (nI 0)) rfl ?_
    refine tq_lald hx hb hK hA2 0 1 rfl rfl (j := 0) (by decide) (by decide) d_L_law_1064 ?_
    refine lv_iload hx hb d_L_law_1065 (lv_at hl 0 rfl) ?_
    refine lv_i2l hx hb d_L_law_1067 (v := b9.toInt64) rfl ?_
    refine W.lcmp hx hb d_L_law_1068 ?_
    refine lv_if_eq hx hb d_L_law_1069 (tgt := 1074) (by decide) (fun _ => ?_) (fun hno => absurd ((lg_cmp_eq _ _).mpr (by rw [hr1 h0, hb9 h0])) hno)
    refine lv_goto hx hb d_L_law_1074 (tgt := 1237) (by decide) ?_
    have hl := lv_sub hl (l' := [(4, .int (nI (7 * n))), (0, .ref b), (1, .ref (lad s.heap.size 0)), (2, .ref (lam s.heap.size 0)), (3, .ref (lao s.heap.size))]) [2, 3, 4, 5, 6] rfl
    exact kk H2 locs2 ls ⟨rs.2.2, tc1, td1, tn1, rs.1, fo1, sz1, hs1, mi1, hi1, tx1, o1, hg1, hX2, hCI1, hM2, hA2, hS2⟩ hl
set_option maxHeartbeats 4000000 in
set_option maxRecDepth 100000 in
theorem lq_sign (hx : p.tables.exec = Jvm.exec) (hb : c.code = b_L_law) (hml : c.maxLocals = 8) (hown : s.vm.findClass RL = some m.cls) (hts : ∀ w ∈ lw_tbl, w.before args s = true) (htr : l.stackTraces = false) (hXs : va_X b L xs s s.heap) (hbl : b < s.heap.size) (hL2 : L < 2147483648) (hK : tk D ci s) (hKB : tkB D2 cB s) (hKC0 : kc s.heap.size s s.heap) (hE0 : wE s s.heap) (hI : lJ D ci s H locs) (hn : 7 * n + 7 ≤ L) (hf : cells + 22 ≤ 601024 ∧ slots + 672 ≤ 7293034)
    (kk : ∀ (H1 : Heap) (locs1 : List Loc) (ls1 : Array Slot), lJ D ci s H1 locs1 → lv_has ls1 8 [(4, .int (nI (7 * n))), (0, .ref b), (1, .ref (lad s.heap.size 0)), (2, .ref (lam s.heap.size 0)), (3, .ref (lao s.heap.size))] → W p l e room_1 s m args below meth c H1 locs1 (cells + 22) (slots + 672) Q (F0 m 1237 ls1 [])) {ls : Array Slot} (hl : lv_has ls 8 [(4, .int (nI (7 * n))), (0, .ref b), (1, .ref (lad s.heap.size 0)), (2, .ref (lam s.heap.size 0)), (3, .ref (lao s.heap.size))]) : W p l e room_1 s m args below meth c H locs cells slots Q (F0 m 1077 ls []) := by
  have hT : ∀ w ∈ TT, w ∈ lw_tbl := fun w h => (List.mem_filter.mp h).1
  obtain ⟨g, tc, td, tn, th, fo, sz, hs, mi, hi, tx9, o, hg, hX, hCI, hM, hA, hS⟩ := hI
  obtain ⟨rs, hCx, hCm⟩ := both_sign l htr D ci (lad s.heap.size) g tc td tn D2 cB s.heap.size (lao s.heap.size) o (lam s.heap.size) th fo sz hs mi hi tx9 (xs (7 * n + 1)) (xs (7 * n + 2)) (xs (7 * n + 3))
  refine lv_aload_n hx hb d_L_law_1077 rfl (lv_at hl 2 rfl) ?_
  refine lv_aload_n hx hb d_L_law_1078 rfl (lv_at hl 1 rfl) ?_
  refine lv_iload hx hb d_L_law_1079 (lv_at hl 0 rfl) ?_
  refine lv_iconst hx hb d_L_law_1081 (v := (nI 1)) rfl ?_
  refine lv_iadd hx hb d_L_law_1082 ?_
  refine tq_ti (show _ = (nI (7 * n + 1)) from nI_add _ _) ?_
  refine tq_sld hx hb hXs hbl hS (show 7 * n + 1 < L by omega) hL2 d_L_law_1083 ?_
  refine lv_aload_n hx hb d_L_law_1084 rfl (lv_at hl 1 rfl) ?_
  refine lv_iload hx hb d_L_law_1085 (lv_at hl 0 rfl) ?_
  refine lv_iconst hx hb d_L_law_1087 (v := (nI 2)) rfl ?_
  refine lv_iadd hx hb d_L_law_1088 ?_
  refine tq_ti (show _ = (nI (7 * n + 2)) from nI_add _ _) ?_
  refine tq_sld hx hb hXs hbl hS (show 7 * n + 2 < L by omega) hL2 d_L_law_1089 ?_
  refine lv_aload_n hx hb d_L_law_1090 rfl (lv_at hl 1 rfl) ?_
  refine lv_iload hx hb d_L_law_1091 (lv_at hl 0 rfl) ?_
  refine lv_iconst hx hb d_L_law_1093 (v := (nI 3)) rfl ?_
  refine lv_iadd hx hb d_L_law_1094 ?_
  refine tq_ti (show _ = (nI (7 * n + 3)) from nI_add _ _) ?_
  refine tq_sld hx hb hXs hbl hS (show 7 * n + 3 < L by omega) hL2 d_L_law_1095 ?_
  refine lv_aload_n hx hb d_L_law_1096 rfl (lv_at hl 4 rfl) ?_
  refine tl_L (F2 := aSz s.heap.size) ⟨hx, hb, hml, hown, hts⟩ hT hCx lh_L_122 wl_mv ⟨⟨⟨⟨hK, hg, hX, lad_D _, hCI⟩, hKB, kc_S hKC0 hS, fun j hj => (lad_in hj).1⟩, wE_S hE0 hS⟩, hA, fun k hk => lad_ne hk⟩ (fun _ h => lF_in h) rfl hl.1 rfl (Nat.le_of_ble_eq_true rfl) d_L_law_1097 ⟨rfl, rfl, Nat.le_of_ble_eq_true rfl, Nat.le_of_ble_eq_true rfl⟩ hf hS.2.2 (fun v9 H1 locs1 hF9 hL9 => ?_)
  obtain ⟨rfl, tc1, td1, tn1, o1, hX1, hg1, hCI1, hA1, hr1, hO1⟩ := hF9
  have hS1 := lS_st hS hO1 hL9
  have hM1 := tm_lO hM hO1
  refine lv_istore hx hb d_L_law_1100 hl (by decide) (lv' := [(5, .int rs.1), (4, .int (nI (7 * n))), (0, .ref b), (1, .ref (lad s.heap.size 0)), (2, .ref (lam s.heap.size 0)), (3, .ref (lao s.heap.size))]) rfl (fun ls hl => ?_)
  refine lv_aload_n hx hb d_L_law_1102 rfl (lv_at hl 4 rfl) ?_
  refine lv_aload_n hx hb d_L_law_1103 rfl (lv_at hl 2 rfl) ?_
  refine lv_iload hx hb d_L_law_1104 (lv_at hl 1 rfl) ?_
  refine lv_iconst hx hb d_L_law_1106 (v := (nI 1)) rfl ?_
  refine lv_iadd hx hb d_L_law_1107 ?_
  refine tq_ti (show _ = (nI (7 * n + 1)) from nI_add _ _) ?_
  refine tq_sld hx hb hXs hbl hS1 (show 7 * n + 1 < L by omega) hL2 d_L_law_1108 ?_
  refine lv_aload_n hx hb d_L_law_1109 rfl (lv_at hl 2 rfl) ?_
  refine lv_iload hx hb d_L_law_1110 (lv_at hl 1 rfl) ?_
  refine lv_iconst hx hb d_L_law_1112 (v := (nI 2)) rfl ?_
  refine lv_iadd hx hb d_L_law_1113 ?_
  refine tq_ti (show _ = (nI (7 * n + 2)) from nI_add _ _) ?_
  refine tq_sld hx hb hXs hbl hS1 (show 7 * n + 2 < L by omega) hL2 d_L_law_1114 ?_
  refine lv_aload_n hx hb d_L_law_1115 rfl (lv_at hl 2 rfl) ?_
  refine lv_iload hx hb d_L_law_1116 (lv_at hl 1 rfl) ?_
  refine lv_iconst hx hb d_L_law_1118 (v := (nI 3)) rfl ?_
  refine lv_iadd hx hb d_L_law_1119 ?_
  refine tq_ti (show _ = (nI (7 * n + 3)) from nI_add _ _) ?_
  refine tq_sld hx hb hXs hbl hS1 (show 7 * n + 3 < L by omega) hL2 d_L_law_1120 ?_
  refine tl_V (F2 := aSz s.heap.size) (fun _ h => mF_in h) ⟨hx, hb, hml, hown, hts⟩ hT hCm lk_L_124 wMD_mv ⟨hK, hg, hM1, lam_D _⟩ (wM_rc hK hM1) rfl hl.1 rfl (Nat.le_of_ble_eq_true rfl) d_L_law_1121 ⟨rfl, rfl, Nat.le_of_ble_eq_true rfl, Nat.le_of_ble_eq_true rfl⟩ hf hS1.2.2 (fun v9 H2 locs2 hF9 hL9 => ?_)
  obtain ⟨b9, rfl, hb9, fo1, sz1, hs1, mi1, hi1, tx1, hM2, hO2⟩ := hF9
  have hX2 := tx_mO hX1 hO2
  have hA2 := lP_mO hA1 hO2
  have hS2 := mS_st hS1 hO2 hL9
  refine lv_istore hx hb d_L_law_1124 hl (by decide) (lv' := [(6, .int b9), (5, .int rs.1), (4, .int (nI (7 * n))), (0, .ref b), (1, .ref (lad s.heap.size 0)), (2, .ref (lam s.heap.size 0)), (3, .ref (lao s.heap.size))]) rfl (fun ls hl => ?_)
  refine lv_aload_n hx hb d_L_law_1126 rfl (lv_at hl 5 rfl) ?_
  refine tq_V ⟨hx, hb, hml, hown, hts⟩ hT (c_M_thrown l D ci (lam s.heap.size) rs.2.2 rs.1 fo1 sz1 hs1 mi1 hi1 tx1) lk_L_75 wM_mv ⟨hK, hg1, hM2⟩ (wM_rc hK hM2) rfl hl.1 rfl (Nat.le_of_ble_eq_true rfl) d_L_law_1127 ⟨rfl, rfl, Nat.le_of_ble_eq_true rfl, Nat.le_of_ble_eq_true rfl⟩ hf ?_
  refine lv_iload hx hb d_L_law_1130 (lv_at hl 1 rfl) ?_
  refine lv_icmp_eq hx hb d_L_law_1132 (tgt := 1137) (by decide) (fun _ => ?_) (fun hno => absurd rfl hno)
  refine lv_iload hx hb d_L_law_1137 (lv_at hl 1 rfl) ?_
  refine lv_if_ne hx hb d_L_law_1139 (tgt := 1154) (by decide) (fun h0 => ?_) (fun h0 => ?_)
  · refine lv_goto hx hb d_L_law_1154 (tgt := 1237) (by decide) ?_
    have hl := lv_sub hl (l' := [(4, .int (nI (7 * n))), (0, .ref b), (1, .ref (lad s.heap.size 0)), (2, .ref (lam s.heap.size 0)), (3, .ref (lao s.heap.size))]) [2, 3, 4, 5, 6] rfl
    exact kk H2 locs2 ls ⟨rs.2.2, tc1, td1, tn1, rs.1, fo1, sz1, hs1, mi1, hi1, tx1, o1, hg1, hX2, hCI1, hM2, hA2, hS2⟩ hl
  · refine lv_aload_n hx hb d_L_law_1142 rfl (lv_at hl 6 rfl) ?_
    refine lv_iconst hx hb d_L_law_1143 (v := (nI 0)) rfl ?_
    refine tq_lald hx hb hK hA2 0 1 rfl rfl (j := 0) (by decide) (by decide) d_L_law_1144 ?_
    refine lv_iload hx hb d_L_law_1145 (lv_at hl 0 rfl) ?_
    refine lv_i2l hx hb d_L_law_1147 (v := b9.toInt64) rfl ?_
    refine W.lcmp hx hb d_L_law_1148 ?_
    refine lv_if_eq hx hb d_L_law_1149 (tgt := 1154) (by decide) (fun _ => ?_) (fun hno => absurd ((lg_cmp_eq _ _).mpr (by rw [hr1 h0, hb9 h0])) hno)
    refine lv_goto hx hb d_L_law_1154 (tgt := 1237) (by decide) ?_
    have hl := lv_sub hl (l' := [(4, .int (nI (7 * n))), (0, .ref b), (1, .ref (lad s.heap.size 0)), (2, .ref (lam s.heap.size 0)), (3, .ref (lao s.heap.size))]) [2, 3, 4, 5, 6] rfl
    exact kk H2 locs2 ls ⟨rs.2.2, tc1, td1, tn1, rs.1, fo1, sz1, hs1, mi1, hi1, tx1, o1, hg1, hX2, hCI1, hM2, hA2, hS2⟩ hl
set_option maxHeartbeats 4000000 in
set_option maxRecDepth 100000 in
theorem lq_above (hx : p.tables.exec = Jvm.exec) (hb : c.code = b_L_law) (hml : c.maxLocals = 8) (hown : s.vm.findClass RL = some m.cls) (hts : ∀ w ∈ lw_tbl, w.before args s = true) (htr : l.stackTraces = false) (hXs : va_X b L xs s s.heap) (hbl : b < s.heap.size) (hL2 : L < 2147483648) (hK : tk D ci s) (hKB : tkB D2 cB s) (hKC0 : kc s.heap.size s s.heap) (hE0 : wE s s.heap) (hI : lJ D ci s H locs) (hn : 7 * n + 7 ≤ L) (hf : cells + 22 ≤ 601024 ∧ slots + 672 ≤ 7293034)
    (kk : ∀ (H1 : Heap) (locs1 : List Loc) (ls1 : Array Slot), lJ D ci s H1 locs1 → lv_has ls1 8 [(4, .int (nI (7 * n))), (0, .ref b), (1, .ref (lad s.heap.size 0)), (2, .ref (lam s.heap.size 0)), (3, .ref (lao s.heap.size))] → W p l e room_1 s m args below meth c H1 locs1 (cells + 22) (slots + 672) Q (F0 m 1237 ls1 [])) {ls : Array Slot} (hl : lv_has ls 8 [(4, .int (nI (7 * n))), (0, .ref b), (1, .ref (lad s.heap.size 0)), (2, .ref (lam s.heap.size 0)), (3, .ref (lao s.heap.size))]) : W p l e room_1 s m args below meth c H locs cells slots Q (F0 m 1157 ls []) := by
  have hT : ∀ w ∈ TT, w ∈ lw_tbl := fun w h => (List.mem_filter.mp h).1
  obtain ⟨g, tc, td, tn, th, fo, sz, hs, mi, hi, tx9, o, hg, hX, hCI, hM, hA, hS⟩ := hI
  obtain ⟨rs, hCx, hCm⟩ := both_above l htr D ci (lad s.heap.size) g tc td tn D2 cB s.heap.size (lao s.heap.size) o (lam s.heap.size) th fo sz hs mi hi tx9 (xs (7 * n + 1)) (xs (7 * n + 2)) (xs (7 * n + 3))
  refine lv_aload_n hx hb d_L_law_1157 rfl (lv_at hl 2 rfl) ?_
  refine lv_aload_n hx hb d_L_law_1158 rfl (lv_at hl 1 rfl) ?_
  refine lv_iload hx hb d_L_law_1159 (lv_at hl 0 rfl) ?_
  refine lv_iconst hx hb d_L_law_1161 (v := (nI 1)) rfl ?_
  refine lv_iadd hx hb d_L_law_1162 ?_
  refine tq_ti (show _ = (nI (7 * n + 1)) from nI_add _ _) ?_
  refine tq_sld hx hb hXs hbl hS (show 7 * n + 1 < L by omega) hL2 d_L_law_1163 ?_
  refine lv_aload_n hx hb d_L_law_1164 rfl (lv_at hl 1 rfl) ?_
  refine lv_iload hx hb d_L_law_1165 (lv_at hl 0 rfl) ?_
  refine lv_iconst hx hb d_L_law_1167 (v := (nI 2)) rfl ?_
  refine lv_iadd hx hb d_L_law_1168 ?_
  refine tq_ti (show _ = (nI (7 * n + 2)) from nI_add _ _) ?_
  refine tq_sld hx hb hXs hbl hS (show 7 * n + 2 < L by omega) hL2 d_L_law_1169 ?_
  refine lv_aload_n hx hb d_L_law_1170 rfl (lv_at hl 1 rfl) ?_
  refine lv_iload hx hb d_L_law_1171 (lv_at hl 0 rfl) ?_
  refine lv_iconst hx hb d_L_law_1173 (v := (nI 3)) rfl ?_
  refine lv_iadd hx hb d_L_law_1174 ?_
  refine tq_ti (show _ = (nI (7 * n + 3)) from nI_add _ _) ?_
  refine tq_sld hx hb hXs hbl hS (show 7 * n + 3 < L by omega) hL2 d_L_law_1175 ?_
  refine lv_aload_n hx hb d_L_law_1176 rfl (lv_at hl 4 rfl) ?_
  refine tl_L (F2 := aSz s.heap.size) ⟨hx, hb, hml, hown, hts⟩ hT hCx lh_L_125 wl_mv ⟨⟨⟨⟨hK, hg, hX, lad_D _, hCI⟩, hKB, kc_S hKC0 hS, fun j hj => (lad_in hj).1⟩, wE_S hE0 hS⟩, hA, fun k hk => lad_ne hk⟩ (fun _ h => lF_in h) rfl hl.1 rfl (Nat.le_of_ble_eq_true rfl) d_L_law_1177 ⟨rfl, rfl, Nat.le_of_ble_eq_true rfl, Nat.le_of_ble_eq_true rfl⟩ hf hS.2.2 (fun v9 H1 locs1 hF9 hL9 => ?_)
  obtain ⟨rfl, tc1, td1, tn1, o1, hX1, hg1, hCI1, hA1, hr1, hO1⟩ := hF9
  have hS1 := lS_st hS hO1 hL9
  have hM1 := tm_lO hM hO1
  refine lv_istore hx hb d_L_law_1180 hl (by decide) (lv' := [(5, .int rs.1), (4, .int (nI (7 * n))), (0, .ref b), (1, .ref (lad s.heap.size 0)), (2, .ref (lam s.heap.size 0)), (3, .ref (lao s.heap.size))]) rfl (fun ls hl => ?_)
  refine lv_aload_n hx hb d_L_law_1182 rfl (lv_at hl 4 rfl) ?_
  refine lv_aload_n hx hb d_L_law_1183 rfl (lv_at hl 2 rfl) ?_
  refine lv_iload hx hb d_L_law_1184 (lv_at hl 1 rfl) ?_
  refine lv_iconst hx hb d_L_law_1186 (v := (nI 1)) rfl ?_
  refine lv_iadd hx hb d_L_law_1187 ?_
  refine tq_ti (show _ = (nI (7 * n + 1)) from nI_add _ _) ?_
  refine tq_sld hx hb hXs hbl hS1 (show 7 * n + 1 < L by omega) hL2 d_L_law_1188 ?_
  refine lv_aload_n hx hb d_L_law_1189 rfl (lv_at hl 2 rfl) ?_
  refine lv_iload hx hb d_L_law_1190 (lv_at hl 1 rfl) ?_
  refine lv_iconst hx hb d_L_law_1192 (v := (nI 2)) rfl ?_
  refine lv_iadd hx hb d_L_law_1193 ?_
  refine tq_ti (show _ = (nI (7 * n + 2)) from nI_add _ _) ?_
  refine tq_sld hx hb hXs hbl hS1 (show 7 * n + 2 < L by omega) hL2 d_L_law_1194 ?_
  refine lv_aload_n hx hb d_L_law_1195 rfl (lv_at hl 2 rfl) ?_
  refine lv_iload hx hb d_L_law_1196 (lv_at hl 1 rfl) ?_
  refine lv_iconst hx hb d_L_law_1198 (v := (nI 3)) rfl ?_
  refine lv_iadd hx hb d_L_law_1199 ?_
  refine tq_ti (show _ = (nI (7 * n + 3)) from nI_add _ _) ?_
  refine tq_sld hx hb hXs hbl hS1 (show 7 * n + 3 < L by omega) hL2 d_L_law_1200 ?_
  refine tl_V (F2 := aSz s.heap.size) (fun _ h => mF_in h) ⟨hx, hb, hml, hown, hts⟩ hT hCm lk_L_127 wMD_mv ⟨hK, hg, hM1, lam_D _⟩ (wM_rc hK hM1) rfl hl.1 rfl (Nat.le_of_ble_eq_true rfl) d_L_law_1201 ⟨rfl, rfl, Nat.le_of_ble_eq_true rfl, Nat.le_of_ble_eq_true rfl⟩ hf hS1.2.2 (fun v9 H2 locs2 hF9 hL9 => ?_)
  obtain ⟨b9, rfl, hb9, fo1, sz1, hs1, mi1, hi1, tx1, hM2, hO2⟩ := hF9
  have hX2 := tx_mO hX1 hO2
  have hA2 := lP_mO hA1 hO2
  have hS2 := mS_st hS1 hO2 hL9
  refine lv_istore hx hb d_L_law_1204 hl (by decide) (lv' := [(6, .int b9), (5, .int rs.1), (4, .int (nI (7 * n))), (0, .ref b), (1, .ref (lad s.heap.size 0)), (2, .ref (lam s.heap.size 0)), (3, .ref (lao s.heap.size))]) rfl (fun ls hl => ?_)
  refine lv_aload_n hx hb d_L_law_1206 rfl (lv_at hl 5 rfl) ?_
  refine tq_V ⟨hx, hb, hml, hown, hts⟩ hT (c_M_thrown l D ci (lam s.heap.size) rs.2.2 rs.1 fo1 sz1 hs1 mi1 hi1 tx1) lk_L_75 wM_mv ⟨hK, hg1, hM2⟩ (wM_rc hK hM2) rfl hl.1 rfl (Nat.le_of_ble_eq_true rfl) d_L_law_1207 ⟨rfl, rfl, Nat.le_of_ble_eq_true rfl, Nat.le_of_ble_eq_true rfl⟩ hf ?_
  refine lv_iload hx hb d_L_law_1210 (lv_at hl 1 rfl) ?_
  refine lv_icmp_eq hx hb d_L_law_1212 (tgt := 1217) (by decide) (fun _ => ?_) (fun hno => absurd rfl hno)
  refine lv_iload hx hb d_L_law_1217 (lv_at hl 1 rfl) ?_
  refine lv_if_ne hx hb d_L_law_1219 (tgt := 1234) (by decide) (fun h0 => ?_) (fun h0 => ?_)
  · refine lv_goto hx hb d_L_law_1234 (tgt := 1237) (by decide) ?_
    have hl := lv_sub hl (l' := [(4, .int (nI (7 * n))), (0, .ref b), (1, .ref (lad s.heap.size 0)), (2, .ref (lam s.heap.size 0)), (3, .ref (lao s.heap.size))]) [2, 3, 4, 5, 6] rfl
    exact kk H2 locs2 ls ⟨rs.2.2, tc1, td1, tn1, rs.1, fo1, sz1, hs1, mi1, hi1, tx1, o1, hg1, hX2, hCI1, hM2, hA2, hS2⟩ hl
  · refine lv_aload_n hx hb d_L_law_1222 rfl (lv_at hl 6 rfl) ?_
    refine lv_iconst hx hb d_L_law_1223 (v := (nI 0)) rfl ?_
    refine tq_lald hx hb hK hA2 0 1 rfl rfl (j := 0) (by decide) (by decide) d_L_law_1224 ?_
    refine lv_iload hx hb d_L_law_1225 (lv_at hl 0 rfl) ?_
    refine lv_i2l hx hb d_L_law_1227 (v := b9.toInt64) rfl ?_
    refine W.lcmp hx hb d_L_law_1228 ?_
    refine lv_if_eq hx hb d_L_law_1229 (tgt := 1234) (by decide) (fun _ => ?_) (fun hno => absurd ((lg_cmp_eq _ _).mpr (by rw [hr1 h0, hb9 h0])) hno)
    refine lv_goto hx hb d_L_law_1234 (tgt := 1237) (by decide) ?_
    have hl := lv_sub hl (l' := [(4, .int (nI (7 * n))), (0, .ref b), (1, .ref (lad s.heap.size 0)), (2, .ref (lam s.heap.size 0)), (3, .ref (lao s.heap.size))]) [2, 3, 4, 5, 6] rfl
    exact kk H2 locs2 ls ⟨rs.2.2, tc1, td1, tn1, rs.1, fo1, sz1, hs1, mi1, hi1, tx1, o1, hg1, hX2, hCI1, hM2, hA2, hS2⟩ hl
end G57
