/-! the law's loop: where its objects lie, what holds at its head -/
def lad (Z : Nat) : Nat → Nat := adX Z (Z + 1)
def lam (Z : Nat) : Nat → Nat := amX (Z + 24) (Z + 25)
def lao (Z : Nat) : Nat := Z + 35
theorem lad_in {Z k : Nat} (hk : k < 24) : Z ≤ lad Z k ∧ lad Z k < Z + 24 := by
  unfold lad adX
  by_cases e : k = 0
  · rw [if_pos e]; omega
  · rw [if_neg e]
    have h : ∀ k, k < 24 → adE k ≤ 22 := by decide +kernel
    have := h k hk
    omega
theorem lam_in {Z k : Nat} (hk : k < 11) : Z + 24 ≤ lam Z k ∧ lam Z k < Z + 35 := by
  unfold lam amX
  by_cases e : k = 0
  · rw [if_pos e]; omega
  · rw [if_neg e]; omega
theorem lad_F {Z q : Nat} (h : txF (lad Z) q) : Z ≤ q ∧ q < Z + 24 := by
  obtain ⟨k, hk, rfl⟩ := h
  exact lad_in hk
theorem lam_F {Z q : Nat} (h : mF (lam Z) q) : Z + 24 ≤ q ∧ q < Z + 35 := by
  obtain ⟨k, hk, rfl⟩ := h
  exact lam_in hk
theorem lF_in {Z q : Nat} (h : lF (lad Z) (lao Z) q) : aSz Z q := by
  rcases h with h | h
  · exact (lad_F h).1
  · rw [h]; show Z ≤ Z + 35; omega
theorem mF_in {Z q : Nat} (h : mF (lam Z) q) : aSz Z q := Nat.le_trans (by omega) (lam_F h).1
theorem lad_D (Z : Nat) : tx_D (lad Z) := adX_D (Nat.lt_succ_self Z)
theorem lam_D (Z : Nat) : mD (lam Z) := amX_D (by omega)
theorem lad_ne {Z k : Nat} (hk : k < 24) : lad Z k ≠ lao Z := by
  have := (lad_in (Z := Z) hk).2
  show lad Z k ≠ Z + 35
  omega
/-- at the loop's head -/
def lJ (D : va_G) (ci : Nat → ClassId) (s : State) (H : Heap) (locs : List Loc) : Prop :=
  ∃ (g : TS) (tc td : Int32) (tn : Nat → Int32) (th fo sz : Int32) (hs mi hi tx9 : Nat → Int32) (o : Nat → Int64), tt_ok g ∧ tx D ci (lad s.heap.size) g tc td tn H ∧ tt_CI g tc td tn ∧ tm D ci (lam s.heap.size) g th fo sz hs mi hi tx9 H ∧ lP D ci (lao s.heap.size) o H ∧ va_S (aSz s.heap.size) s.heap H locs
theorem lS_st {s : State} {H H1 : Heap} {locs locs1 : List Loc} (hS : va_S (aSz s.heap.size) s.heap H locs) (hO : lO (lad s.heap.size) (lao s.heap.size) H H1) (hL : ∀ q ∈ locs1, aSz s.heap.size q.base) : va_S (aSz s.heap.size) s.heap H1 locs1 :=
  ⟨Nat.le_trans hS.1 hO.1, fun q h1 h2 => (hO.2 q (Nat.lt_of_lt_of_le h1 hS.1) (fun z => h2 (lad_F z).1) (fun z => h2 (by rw [z]; show s.heap.size ≤ s.heap.size + 35; omega))).trans (hS.2.1 q h1 h2), hL⟩
theorem mS_st {s : State} {H H1 : Heap} {locs locs1 : List Loc} (hS : va_S (aSz s.heap.size) s.heap H locs) (hO : mO (lam s.heap.size) H H1) (hL : ∀ q ∈ locs1, aSz s.heap.size q.base) : va_S (aSz s.heap.size) s.heap H1 locs1 :=
  ⟨by rw [hO.1]; exact hS.1, fun q h1 h2 => (hO.2 q (fun z => h2 (mF_in z))).trans (hS.2.1 q h1 h2), hL⟩
theorem kc_S {s : State} {H : Heap} {locs : List Loc} (h : kc s.heap.size s s.heap) (hS : va_S (aSz s.heap.size) s.heap H locs) : kc s.heap.size s H := kc_kept h hS.1 (fun q hq => hS.2.1 q hq (Nat.not_le.mpr hq))
theorem wE_S {s : State} {H : Heap} {locs : List Loc} (h : wE s s.heap) (hS : va_S (aSz s.heap.size) s.heap H locs) : wE s H := wE_kept h (fun a cell h1 _ => by
  have hlt : a < s.heap.size := (Array.getElem?_eq_some_iff.mp h1).1
  rw [hS.2.1 a hlt (Nat.not_le.mpr hlt)]
  exact h1)
theorem tm_cell {D : va_G} {ci : Nat → ClassId} {am : Nat → Nat} {g : TS} {th fo sz : Int32} {hs mi hi tx : Nat → Int32} {H : Heap} (h : tm D ci am g th fo sz hs mi hi tx H) {k : Nat} (hk : k < 11) : am k < H.size := by
  match k, hk with
  | 0, _ => exact (h 0 _ rfl).lt
  | 1, _ => exact (h 1 _ rfl).lt
  | 2, _ => exact (h 2 _ rfl).lt
  | 3, _ => exact (h 3 _ rfl).lt
  | 4, _ => exact (h 4 _ rfl).lt
  | 5, _ => exact (h 5 _ rfl).lt
  | 6, _ => exact (h 6 _ rfl).lt
  | 7, _ => exact (h 7 _ rfl).lt
  | 8, _ => exact (h 8 _ rfl).lt
  | 9, _ => exact (h 9 _ rfl).lt
  | 10, _ => exact (h 10 _ rfl).lt
theorem tm_lO {D : va_G} {ci : Nat → ClassId} {Z : Nat} {g : TS} {th fo sz : Int32} {hs mi hi tx : Nat → Int32} {H H1 : Heap} (h : tm D ci (lam Z) g th fo sz hs mi hi tx H) (hO : lO (lad Z) (lao Z) H H1) : tm D ci (lam Z) g th fo sz hs mi hi tx H1 := tm_keep h (fun k hk => hO.2 _ (tm_cell h hk) (fun z => by
    have h1 := (lad_F z).2
    have h2 := (lam_in (Z := Z) hk).1
    omega) (by
    have h2 := (lam_in (Z := Z) hk).2
    show lam Z k ≠ Z + 35
    omega))
theorem tx_mO {D : va_G} {ci : Nat → ClassId} {Z : Nat} {g : TS} {tc td : Int32} {tn : Nat → Int32} {H H1 : Heap} (h : tx D ci (lad Z) g tc td tn H) (hO : mO (lam Z) H H1) : tx D ci (lad Z) g tc td tn H1 := tx_keep h (fun k hk => hO.2 _ (fun z => by
    have h1 := (lam_F z).1
    have h2 := (lad_in (Z := Z) hk).2
    omega))
theorem lP_mO {D : va_G} {ci : Nat → ClassId} {Z : Nat} {o : Nat → Int64} {H H1 : Heap} (h : lP D ci (lao Z) o H) (hO : mO (lam Z) H H1) : lP D ci (lao Z) o H1 := va_P.kept h (fun k x hx => by
  cases k with
  | zero =>
    cases hx
    exact hO.2 _ (fun z => by
      have h1 := (lam_F z).2
      have h2 : lao Z = Z + 35 := rfl
      omega)
  | succ k => cases hx)
section TSL
variable {p : Program} {l : Launch} {e : Env} {R : Room} {s : State} {m : MethodId} {args : Array Value} {below : List Frame} {meth : Method} {c : Code} {H : Heap} {locs : List Loc} {cells slots : Nat} {Q : State → Prop}
variable {pc : Nat} {ls : Array Slot} {rest : List Value} {cc : ByteArray} {b L : Nat} {xs : Nat → Int32}
theorem tq_sld (hexec : p.tables.exec = Jvm.exec) (hb : c.code = cc) (hX : va_X b L xs s s.heap) (hbl : b < s.heap.size) (hS : va_S (aSz s.heap.size) s.heap H locs) {j : Nat} (hj : j < L) (hL : L < 2 ^ 31) (hdg : decode cc pc = .ok (.iaload, 1))
    (kk : W p l e R s m args below meth c H locs cells slots Q (F0 m (pc + 1) ls (.int (xs j) :: rest))) : W p l e R s m args below meth c H locs cells slots Q (F0 m pc ls (.int (nI j) :: .ref b :: rest)) :=
  va_sld hexec hb hX hbl (Nat.not_le.mpr hbl) hS (vp_in_nI hj hL) hdg (by rw [nI_clamp (by omega)]; exact kk)
end TSL
