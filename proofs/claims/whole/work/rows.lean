section
-- ===== PART A: goes FIRST, ahead of the names: the tables' words, and 'selects' of the private methods out of them =====
/-- a private method of a class that the tables say can be made, by its rows of tables_1 -/
def lw_okq (q : MethodName × Nat) : Prop := (q.1.cls ≠ "java/lang/invoke/MethodHandle" ∧ q.1.cls ≠ "java/lang/invoke/VarHandle") ∧ Cond.instantiable q.1.cls q.2 ∈ tables_1 ∧ Cond.privateMethod q.1 ∈ tables_1 ∧ Cond.instanceMethod q.1 ∈ tables_1
theorem lw_p0 : lw_okq (⟨"java/lang/Throwable", "fillInStackTrace", "(I)Ljava/lang/Throwable;"⟩, 6) := ⟨⟨by decide +kernel, by decide +kernel⟩, List.mem_of_getElem? (i := 116) (by decide +kernel), List.mem_of_getElem? (i := 114) (by decide +kernel), List.mem_of_getElem? (i := 115) (by decide +kernel)⟩
theorem lw_p1 : lw_okq (⟨"TideTables", "forgetTurns", "()V"⟩, 10) := ⟨⟨by decide +kernel, by decide +kernel⟩, List.mem_of_getElem? (i := 20) (by decide +kernel), List.mem_of_getElem? (i := 182) (by decide +kernel), List.mem_of_getElem? (i := 183) (by decide +kernel)⟩
theorem lw_p2 : lw_okq (⟨"TideTables", "isMinute", "(I)Z"⟩, 10) := ⟨⟨by decide +kernel, by decide +kernel⟩, List.mem_of_getElem? (i := 20) (by decide +kernel), List.mem_of_getElem? (i := 223) (by decide +kernel), List.mem_of_getElem? (i := 224) (by decide +kernel)⟩
theorem lw_p3 : lw_okq (⟨"TideTables", "yearOf", "(I)I"⟩, 10) := ⟨⟨by decide +kernel, by decide +kernel⟩, List.mem_of_getElem? (i := 20) (by decide +kernel), List.mem_of_getElem? (i := 228) (by decide +kernel), List.mem_of_getElem? (i := 229) (by decide +kernel)⟩
theorem lw_p4 : lw_okq (⟨"TideTables", "positionAt", "(III)J"⟩, 10) := ⟨⟨by decide +kernel, by decide +kernel⟩, List.mem_of_getElem? (i := 20) (by decide +kernel), List.mem_of_getElem? (i := 240) (by decide +kernel), List.mem_of_getElem? (i := 241) (by decide +kernel)⟩
theorem lw_p5 : lw_okq (⟨"TideTables", "heightAt", "(I)I"⟩, 10) := ⟨⟨by decide +kernel, by decide +kernel⟩, List.mem_of_getElem? (i := 20) (by decide +kernel), List.mem_of_getElem? (i := 269) (by decide +kernel), List.mem_of_getElem? (i := 270) (by decide +kernel)⟩
theorem lw_p6 : lw_okq (⟨"TideTables", "partAt", "(III)J"⟩, 10) := ⟨⟨by decide +kernel, by decide +kernel⟩, List.mem_of_getElem? (i := 20) (by decide +kernel), List.mem_of_getElem? (i := 274) (by decide +kernel), List.mem_of_getElem? (i := 275) (by decide +kernel)⟩
theorem lw_p7 : lw_okq (⟨"TideTables", "isDay", "(I)Z"⟩, 10) := ⟨⟨by decide +kernel, by decide +kernel⟩, List.mem_of_getElem? (i := 20) (by decide +kernel), List.mem_of_getElem? (i := 296) (by decide +kernel), List.mem_of_getElem? (i := 297) (by decide +kernel)⟩
theorem lw_p8 : lw_okq (⟨"TideTables", "countTurns", "(I)I"⟩, 10) := ⟨⟨by decide +kernel, by decide +kernel⟩, List.mem_of_getElem? (i := 20) (by decide +kernel), List.mem_of_getElem? (i := 301) (by decide +kernel), List.mem_of_getElem? (i := 302) (by decide +kernel)⟩
theorem lw_p9 : lw_okq (⟨"TideTables", "findTurns", "(I)V"⟩, 10) := ⟨⟨by decide +kernel, by decide +kernel⟩, List.mem_of_getElem? (i := 20) (by decide +kernel), List.mem_of_getElem? (i := 305) (by decide +kernel), List.mem_of_getElem? (i := 306) (by decide +kernel)⟩
theorem lw_p10 : lw_okq (⟨"TideTables", "isExtreme", "(II)Z"⟩, 10) := ⟨⟨by decide +kernel, by decide +kernel⟩, List.mem_of_getElem? (i := 20) (by decide +kernel), List.mem_of_getElem? (i := 316) (by decide +kernel), List.mem_of_getElem? (i := 317) (by decide +kernel)⟩
theorem lw_p11 : lw_okq (⟨"TideTables", "isHigh", "(I)Z"⟩, 10) := ⟨⟨by decide +kernel, by decide +kernel⟩, List.mem_of_getElem? (i := 20) (by decide +kernel), List.mem_of_getElem? (i := 321) (by decide +kernel), List.mem_of_getElem? (i := 322) (by decide +kernel)⟩
theorem lw_p12 : lw_okq (⟨"TideTables", "lineOf", "(I)Ljava/lang/StringBuilder;"⟩, 10) := ⟨⟨by decide +kernel, by decide +kernel⟩, List.mem_of_getElem? (i := 20) (by decide +kernel), List.mem_of_getElem? (i := 333) (by decide +kernel), List.mem_of_getElem? (i := 334) (by decide +kernel)⟩
theorem lw_p13 : lw_okq (⟨"TideTablesModel", "daysBefore", "(I)I"⟩, 14) := ⟨⟨by decide +kernel, by decide +kernel⟩, List.mem_of_getElem? (i := 581) (by decide +kernel), List.mem_of_getElem? (i := 671) (by decide +kernel), List.mem_of_getElem? (i := 672) (by decide +kernel)⟩
theorem lw_p14 : lw_okq (⟨"TideTablesModel", "isMinute", "(I)Z"⟩, 14) := ⟨⟨by decide +kernel, by decide +kernel⟩, List.mem_of_getElem? (i := 581) (by decide +kernel), List.mem_of_getElem? (i := 679) (by decide +kernel), List.mem_of_getElem? (i := 680) (by decide +kernel)⟩
theorem lw_p15 : lw_okq (⟨"TideTablesModel", "yearOfDay", "(I)I"⟩, 14) := ⟨⟨by decide +kernel, by decide +kernel⟩, List.mem_of_getElem? (i := 581) (by decide +kernel), List.mem_of_getElem? (i := 683) (by decide +kernel), List.mem_of_getElem? (i := 684) (by decide +kernel)⟩
def lw_privs_1 : List (MethodName × Nat) := [(⟨"java/lang/Throwable", "fillInStackTrace", "(I)Ljava/lang/Throwable;"⟩, 6), (⟨"TideTables", "forgetTurns", "()V"⟩, 10), (⟨"TideTables", "isMinute", "(I)Z"⟩, 10), (⟨"TideTables", "yearOf", "(I)I"⟩, 10), (⟨"TideTables", "positionAt", "(III)J"⟩, 10), (⟨"TideTables", "heightAt", "(I)I"⟩, 10), (⟨"TideTables", "partAt", "(III)J"⟩, 10), (⟨"TideTables", "isDay", "(I)Z"⟩, 10), (⟨"TideTables", "countTurns", "(I)I"⟩, 10), (⟨"TideTables", "findTurns", "(I)V"⟩, 10), (⟨"TideTables", "isExtreme", "(II)Z"⟩, 10), (⟨"TideTables", "isHigh", "(I)Z"⟩, 10), (⟨"TideTables", "lineOf", "(I)Ljava/lang/StringBuilder;"⟩, 10), (⟨"TideTablesModel", "daysBefore", "(I)I"⟩, 14), (⟨"TideTablesModel", "isMinute", "(I)Z"⟩, 14), (⟨"TideTablesModel", "yearOfDay", "(I)I"⟩, 14)]
theorem lw_r1 : ∀ q ∈ lw_privs_1, lw_okq q := List.forall_mem_cons.mpr ⟨lw_p0, List.forall_mem_cons.mpr ⟨lw_p1, List.forall_mem_cons.mpr ⟨lw_p2, List.forall_mem_cons.mpr ⟨lw_p3, List.forall_mem_cons.mpr ⟨lw_p4, List.forall_mem_cons.mpr ⟨lw_p5, List.forall_mem_cons.mpr ⟨lw_p6, List.forall_mem_cons.mpr ⟨lw_p7, List.forall_mem_cons.mpr ⟨lw_p8, List.forall_mem_cons.mpr ⟨lw_p9, List.forall_mem_cons.mpr ⟨lw_p10, List.forall_mem_cons.mpr ⟨lw_p11, List.forall_mem_cons.mpr ⟨lw_p12, List.forall_mem_cons.mpr ⟨lw_p13, List.forall_mem_cons.mpr ⟨lw_p14, List.forall_mem_cons.mpr ⟨lw_p15, fun _ h => absurd h List.not_mem_nil⟩⟩⟩⟩⟩⟩⟩⟩⟩⟩⟩⟩⟩⟩⟩⟩
theorem lw_p16 : lw_okq (⟨"TideTablesModel", "positionOf", "(III)J"⟩, 14) := ⟨⟨by decide +kernel, by decide +kernel⟩, List.mem_of_getElem? (i := 581) (by decide +kernel), List.mem_of_getElem? (i := 691) (by decide +kernel), List.mem_of_getElem? (i := 692) (by decide +kernel)⟩
theorem lw_p17 : lw_okq (⟨"TideTablesModel", "heightAt", "(I)I"⟩, 14) := ⟨⟨by decide +kernel, by decide +kernel⟩, List.mem_of_getElem? (i := 581) (by decide +kernel), List.mem_of_getElem? (i := 714) (by decide +kernel), List.mem_of_getElem? (i := 715) (by decide +kernel)⟩
theorem lw_p18 : lw_okq (⟨"TideTablesModel", "isDay", "(I)Z"⟩, 14) := ⟨⟨by decide +kernel, by decide +kernel⟩, List.mem_of_getElem? (i := 581) (by decide +kernel), List.mem_of_getElem? (i := 730) (by decide +kernel), List.mem_of_getElem? (i := 731) (by decide +kernel)⟩
theorem lw_p19 : lw_okq (⟨"TideTablesModel", "look", "(I)V"⟩, 14) := ⟨⟨by decide +kernel, by decide +kernel⟩, List.mem_of_getElem? (i := 581) (by decide +kernel), List.mem_of_getElem? (i := 734) (by decide +kernel), List.mem_of_getElem? (i := 735) (by decide +kernel)⟩
theorem lw_p20 : lw_okq (⟨"TideTablesModel", "isExtreme", "(II)Z"⟩, 14) := ⟨⟨by decide +kernel, by decide +kernel⟩, List.mem_of_getElem? (i := 581) (by decide +kernel), List.mem_of_getElem? (i := 742) (by decide +kernel), List.mem_of_getElem? (i := 743) (by decide +kernel)⟩
theorem lw_p21 : lw_okq (⟨"TideTablesModel", "write", "(II)V"⟩, 14) := ⟨⟨by decide +kernel, by decide +kernel⟩, List.mem_of_getElem? (i := 581) (by decide +kernel), List.mem_of_getElem? (i := 750) (by decide +kernel), List.mem_of_getElem? (i := 751) (by decide +kernel)⟩
theorem lw_p22 : lw_okq (⟨"TideTablesModel", "putDigits", "(II)V"⟩, 14) := ⟨⟨by decide +kernel, by decide +kernel⟩, List.mem_of_getElem? (i := 581) (by decide +kernel), List.mem_of_getElem? (i := 754) (by decide +kernel), List.mem_of_getElem? (i := 755) (by decide +kernel)⟩
theorem lw_p23 : lw_okq (⟨"TideTablesModel", "put", "(I)V"⟩, 14) := ⟨⟨by decide +kernel, by decide +kernel⟩, List.mem_of_getElem? (i := 581) (by decide +kernel), List.mem_of_getElem? (i := 758) (by decide +kernel), List.mem_of_getElem? (i := 759) (by decide +kernel)⟩
def lw_privs_2 : List (MethodName × Nat) := [(⟨"TideTablesModel", "positionOf", "(III)J"⟩, 14), (⟨"TideTablesModel", "heightAt", "(I)I"⟩, 14), (⟨"TideTablesModel", "isDay", "(I)Z"⟩, 14), (⟨"TideTablesModel", "look", "(I)V"⟩, 14), (⟨"TideTablesModel", "isExtreme", "(II)Z"⟩, 14), (⟨"TideTablesModel", "write", "(II)V"⟩, 14), (⟨"TideTablesModel", "putDigits", "(II)V"⟩, 14), (⟨"TideTablesModel", "put", "(I)V"⟩, 14)]
theorem lw_r2 : ∀ q ∈ lw_privs_2, lw_okq q := List.forall_mem_cons.mpr ⟨lw_p16, List.forall_mem_cons.mpr ⟨lw_p17, List.forall_mem_cons.mpr ⟨lw_p18, List.forall_mem_cons.mpr ⟨lw_p19, List.forall_mem_cons.mpr ⟨lw_p20, List.forall_mem_cons.mpr ⟨lw_p21, List.forall_mem_cons.mpr ⟨lw_p22, List.forall_mem_cons.mpr ⟨lw_p23, fun _ h => absurd h List.not_mem_nil⟩⟩⟩⟩⟩⟩⟩⟩
def lw_privs : List (MethodName × Nat) := lw_privs_1 ++ (lw_privs_2)
def lw_tbl : List Cond := k2_sels lw_privs ++ tables_1
theorem lw_privs_ok : ∀ q ∈ lw_privs, lw_okq q := by
  show ∀ q ∈ lw_privs_1 ++ (lw_privs_2), lw_okq q
  exact List.forall_mem_append.mpr ⟨lw_r1, lw_r2⟩

/-! ===== BEGIN words of one list among another's, by their places ===== -/
theorem goodIn_r {big : List Cond} (ws : List Cond) (ps : List Nat) (hp : ws = ps.filterMap (fun i => big[i]?)) (h : ws.all goodWord = true) : GoodIn big ws := by
  intro w hw
  have h1 := List.all_eq_true.mp h w hw
  rw [hp] at hw
  obtain ⟨i, -, hi⟩ := List.mem_filterMap.mp hw
  have hm : w ∈ big := by first | exact List.mem_of_getElem? hi | exact List.getElem?_mem hi
  exact ⟨hm, good_of_word h1⟩
theorem goodIn_app {big a b : List Cond} (ha : GoodIn big a) (hb : GoodIn big b) : GoodIn big (a ++ b) := fun w h => (List.mem_append.mp h).elim (ha w) (hb w)
theorem goodIn_ca {big a b : List Cond} {c : Cond} (ha : GoodIn big (c :: a)) (hb : GoodIn big b) : GoodIn big (c :: (a ++ b)) := fun w h => (List.mem_cons.mp h).elim (fun e => ha w (List.mem_cons.mpr (Or.inl e))) (fun h => (List.mem_append.mp h).elim (fun h => ha w (List.mem_cons.mpr (Or.inr h))) (hb w))
theorem goodIn_sub {big ws : List Cond} (hm : ∀ w ∈ ws, w ∈ big) (h : ws.all goodWord = true) : GoodIn big ws := fun w hw => ⟨hm w hw, good_of_word (List.all_eq_true.mp h w hw)⟩
/-! ===== END ===== -/



/-! ===== BEGIN exceptions that leave a method, and their catching by the caller (launches without stack traces) ===== -/
section VXA
/-! The laws vx_back, vx_callV, vx_callS, vx_callSW, vx_throw0, vx_throwS follow proofs of the library, with one case more: JvmDerived/Free/Laws.lean (Back.of_free), Shelf42/LK1.lean (callV, callS), Shelf/KitTraced.lean (throwNew0V, throwNewS). -/
/-- where a method has thrown q: the class by its name, the cell, what was written, the world -/
def vx_T (XC : String → State → State → Prop) (st : State) (q : Addr) (t : State) (mc ms : Nat) (free : Addr → Prop) : Prop :=
  ∃ (E : String) (ce : Cell) (L : List Loc), XC E st t ∧ t.heap[q]? = some ce ∧ ce.vm = .none ∧ st.vm.findClass E = some ce.cls ∧ st.WarmedH t.vm ∧ st.sameButNew ({ t with vm := st.vm } : State) L mc ms ∧ ∀ z ∈ L, free z.base
def vx_Q (Qc : Array Value → State → Outcome → State → Prop) (XC : String → State → State → Prop) (mc ms : Nat) (free : Addr → Prop) : Array Value → State → Outcome → State → Prop := fun a st o t =>
  (Qc a st o t ∧ ∃ L, FrameEnd st o t L mc ms ∧ ∀ q ∈ L, free q.base) ∨ ∃ q, o = .threw q ∧ vx_T XC st q t mc ms free
/-- a callee that returns or throws -/
def vx_Met (l : Launch) (y : MethodName) (ws : List Cond) (rm : Room) (Pc : Array Value → State → Prop) (Qc : Array Value → State → Outcome → State → Prop) (XC : String → State → State → Prop) (mc ms : Nat) (free : Addr → Prop) : Prop :=
  MetFree l y (headSpec ws rm) Pc (fun _ _ _ _ _ => True) (vx_Q Qc XC mc ms free)
def vx_Post (XC : String → State → State → Prop) (mc ms : Nat) (free : Addr → Prop) : Pt → Array Value → Addr → Pt → Prop := fun A a q B =>
  ∃ (g : JFrame) (mk : MethodId) (t : State) (L : List Loc) (E : String) (ce : Cell), B.U.heap = t.heap ∧ B.U.vm = t.vm ∧ XC E (A.U.calling g mk a) t ∧ t.heap[q]? = some ce ∧ ce.vm = .none ∧ A.U.vm.findClass E = some ce.cls ∧ B.locs = A.locs ++ L ∧ (∀ z ∈ L, free z.base) ∧ B.cells = A.cells + mc ∧ B.slots = A.slots + ms
def vx_Back (l : Launch) (R : Room) (p : Program) (e : Env) (below : List Frame) (s : State) (sargs : Array Value) (y : MethodName) (len W9 : Nat)
    (Pre : Pt → Array Value → Prop) (Post : Pt → Array Value → Option Value → Pt → Prop) (PostX : Pt → Array Value → Addr → Pt → Prop) : Prop :=
  ∀ (m : MethodId) (meth : Method) (c : Code) (A : Pt) (g : JFrame) (ig : Instr) (mk : MethodId) (a : Array Value),
    Stand p l e R s m sargs below meth c A.U A.locs A.cells A.slots → g.method = m → g.locals.size = c.maxLocals → decode c.code g.pc = .ok (ig, len) →
    2 * g.monitorRoom + (g.stack.map fun v => v.category).sum ≤ W9 → A.U.methodNamed? y = some mk → Pre A a →
    (∃ (v : Option Value) (B : Pt), Stand p l e R s m sargs below meth c B.U B.locs B.cells B.slots ∧ Post A a v B ∧
      Steps p.tables e below (doInvoke e (A.U.setTop g) [] mk a).1 (B.U.setTop { g with pc := g.pc + len, stack := v.toList ++ g.stack })) ∨
    (∃ (q : Addr) (B : Pt), Stand p l e R s m sargs below meth c B.U B.locs B.cells B.slots ∧ PostX A a q B ∧
      Steps p.tables e below (doInvoke e (A.U.setTop g) [] mk a).1 ((B.U.setTop g).pushFrame (.throwing q)))
section Payer
variable {l : Launch} {R : Room} {p : Program} {e : Env} {below : List Frame} {s : State} {sargs : Array Value} {y : MethodName} {len W9 : Nat}
theorem vx_back {ws : List Cond} {rm : Room} {Pc : Array Value → State → Prop} {Qc : Array Value → State → Outcome → State → Prop} {XC : String → State → State → Prop} {mc ms : Nat} {free : Addr → Prop} {bytes : ByteArray} {maxL : Nat} {ret : Option FieldType}
    (hM : vx_Met l y ws rm Pc Qc XC mc ms free) (hblind : FrameBlind Pc) (hrc : rm.cells = mc) (hrs : rm.slots = ms)
    (hframes : rm.frames + 1 ≤ R.frames) (hlocals : W9 + (maxL + 11) + rm.locals ≤ R.locals)
    (hws : ∀ w ∈ ws, ∀ a' U, s.WarmedH U.vm → w.before a' U = true) (hcode : Cond.code y bytes maxL ret ∈ ws) (hinit : ∀ a' U, s.WarmedH U.vm → (Cond.initialized y.cls).before a' U = true) :
    vx_Back l R p e below s sargs y len W9 (PreOf R mc ms Pc) (PostOf Qc mc ms free) (vx_Post XC mc ms free) := by
  intro m meth c A g ig mk a X hg hsize hdg hW hn hp
  have h1 : (headSpec ws rm).pre.before a A.U = true := atoms_intro fun w hw => hws w hw _ _ X.warmed
  have h2 : (Cond.code y bytes maxL ret).before a A.U = true := hws _ hcode _ _ X.warmed
  have h3 : (Cond.initialized y.cls).before a A.U = true := hinit _ _ X.warmed
  have h4 : A.cells + (headSpec ws rm).room.cells ≤ R.cells := by rw [show (headSpec ws rm).room.cells = mc from hrc]; exact hp.1
  have h5 : A.slots + (headSpec ws rm).room.slots ≤ R.slots := by rw [show (headSpec ws rm).room.slots = ms from hrs]; exact hp.2.1
  have hPc : Pc a (A.U.calling g mk a) := hblind _ _ _ _ hp.2.2
  obtain ⟨U, Ls, c0, s0⟩ := A
  dsimp only [Pt.U, Pt.locs, Pt.cells, Pt.slots] at h1 h2 h3 h4 h5 X hn hPc ⊢
  obtain ⟨methY, cY, hmY, hcY, -, hlY, -, -, -, -⟩ := Cond.code_spec hn h2
  obtain ⟨kY, hkY, -⟩ := className_of_methodNamed hn
  have hinitY : kY.init = .initialized := Cond.initialized_spec (findClass_of_methodNamed hn) hkY h3
  have h : At U g.method c below := by rw [hg]; exact X.here
  have hlocals9 : W9 + (maxL + 11) + (headSpec ws rm).room.locals ≤ R.locals := hlocals
  have happ : (headSpec ws rm).appliesLoose y e.platform (U.calling g mk a) = true :=
    Spec.appliesLoose_calling (g := g) h hdg hn hkY hinitY
      (X.room_calling (g := g) (R' := (headSpec ws rm).room) hsize hmY hcY hframes (by rw [hlY]; omega) h4 h5) h1
  obtain ⟨mid, hmid⟩ := h.above
  have hfr : (U.setTop g).frames = (.java g :: mid) ++ below := by rw [State.frames_setTop' g h.top, hmid]; rfl
  obtain ⟨o, s₂, hsteps, -, hend, hq⟩ := Steps.callFree hM p X.admits X.cas X.clock (acts := []) hfr happ hPc trivial
  have hq' : vx_Q Qc XC mc ms free a (U.calling g mk a) o s₂ := hq
  rw [State.frames_setTop' g h.top] at hend
  obtain ⟨g₀, hg0⟩ := Option.isSome_iff_exists.mp h.top
  obtain ⟨r, hr⟩ := State.topJava?_eq_some.mp hg0
  have hr' : (({ U with heap := s₂.heap, slotsUsed := s₂.slotsUsed } : State).setVm s₂.vm).frames = .java g₀ :: r := hr
  rcases hq' with ⟨hqc, L, hfe, hL⟩ | ⟨q, rfl, E, ce, L, hx, hce, hcv, hcl, hW₂, hsm, hL⟩
  · obtain ⟨⟨v, rfl⟩, hW₂, e2, q2, q3, q4, q5, q6⟩ := id hfe
    have e3 : s₂ = ({ (U.calling g mk a).setFrames s₂.frames with heap := s₂.heap, slotsUsed := s₂.slotsUsed } : State).setVm s₂.vm := by
      have : s₂ = ({ s₂ with vm := (U.calling g mk a).vm } : State).setVm s₂.vm := rfl
      rw [e2] at this
      exact this
    obtain ⟨c₂, i₂, len₂, hc₂, hd₂, hf₂⟩ := hend
    have hW' : U.WarmedH s₂.vm := hW₂
    have hcc : c₂ = c := by
      have h1 : s₂.code? g.method = U.code? g.method := by
        rw [State.code?_eq, State.code?_eq, hW'.alike.method?]
      exact Option.some.inj (hc₂.symm.trans (h1.trans h.code))
    subst hcc
    have hlen : len₂ = len := by rw [hdg] at hd₂; cases hd₂; rfl
    subst hlen
    have hs₂ : s₂ = (({ U with heap := s₂.heap, slotsUsed := s₂.slotsUsed } : State).setVm s₂.vm).setTop { g with pc := g.pc + len₂, stack := v.toList ++ g.stack } := by
      refine e3.trans ?_
      rw [hf₂, State.calling_eq h.top, State.setFrames_setFrames, State.setTop_of_frames _ hr', hr]
      rfl
    have hsame : U.sameButNew ({ U with heap := s₂.heap, slotsUsed := s₂.slotsUsed } : State) L mc ms := by
      refine ⟨?_, q2, q3, q4, q5, q6⟩
      obtain ⟨t, ht, -⟩ := State.frames_cons hr
      show ({ U with heap := s₂.heap, slotsUsed := s₂.slotsUsed } : State) = { U.setFrames U.frames with heap := s₂.heap, slotsUsed := s₂.slotsUsed }
      rw [State.setFrames_self ht]
    subst hg
    refine Or.inl ⟨v, ⟨(({ U with heap := s₂.heap, slotsUsed := s₂.slotsUsed } : State).setVm s₂.vm), Ls ++ L, c0 + mc, s0 + ms⟩,
      ⟨X.admits, X.cas, X.clock, X.frames, X.room, X.hears, X.method, X.code, (X.here.setHeapUsed s₂.heap s₂.slotsUsed).setVm hW'.alike, X.tail, State.WarmedH.trans X.warmed hW', X.limits, X.bytes, X.same.trans (hsame.setVm s.vm)⟩,
      ⟨g, mk, s₂, L, rfl, rfl, hqc, rfl, hL, rfl, rfl⟩, ?_⟩
    show Steps p.tables e below _ ((({ U with heap := s₂.heap, slotsUsed := s₂.slotsUsed } : State).setVm s₂.vm).setTop { g with pc := g.pc + len₂, stack := v.toList ++ g.stack })
    rw [← hs₂]
    exact hsteps
  · obtain ⟨e2, q2, q3, q4, q5, q6⟩ := id hsm
    have e3 : s₂ = ({ (U.calling g mk a).setFrames s₂.frames with heap := s₂.heap, slotsUsed := s₂.slotsUsed } : State).setVm s₂.vm := by
      have : s₂ = ({ s₂ with vm := (U.calling g mk a).vm } : State).setVm s₂.vm := rfl
      rw [e2] at this
      exact this
    have hf₂ : s₂.frames = .throwing q :: .java g :: U.frames.tail := hend
    have hW' : U.WarmedH s₂.vm := hW₂
    have hs₂ : s₂ = ((({ U with heap := s₂.heap, slotsUsed := s₂.slotsUsed } : State).setVm s₂.vm).setTop g).pushFrame (.throwing q) := by
      refine e3.trans ?_
      rw [hf₂, State.calling_eq h.top, State.setFrames_setFrames, State.pushFrame, State.frames_setTop _ hr', State.setTop_of_frames _ hr', State.setFrames_setFrames, hr]
      rfl
    have hsame : U.sameButNew ({ U with heap := s₂.heap, slotsUsed := s₂.slotsUsed } : State) L mc ms := by
      refine ⟨?_, q2, q3, q4, q5, q6⟩
      obtain ⟨t, ht, -⟩ := State.frames_cons hr
      show ({ U with heap := s₂.heap, slotsUsed := s₂.slotsUsed } : State) = { U.setFrames U.frames with heap := s₂.heap, slotsUsed := s₂.slotsUsed }
      rw [State.setFrames_self ht]
    subst hg
    refine Or.inr ⟨q, ⟨(({ U with heap := s₂.heap, slotsUsed := s₂.slotsUsed } : State).setVm s₂.vm), Ls ++ L, c0 + mc, s0 + ms⟩,
      ⟨X.admits, X.cas, X.clock, X.frames, X.room, X.hears, X.method, X.code, (X.here.setHeapUsed s₂.heap s₂.slotsUsed).setVm hW'.alike, X.tail, State.WarmedH.trans X.warmed hW', X.limits, X.bytes, X.same.trans (hsame.setVm s.vm)⟩,
      ⟨g, mk, s₂, L, E, ce, rfl, rfl, hx, hce, hcv, hcl, rfl, hL, rfl, rfl⟩, ?_⟩
    show Steps p.tables e below _ (((({ U with heap := s₂.heap, slotsUsed := s₂.slotsUsed } : State).setVm s₂.vm).setTop g).pushFrame (.throwing q))
    rw [← hs₂]
    exact hsteps
end Payer
section Calls
variable {p : Program} {l : Launch} {e : Env} {R : Room} {s : State} {m : MethodId} {args : Array Value} {below : List Frame} {meth : Method} {c : Code} {T : State} {locs : List Loc} {cells slots : Nat}
theorem vx_callV (X : Stand p l e R s m args below meth c T locs cells slots) (hexec : p.tables.exec = Jvm.exec) {own C : String} {index : Nat} {y : MethodName} {bytes : ByteArray} {maxL : Nat} {ret : Option FieldType}
    (hown : s.vm.findClass own = some m.cls) (hlink : (Cond.methodLink own index y).before args s = true) (hinst : (Cond.instanceMethod y).before args s = true) (hsel : (Cond.selects C y y).before args s = true)
    (hcode : (Cond.code y bytes maxL ret).before args s = true) (hy : y.cls ≠ "java/lang/invoke/MethodHandle" ∧ y.cls ≠ "java/lang/invoke/VarHandle")
    {W9 : Nat} {Pre : Pt → Array Value → Prop} {Post : Pt → Array Value → Option Value → Pt → Prop} {PostX : Pt → Array Value → Addr → Pt → Prop} (hK : vx_Back l R p e below s args y 3 W9 Pre Post PostX)
    {b : Addr} {cellB : Cell} (hcell : T.heap[b]? = some cellB) (hobj : cellB.vm.isStatics = false) (hcls : s.vm.findClass C = some cellB.cls)
    {g : JFrame} (hg : g.method = m) (hsize : g.locals.size = c.maxLocals) {argsL rest : List Value} (hlen : ∀ sig, parseMethodDescriptor y.desc = some sig → argsL.length = sig.parameters.length)
    (hstack : g.stack = argsL.reverse ++ .ref b :: rest) (hW : 2 * g.monitorRoom + (rest.map fun v => v.category).sum ≤ W9) (hdg : decode c.code g.pc = .ok (.invokevirtual index, 3))
    (hpre : ∀ vm₁, s.WarmedH vm₁ → Pre ⟨T.setVm vm₁, locs, cells, slots⟩ (Value.ref b :: argsL).toArray) :
    (∃ (v : Option Value) (vm₁ : Vm) (B : Pt), s.WarmedH vm₁ ∧ Stand p l e R s m args below meth c B.U B.locs B.cells B.slots ∧ Post ⟨T.setVm vm₁, locs, cells, slots⟩ (Value.ref b :: argsL).toArray v B ∧
      ∀ target, Steps p.tables e below (B.U.setTop { g with pc := g.pc + 3, stack := v.toList ++ rest }) target → Steps p.tables e below (T.setTop g) target) ∨
    (∃ (q : Addr) (vm₁ : Vm) (B : Pt), s.WarmedH vm₁ ∧ Stand p l e R s m args below meth c B.U B.locs B.cells B.slots ∧ PostX ⟨T.setVm vm₁, locs, cells, slots⟩ (Value.ref b :: argsL).toArray q B ∧
      Steps p.tables e below (T.setTop g) ((B.U.setTop { g with stack := rest }).pushFrame (.throwing q))) := by
  obtain ⟨mk, methM, hnamed, hmethM, hstM, habM⟩ := Cond.instanceMethod_spec hinst
  obtain ⟨methM', cM, hmethM', -, -, -, -, -, -, hsigM⟩ := Cond.code_spec hnamed hcode
  cases hmethM.symm.trans hmethM'
  obtain ⟨c2, r2, m2, q1, q2, q3, q4, kP, hkP, hkPi⟩ := Cond.selects_spec hsel
  cases hcls.symm.trans q1
  cases (State.methodFound?_of_named hnamed hy).symm.trans q2
  cases hnamed.symm.trans q3
  have hselP : selectMethod e.platform s.vm cellB.cls mk = .method mk := by rw [Launch.admits_selectMethod X.admits]; exact q4
  obtain ⟨vm₁, X₁, hstep₁⟩ := X.invokevirtual hexec hown hlink hnamed hmethM hstM hkP hkPi hy (a := b) (cell := cellB) hcell
    (fun z h => by rw [h] at hobj; cases hobj) hselP hmethM habM hkP hkPi (g := g) hg (argsL := argsL) (rest := rest) (hlen _ hsigM) hstack hdg
  rcases hK m meth c ⟨T.setVm vm₁, locs, cells, slots⟩ { g with stack := rest } (.invokevirtual index) mk (Value.ref b :: argsL).toArray X₁ hg hsize hdg hW (X₁.named hnamed) (hpre vm₁ X₁.warmed) with ⟨v, B, X', hpost, hsteps⟩ | ⟨q, B, X', hpost, hsteps⟩
  · exact Or.inl ⟨v, vm₁, B, X₁.warmed, X', hpost, fun target h => hstep₁ _ fun acts => by rw [doInvoke_state]; exact hsteps.trans h⟩
  · exact Or.inr ⟨q, vm₁, B, X₁.warmed, X', hpost, hstep₁ _ fun acts => by rw [doInvoke_state]; exact hsteps⟩
theorem vx_callS (X : Stand p l e R s m args below meth c T locs cells slots) (hexec : p.tables.exec = Jvm.exec) {own : String} {index : Nat} {y : MethodName} {bytes : ByteArray} {maxL : Nat} {ret : Option FieldType}
    (hown : s.vm.findClass own = some m.cls) (hlink : (Cond.methodLink own index y).before args s = true) (hstat : (Cond.static y).before args s = true) (hinit : (Cond.initialized y.cls).before args s = true)
    (hcode : (Cond.code y bytes maxL ret).before args s = true) (hy : y.cls ≠ "java/lang/invoke/MethodHandle" ∧ y.cls ≠ "java/lang/invoke/VarHandle")
    {W9 : Nat} {Pre : Pt → Array Value → Prop} {Post : Pt → Array Value → Option Value → Pt → Prop} {PostX : Pt → Array Value → Addr → Pt → Prop} (hK : vx_Back l R p e below s args y 3 W9 Pre Post PostX)
    {g : JFrame} (hg : g.method = m) (hsize : g.locals.size = c.maxLocals) {argsL rest : List Value} (hlen : ∀ sig, parseMethodDescriptor y.desc = some sig → argsL.length = sig.parameters.length)
    (hstack : g.stack = argsL.reverse ++ rest) (hW : 2 * g.monitorRoom + (rest.map fun v => v.category).sum ≤ W9) (hdg : decode c.code g.pc = .ok (.invokestatic index, 3))
    (hpre : ∀ vm₁, s.WarmedH vm₁ → Pre ⟨T.setVm vm₁, locs, cells, slots⟩ argsL.toArray) :
    (∃ (v : Option Value) (vm₁ : Vm) (B : Pt), s.WarmedH vm₁ ∧ Stand p l e R s m args below meth c B.U B.locs B.cells B.slots ∧ Post ⟨T.setVm vm₁, locs, cells, slots⟩ argsL.toArray v B ∧
      ∀ target, Steps p.tables e below (B.U.setTop { g with pc := g.pc + 3, stack := v.toList ++ rest }) target → Steps p.tables e below (T.setTop g) target) ∨
    (∃ (q : Addr) (vm₁ : Vm) (B : Pt), s.WarmedH vm₁ ∧ Stand p l e R s m args below meth c B.U B.locs B.cells B.slots ∧ PostX ⟨T.setVm vm₁, locs, cells, slots⟩ argsL.toArray q B ∧
      Steps p.tables e below (T.setTop g) ((B.U.setTop { g with stack := rest }).pushFrame (.throwing q))) := by
  obtain ⟨mk, hnamed⟩ := Cond.code_named hcode
  obtain ⟨methM, cM, hmethM, -, -, -, -, -, -, hsigM⟩ := Cond.code_spec hnamed hcode
  have hstatic : methM.isStatic = true := Cond.static_spec hnamed hmethM hstat
  obtain ⟨kP, hkP, -⟩ := className_of_methodNamed hnamed
  have hinitP : kP.init = .initialized := Cond.initialized_spec (findClass_of_methodNamed hnamed) hkP hinit
  obtain ⟨vm₁, X₁, hstep₁⟩ := X.invokestatic hexec hown hlink hnamed hmethM hstatic hkP hinitP hy (g := g) hg (argsL := argsL) (rest := rest) (hlen _ hsigM) hstack hdg
  rcases hK m meth c ⟨T.setVm vm₁, locs, cells, slots⟩ { g with stack := rest } (.invokestatic index) mk argsL.toArray X₁ hg hsize hdg hW (X₁.named hnamed) (hpre vm₁ X₁.warmed) with ⟨v, B, X', hpost, hsteps⟩ | ⟨q, B, X', hpost, hsteps⟩
  · exact Or.inl ⟨v, vm₁, B, X₁.warmed, X', hpost, fun target h => hstep₁ _ fun acts => by rw [doInvoke_state]; exact hsteps.trans h⟩
  · exact Or.inr ⟨q, vm₁, B, X₁.warmed, X', hpost, hstep₁ _ fun acts => by rw [doInvoke_state]; exact hsteps⟩
end Calls
theorem vx_cls {s : State} {T : State} {vm₁ : Vm} {E : String} {k : ClassId} (hW : s.WarmedH vm₁) (h : (T.setVm vm₁).vm.findClass E = some k) : s.vm.findClass E = some k := by
  have h1 : vm₁.findClass E = some k := h
  rw [hW.alike.findClass] at h1
  exact h1
/-- the method's frame g, with q thrown over it -/
def vx_W (p : Program) (l : Launch) (e : Env) (R : Room) (s : State) (m : MethodId) (args : Array Value) (below : List Frame) (meth : Method) (c : Code) (H : Heap) (locs : List Loc) (cells slots : Nat) (Q : State → Prop) (g : JFrame) (q : Addr) : Prop :=
  ∀ T : State, T.heap = H → Stand p l e R s m args below meth c T locs cells slots → ∃ t, Steps p.tables e below ((T.setTop g).pushFrame (.throwing q)) t ∧ Q t
def vx_Run (p : Program) (l : Launch) (e : Env) (R : Room) (s : State) (m : MethodId) (args : Array Value) (below : List Frame) (meth : Method) (c : Code) (H : Heap) (locs : List Loc) (cells slots mc ms : Nat) (g : JFrame) (rest : List Value) (Qa : State → Outcome → State → Prop) (XC : String → State → State → Prop) (free : Addr → Prop) : Prop :=
  ∀ T : State, T.heap = H → Stand p l e R s m args below meth c T locs cells slots →
    (∃ (v : Option Value) (st₀ t T' : State) (L : List Loc), st₀.heap = H ∧ Stand p l e R s m args below meth c T' (locs ++ L) (cells + mc) (slots + ms) ∧ (∀ q ∈ L, free q.base) ∧ T'.heap = t.heap ∧ T'.vm = t.vm ∧ Qa st₀ (.returned v) t ∧
      Goes p e below T g T' { g with pc := g.pc + 3, stack := v.toList ++ rest }) ∨
    (∃ (q : Addr) (st₀ t T' : State) (L : List Loc) (E : String) (ce : Cell), st₀.heap = H ∧ Stand p l e R s m args below meth c T' (locs ++ L) (cells + mc) (slots + ms) ∧ (∀ z ∈ L, free z.base) ∧ T'.heap = t.heap ∧ T'.vm = t.vm ∧ XC E st₀ t ∧ t.heap[q]? = some ce ∧ ce.vm = .none ∧ s.vm.findClass E = some ce.cls ∧
      Steps p.tables e below (T.setTop g) ((T'.setTop { g with stack := rest }).pushFrame (.throwing q)))
def vx_X {S : Type} (px : S → Prop) (B : String → S → State → Prop) (A : Nat → Prop) : String → State → State → Prop := fun E st t => ∃ u : S, px u ∧ B E u t ∧ va_F A st t
section Runs
variable {p : Program} {l : Launch} {e : Env} {R : Room} {s : State} {m : MethodId} {args : Array Value} {below : List Frame} {meth : Method} {c : Code} {H : Heap} {locs : List Loc} {cells slots : Nat}
variable {y : MethodName} {bytes cc : ByteArray} {maxL nL mc ms n index : Nat} {ret : Option FieldType} {ws : List Cond} {rm : Room} {Pc : Array Value → State → Prop} {Qc : Array Value → State → Outcome → State → Prop} {XC : String → State → State → Prop} {free : Addr → Prop} {Ts : List Cond} {own C : String} {b : Addr} {As rest : List Value} {g : JFrame}
theorem vx_callBack (cb : CallB R s args own index y bytes maxL ret ws rm mc ms n) (hM : vx_Met l y ws rm Pc Qc XC mc ms free) (hbl : FrameBlind Pc) : vx_Back l R p e below s args y 3 8 (PreOf R mc ms Pc) (PostOf Qc mc ms free) (vx_Post XC mc ms free) := by
  obtain ⟨hrc, hrs, hfr, hlo, hws, hcw, -, hini, -⟩ := cb
  exact vx_back (bytes := bytes) (maxL := maxL) (ret := ret) hM hbl hrc hrs hfr hlo hws hcw (fun a' U hW => word_at hW (Or.inl (by first | rfl | simp [Cond.onTables, Cond.keeps, Cond.steady])) hini)
theorem vx_runV (S : CallFix p m c cc nL s args Ts own) (hM : vx_Met l y ws rm Pc Qc XC mc ms free) (cw : CallW R s args own C index y bytes maxL ret ws rm mc ms n) (hp : PreV s H C b Pc As)
    (hg : g.method = m) (hn : As.length = n) (hsize : g.locals.size = nL) (hstack : g.stack = As.reverse ++ .ref b :: rest) (hW : 2 * g.monitorRoom + (rest.map fun v => v.category).sum ≤ 8) (hdg : decode cc g.pc = .ok (.invokevirtual index, 3)) (hf : cells + mc ≤ R.cells ∧ slots + ms ≤ R.slots) :
    vx_Run p l e R s m args below meth c H locs cells slots mc ms g rest (Qc (Value.ref b :: As).toArray) XC free := by
  have hK : vx_Back l R p e below s args y 3 8 (PreOf R mc ms Pc) (PostOf Qc mc ms free) (vx_Post XC mc ms free) := vx_callBack cw.1 hM hp.1
  obtain ⟨⟨-, -, -, -, -, -, hcode, -, hy, hlen, hl⟩, hin, hse⟩ := cw
  obtain ⟨hx, hb, hml, ho, -⟩ := S
  obtain ⟨-, ⟨cellB, hcB, hoB, hclB⟩, hPc⟩ := hp
  intro T hT X
  rcases vx_callV X hx (C := C) (bytes := bytes) (maxL := maxL) (ret := ret) ho hl hin hse hcode hy hK (by rw [hT]; exact hcB) hoB hclB hg (hsize.trans hml.symm) (argsL := As) (rest := rest) (fun sig h => hn.trans (hlen sig h)) hstack hW (by rw [hb]; exact hdg)
    (fun vm₁ hW₁ => ⟨hf.1, hf.2, hPc (T.setVm vm₁) hT hW₁⟩) with ⟨v, vm₁, ⟨U', l2, c2, s2⟩, hW₁, X', ⟨g', mk, t, L, e1, e2, hq, h1, hL, h2, h3⟩, st⟩ | ⟨q, vm₁, ⟨U', l2, c2, s2⟩, hW₁, X', ⟨g', mk, t, L, E, ce, e1, e2, hq, hce, hcv, hcl, h1, hL, h2, h3⟩, st⟩
  · dsimp only [Pt.U, Pt.locs, Pt.cells, Pt.slots] at X' e1 e2 h1 h2 h3 st
    subst h1; subst h2; subst h3
    exact Or.inl ⟨v, (T.setVm vm₁).calling g' mk (Value.ref b :: As).toArray, t, U', L, hT, X', hL, e1, e2, hq, st⟩
  · dsimp only [Pt.U, Pt.locs, Pt.cells, Pt.slots] at X' e1 e2 h1 h2 h3 st hcl
    subst h1; subst h2; subst h3
    exact Or.inr ⟨q, (T.setVm vm₁).calling g' mk (Value.ref b :: As).toArray, t, U', L, E, ce, hT, X', hL, e1, e2, hq, hce, hcv, vx_cls hW₁ hcl, st⟩
theorem vx_runS (S : CallFix p m c cc nL s args Ts own) (hM : vx_Met l y ws rm Pc Qc XC mc ms free) (cw : CallB R s args own index y bytes maxL ret ws rm mc ms n ∧ (Cond.static y).before args s = true) (hp : PreS s H Pc As)
    (hg : g.method = m) (hn : As.length = n) (hsize : g.locals.size = nL) (hstack : g.stack = As.reverse ++ rest) (hW : 2 * g.monitorRoom + (rest.map fun v => v.category).sum ≤ 8) (hdg : decode cc g.pc = .ok (.invokestatic index, 3)) (hf : cells + mc ≤ R.cells ∧ slots + ms ≤ R.slots) :
    vx_Run p l e R s m args below meth c H locs cells slots mc ms g rest (Qc As.toArray) XC free := by
  have hK : vx_Back l R p e below s args y 3 8 (PreOf R mc ms Pc) (PostOf Qc mc ms free) (vx_Post XC mc ms free) := vx_callBack cw.1 hM hp.1
  obtain ⟨⟨-, -, -, -, -, -, hcode, hini, hy, hlen, hl⟩, hstt⟩ := cw
  obtain ⟨hx, hb, hml, ho, -⟩ := S
  intro T hT X
  rcases vx_callS X hx (bytes := bytes) (maxL := maxL) (ret := ret) ho hl hstt hini hcode hy hK hg (hsize.trans hml.symm) (argsL := As) (rest := rest) (fun sig h => hn.trans (hlen sig h)) hstack hW (by rw [hb]; exact hdg)
    (fun vm₁ hW₁ => ⟨hf.1, hf.2, hp.2 (T.setVm vm₁) hT hW₁⟩) with ⟨v, vm₁, ⟨U', l2, c2, s2⟩, hW₁, X', ⟨g', mk, t, L, e1, e2, hq, h1, hL, h2, h3⟩, st⟩ | ⟨q, vm₁, ⟨U', l2, c2, s2⟩, hW₁, X', ⟨g', mk, t, L, E, ce, e1, e2, hq, hce, hcv, hcl, h1, hL, h2, h3⟩, st⟩
  · dsimp only [Pt.U, Pt.locs, Pt.cells, Pt.slots] at X' e1 e2 h1 h2 h3 st
    subst h1; subst h2; subst h3
    exact Or.inl ⟨v, (T.setVm vm₁).calling g' mk As.toArray, t, U', L, hT, X', hL, e1, e2, hq, st⟩
  · dsimp only [Pt.U, Pt.locs, Pt.cells, Pt.slots] at X' e1 e2 h1 h2 h3 st hcl
    subst h1; subst h2; subst h3
    exact Or.inr ⟨q, (T.setVm vm₁).calling g' mk As.toArray, t, U', L, E, ce, hT, X', hL, e1, e2, hq, hce, hcv, vx_cls hW₁ hcl, st⟩
end Runs
section Rows
variable {p : Program} {l : Launch} {e : Env} {R : Room} {s : State} {m : MethodId} {args : Array Value} {below : List Frame} {meth : Method} {c : Code} {H : Heap} {locs : List Loc} {cells slots : Nat} {Q : State → Prop}
variable {mc ms : Nat} {free : Addr → Prop} {A0 A1 : Nat → Prop} {H0 : Heap} {a : Array Value} {pc : Nat} {ls : Array Slot} {st0 rest : List Value}
theorem vx_keep {st₀ t T' : State} {L : List Loc} (h0 : st₀.heap = H) (e1 : T'.heap = t.heap) (hS : va_S A0 H0 H locs) (hA : ∀ q, q < H.size → A1 q → A0 q) (hf : ∀ q, free q → A0 q) (hL : ∀ q ∈ L, free q.base) (hF : va_F A1 st₀ t) :
    H.size ≤ T'.heap.size ∧ (∀ q : Nat, q < H.size → ¬ A1 q → T'.heap[q]? = H[q]?) ∧ va_S A0 H0 T'.heap (locs ++ L) := by
  obtain ⟨hz, hk⟩ := hF
  rw [h0] at hz hk
  exact ⟨by rw [e1]; exact hz, fun q h1 h2 => by rw [e1]; exact hk q h1 h2,
    ⟨Nat.le_trans hS.1 (by rw [e1]; exact hz), fun q h1 h2 => by rw [e1, hk q (Nat.lt_of_lt_of_le h1 hS.1) (fun z => h2 (hA q (Nat.lt_of_lt_of_le h1 hS.1) z))]; exact hS.2.1 q h1 h2, fun q hq => by
      rcases List.mem_append.mp hq with h | h
      · exact hS.2.2 q h
      · exact hf _ (hL q h)⟩⟩
theorem vx_calli {S SX : Type} {post : Int32 → S → Prop} {px : SX → Prop} {B : S → State → Prop} {BX : String → SX → State → Prop} {AX : Nat → Prop} (hr : vx_Run p l e R s m args below meth c H locs cells slots mc ms (F0 m pc ls st0) rest (va_Qi post B A1 a) (vx_X px BX AX) free) (hS : va_S A0 H0 H locs) (hA : ∀ q, q < H.size → A1 q → A0 q) (hf : ∀ q, free q → A0 q) (hAX : ∀ q, q < H.size → AX q → A0 q)
    (kx : ∀ (E : String) (ce : Cell) (q9 : Addr) (u : SX) (t : State) (H1 : Heap) (locs1 : List Loc), t.heap = H1 → s.vm.Alike t.vm → px u → BX E u t → H.size ≤ H1.size → (∀ q : Nat, q < H.size → ¬ AX q → H1[q]? = H[q]?) → va_S A0 H0 H1 locs1 → H1[q9]? = some ce → ce.vm = .none → s.vm.findClass E = some ce.cls → vx_W p l e R s m args below meth c H1 locs1 (cells + mc) (slots + ms) Q (F0 m pc ls rest) q9)
    (kk : ∀ (r : Int32) (u : S) (t : State) (H1 : Heap) (locs1 : List Loc), t.heap = H1 → s.vm.Alike t.vm → post r u → B u t → H.size ≤ H1.size → (∀ q : Nat, q < H.size → ¬ A1 q → H1[q]? = H[q]?) → va_S A0 H0 H1 locs1 → W p l e R s m args below meth c H1 locs1 (cells + mc) (slots + ms) Q (F0 m (pc + 3) ls (.int r :: rest))) : W p l e R s m args below meth c H locs cells slots Q (F0 m pc ls st0) := by
  intro T hT X
  rcases hr T hT X with ⟨v, st₀, t, T', L, h0, X', hL, e1, e2, ⟨⟨r, u, hv, hp, hb⟩, hF⟩, st⟩ | ⟨q, st₀, t, T', L, E, ce, h0, X', hL, e1, e2, ⟨u, hp, hb, hF⟩, hce, hcv, hcl, st⟩
  · cases hv
    obtain ⟨k1, k2, k3⟩ := vx_keep h0 e1 hS hA hf hL hF
    obtain ⟨t2, a1, b1⟩ := kk r u t T'.heap (locs ++ L) e1.symm (by rw [← e2]; exact X'.warmed.alike) hp hb k1 k2 k3 T' rfl X'
    exact ⟨t2, st t2 a1, b1⟩
  · obtain ⟨k1, k2, k3⟩ := vx_keep h0 e1 hS hAX hf hL hF
    obtain ⟨t2, a1, b1⟩ := kx E ce q u t T'.heap (locs ++ L) e1.symm (by rw [← e2]; exact X'.warmed.alike) hp hb k1 k2 k3 (by rw [e1]; exact hce) hcv hcl T' rfl X'
    exact ⟨t2, st.trans a1, b1⟩
theorem vx_calll {S SX : Type} {post : Int64 → S → Prop} {px : SX → Prop} {B : S → State → Prop} {BX : String → SX → State → Prop} {AX : Nat → Prop} (hr : vx_Run p l e R s m args below meth c H locs cells slots mc ms (F0 m pc ls st0) rest (va_Ql post B A1 a) (vx_X px BX AX) free) (hS : va_S A0 H0 H locs) (hA : ∀ q, q < H.size → A1 q → A0 q) (hf : ∀ q, free q → A0 q) (hAX : ∀ q, q < H.size → AX q → A0 q)
    (kx : ∀ (E : String) (ce : Cell) (q9 : Addr) (u : SX) (t : State) (H1 : Heap) (locs1 : List Loc), t.heap = H1 → s.vm.Alike t.vm → px u → BX E u t → H.size ≤ H1.size → (∀ q : Nat, q < H.size → ¬ AX q → H1[q]? = H[q]?) → va_S A0 H0 H1 locs1 → H1[q9]? = some ce → ce.vm = .none → s.vm.findClass E = some ce.cls → vx_W p l e R s m args below meth c H1 locs1 (cells + mc) (slots + ms) Q (F0 m pc ls rest) q9)
    (kk : ∀ (r : Int64) (u : S) (t : State) (H1 : Heap) (locs1 : List Loc), t.heap = H1 → s.vm.Alike t.vm → post r u → B u t → H.size ≤ H1.size → (∀ q : Nat, q < H.size → ¬ A1 q → H1[q]? = H[q]?) → va_S A0 H0 H1 locs1 → W p l e R s m args below meth c H1 locs1 (cells + mc) (slots + ms) Q (F0 m (pc + 3) ls (.long r :: rest))) : W p l e R s m args below meth c H locs cells slots Q (F0 m pc ls st0) := by
  intro T hT X
  rcases hr T hT X with ⟨v, st₀, t, T', L, h0, X', hL, e1, e2, ⟨⟨r, u, hv, hp, hb⟩, hF⟩, st⟩ | ⟨q, st₀, t, T', L, E, ce, h0, X', hL, e1, e2, ⟨u, hp, hb, hF⟩, hce, hcv, hcl, st⟩
  · cases hv
    obtain ⟨k1, k2, k3⟩ := vx_keep h0 e1 hS hA hf hL hF
    obtain ⟨t2, a1, b1⟩ := kk r u t T'.heap (locs ++ L) e1.symm (by rw [← e2]; exact X'.warmed.alike) hp hb k1 k2 k3 T' rfl X'
    exact ⟨t2, st t2 a1, b1⟩
  · obtain ⟨k1, k2, k3⟩ := vx_keep h0 e1 hS hAX hf hL hF
    obtain ⟨t2, a1, b1⟩ := kx E ce q u t T'.heap (locs ++ L) e1.symm (by rw [← e2]; exact X'.warmed.alike) hp hb k1 k2 k3 (by rw [e1]; exact hce) hcv hcl T' rfl X'
    exact ⟨t2, st.trans a1, b1⟩
theorem vx_callf {S SX : Type} {post : UInt32 → S → Prop} {px : SX → Prop} {B : S → State → Prop} {BX : String → SX → State → Prop} {AX : Nat → Prop} (hr : vx_Run p l e R s m args below meth c H locs cells slots mc ms (F0 m pc ls st0) rest (va_Qf post B A1 a) (vx_X px BX AX) free) (hS : va_S A0 H0 H locs) (hA : ∀ q, q < H.size → A1 q → A0 q) (hf : ∀ q, free q → A0 q) (hAX : ∀ q, q < H.size → AX q → A0 q)
    (kx : ∀ (E : String) (ce : Cell) (q9 : Addr) (u : SX) (t : State) (H1 : Heap) (locs1 : List Loc), t.heap = H1 → s.vm.Alike t.vm → px u → BX E u t → H.size ≤ H1.size → (∀ q : Nat, q < H.size → ¬ AX q → H1[q]? = H[q]?) → va_S A0 H0 H1 locs1 → H1[q9]? = some ce → ce.vm = .none → s.vm.findClass E = some ce.cls → vx_W p l e R s m args below meth c H1 locs1 (cells + mc) (slots + ms) Q (F0 m pc ls rest) q9)
    (kk : ∀ (r : UInt32) (u : S) (t : State) (H1 : Heap) (locs1 : List Loc), t.heap = H1 → s.vm.Alike t.vm → post r u → B u t → H.size ≤ H1.size → (∀ q : Nat, q < H.size → ¬ A1 q → H1[q]? = H[q]?) → va_S A0 H0 H1 locs1 → W p l e R s m args below meth c H1 locs1 (cells + mc) (slots + ms) Q (F0 m (pc + 3) ls (.float r :: rest))) : W p l e R s m args below meth c H locs cells slots Q (F0 m pc ls st0) := by
  intro T hT X
  rcases hr T hT X with ⟨v, st₀, t, T', L, h0, X', hL, e1, e2, ⟨⟨r, u, hv, hp, hb⟩, hF⟩, st⟩ | ⟨q, st₀, t, T', L, E, ce, h0, X', hL, e1, e2, ⟨u, hp, hb, hF⟩, hce, hcv, hcl, st⟩
  · cases hv
    obtain ⟨k1, k2, k3⟩ := vx_keep h0 e1 hS hA hf hL hF
    obtain ⟨t2, a1, b1⟩ := kk r u t T'.heap (locs ++ L) e1.symm (by rw [← e2]; exact X'.warmed.alike) hp hb k1 k2 k3 T' rfl X'
    exact ⟨t2, st t2 a1, b1⟩
  · obtain ⟨k1, k2, k3⟩ := vx_keep h0 e1 hS hAX hf hL hF
    obtain ⟨t2, a1, b1⟩ := kx E ce q u t T'.heap (locs ++ L) e1.symm (by rw [← e2]; exact X'.warmed.alike) hp hb k1 k2 k3 (by rw [e1]; exact hce) hcv hcl T' rfl X'
    exact ⟨t2, st.trans a1, b1⟩
theorem vx_calld {S SX : Type} {post : UInt64 → S → Prop} {px : SX → Prop} {B : S → State → Prop} {BX : String → SX → State → Prop} {AX : Nat → Prop} (hr : vx_Run p l e R s m args below meth c H locs cells slots mc ms (F0 m pc ls st0) rest (va_Qd post B A1 a) (vx_X px BX AX) free) (hS : va_S A0 H0 H locs) (hA : ∀ q, q < H.size → A1 q → A0 q) (hf : ∀ q, free q → A0 q) (hAX : ∀ q, q < H.size → AX q → A0 q)
    (kx : ∀ (E : String) (ce : Cell) (q9 : Addr) (u : SX) (t : State) (H1 : Heap) (locs1 : List Loc), t.heap = H1 → s.vm.Alike t.vm → px u → BX E u t → H.size ≤ H1.size → (∀ q : Nat, q < H.size → ¬ AX q → H1[q]? = H[q]?) → va_S A0 H0 H1 locs1 → H1[q9]? = some ce → ce.vm = .none → s.vm.findClass E = some ce.cls → vx_W p l e R s m args below meth c H1 locs1 (cells + mc) (slots + ms) Q (F0 m pc ls rest) q9)
    (kk : ∀ (r : UInt64) (u : S) (t : State) (H1 : Heap) (locs1 : List Loc), t.heap = H1 → s.vm.Alike t.vm → post r u → B u t → H.size ≤ H1.size → (∀ q : Nat, q < H.size → ¬ A1 q → H1[q]? = H[q]?) → va_S A0 H0 H1 locs1 → W p l e R s m args below meth c H1 locs1 (cells + mc) (slots + ms) Q (F0 m (pc + 3) ls (.double r :: rest))) : W p l e R s m args below meth c H locs cells slots Q (F0 m pc ls st0) := by
  intro T hT X
  rcases hr T hT X with ⟨v, st₀, t, T', L, h0, X', hL, e1, e2, ⟨⟨r, u, hv, hp, hb⟩, hF⟩, st⟩ | ⟨q, st₀, t, T', L, E, ce, h0, X', hL, e1, e2, ⟨u, hp, hb, hF⟩, hce, hcv, hcl, st⟩
  · cases hv
    obtain ⟨k1, k2, k3⟩ := vx_keep h0 e1 hS hA hf hL hF
    obtain ⟨t2, a1, b1⟩ := kk r u t T'.heap (locs ++ L) e1.symm (by rw [← e2]; exact X'.warmed.alike) hp hb k1 k2 k3 T' rfl X'
    exact ⟨t2, st t2 a1, b1⟩
  · obtain ⟨k1, k2, k3⟩ := vx_keep h0 e1 hS hAX hf hL hF
    obtain ⟨t2, a1, b1⟩ := kx E ce q u t T'.heap (locs ++ L) e1.symm (by rw [← e2]; exact X'.warmed.alike) hp hb k1 k2 k3 (by rw [e1]; exact hce) hcv hcl T' rfl X'
    exact ⟨t2, st.trans a1, b1⟩
theorem vx_callv {S SX : Type} {post : S → Prop} {px : SX → Prop} {B : S → State → Prop} {BX : String → SX → State → Prop} {AX : Nat → Prop} (hr : vx_Run p l e R s m args below meth c H locs cells slots mc ms (F0 m pc ls st0) rest (va_Qv post B A1 a) (vx_X px BX AX) free) (hS : va_S A0 H0 H locs) (hA : ∀ q, q < H.size → A1 q → A0 q) (hf : ∀ q, free q → A0 q) (hAX : ∀ q, q < H.size → AX q → A0 q)
    (kx : ∀ (E : String) (ce : Cell) (q9 : Addr) (u : SX) (t : State) (H1 : Heap) (locs1 : List Loc), t.heap = H1 → s.vm.Alike t.vm → px u → BX E u t → H.size ≤ H1.size → (∀ q : Nat, q < H.size → ¬ AX q → H1[q]? = H[q]?) → va_S A0 H0 H1 locs1 → H1[q9]? = some ce → ce.vm = .none → s.vm.findClass E = some ce.cls → vx_W p l e R s m args below meth c H1 locs1 (cells + mc) (slots + ms) Q (F0 m pc ls rest) q9)
    (kk : ∀ (u : S) (t : State) (H1 : Heap) (locs1 : List Loc), t.heap = H1 → s.vm.Alike t.vm → post u → B u t → H.size ≤ H1.size → (∀ q : Nat, q < H.size → ¬ A1 q → H1[q]? = H[q]?) → va_S A0 H0 H1 locs1 → W p l e R s m args below meth c H1 locs1 (cells + mc) (slots + ms) Q (F0 m (pc + 3) ls (rest))) : W p l e R s m args below meth c H locs cells slots Q (F0 m pc ls st0) := by
  intro T hT X
  rcases hr T hT X with ⟨v, st₀, t, T', L, h0, X', hL, e1, e2, ⟨⟨u, hv, hp, hb⟩, hF⟩, st⟩ | ⟨q, st₀, t, T', L, E, ce, h0, X', hL, e1, e2, ⟨u, hp, hb, hF⟩, hce, hcv, hcl, st⟩
  · cases hv
    obtain ⟨k1, k2, k3⟩ := vx_keep h0 e1 hS hA hf hL hF
    obtain ⟨t2, a1, b1⟩ := kk u t T'.heap (locs ++ L) e1.symm (by rw [← e2]; exact X'.warmed.alike) hp hb k1 k2 k3 T' rfl X'
    exact ⟨t2, st t2 a1, b1⟩
  · obtain ⟨k1, k2, k3⟩ := vx_keep h0 e1 hS hAX hf hL hF
    obtain ⟨t2, a1, b1⟩ := kx E ce q u t T'.heap (locs ++ L) e1.symm (by rw [← e2]; exact X'.warmed.alike) hp hb k1 k2 k3 (by rw [e1]; exact hce) hcv hcl T' rfl X'
    exact ⟨t2, st.trans a1, b1⟩
/-- caught by the row x of this method's table; the rows ahead don't take it -/
theorem vx_catch {own name : String} {E : String} {ce : Cell} {q : Addr} (hown : s.vm.findClass own = some m.cls) (pre : List ExceptionTableEntry) (x : ExceptionTableEntry) (suf : List ExceptionTableEntry) (hsplit : c.exceptionTable.toList = pre ++ x :: suf)
    (hpass : ∀ z ∈ pre, covers z pc = false ∨ (z.catchType ≠ 0 ∧ ∃ nm : String, (Cond.classLink own z.catchType nm).before args s = true ∧ va_Nc E nm s)) (hx : covers x pc = true) (h0 : x.catchType ≠ 0)
    (hlink : (Cond.classLink own x.catchType name).before args s = true) (hcast : (Cond.castable E name).before args s = true) (hcell : H[q]? = some ce) (hv : ce.vm = .none) (hcl : s.vm.findClass E = some ce.cls)
    (kk : W p l e R s m args below meth c H locs cells slots Q (F0 m x.handlerPc ls [.ref q])) : vx_W p l e R s m args below meth c H locs cells slots Q (F0 m pc ls rest) q := by
  intro T hT X
  have hpl : e.platform.magicAccessors = ({} : Platform).magicAccessors := by rw [X.admits.platform]
  obtain ⟨c3, c4, hc3, hc4, hasg⟩ := Cond.castable_spec hcast
  cases Option.some.inj (hc3.symm.trans hcl)
  obtain ⟨c5, hc5, hcl5⟩ := Cond.classLink_spec hown hlink e.platform hpl
  cases Option.some.inj (hc4.symm.trans hc5)
  obtain ⟨vm', X', st⟩ := X.thenCaughtThrough q (g := F0 m pc ls rest) rfl (Steps.refl _) (by rw [hT]; exact hcell) (by rw [hv]; rfl) (by obtain ⟨k9, h9, -⟩ := Vm.findClass_spec hcl; exact ⟨k9, h9⟩) pre x suf hsplit
    (fun z hz => by
      rcases hpass z hz with h | ⟨hz0, nm, hl1, hn1⟩
      · exact Or.inl h
      · obtain ⟨c6, hc6, hcl6⟩ := Cond.classLink_spec hown hl1 e.platform hpl
        obtain ⟨a8, b8, h1, h2, h3⟩ := hn1
        cases Option.some.inj (h1.symm.trans hcl)
        cases Option.some.inj (h2.symm.trans hc6)
        exact Or.inr ⟨hz0, _, hcl6, h3⟩) hx (Or.inr ⟨h0, c4, hcl5, hasg⟩)
  obtain ⟨t, a1, b1⟩ := kk (T.setVm vm') hT X'
  exact ⟨t, st.trans a1, b1⟩
end Rows
section Ends
variable {p : Program} {l : Launch} {e : Env} {R : Room} {s : State} {m : MethodId} {args : Array Value} {below : List Frame} {meth : Method} {c : Code} {H : Heap} {locs : List Loc} {cells slots : Nat} {Q : State → Prop}
variable {mc ms : Nat} {free : Addr → Prop} {A0 A1 : Nat → Prop} {H0 : Heap} {a : Array Value} {ls : Array Slot} {st0 rest : List Value}
variable {Qc : Array Value → State → Outcome → State → Prop} {XC : String → State → State → Prop}
/-- what a body that may throw owes at its end -/
def vx_MQ (below : List Frame) (Qc : Array Value → State → Outcome → State → Prop) (XC : String → State → State → Prop) (a : Array Value) (s : State) (mc ms : Nat) (free : Addr → Prop) : State → Prop := fun t =>
  ∃ o, t.status = .running ∧ Ended t below o ∧ vx_Q Qc XC mc ms free a s o t
theorem vx_ret {g : JFrame} {mc ms : Nat} (k : W p l e R s m args below meth c H locs cells slots (MQ below Qc args s mc ms free) g) : W p l e R s m args below meth c H locs cells slots (vx_MQ below Qc XC args s mc ms free) g := by
  intro T hT X
  obtain ⟨t, a1, o, b1, b2, b3, b4⟩ := k T hT X
  exact ⟨t, a1, o, b1, b2, Or.inl ⟨b3, b4⟩⟩
/-- not caught here: it goes on to the caller -/
theorem vx_widen {g : JFrame} {q : Addr} {k n : Nat} (h1 : cells ≤ k) (h2 : slots ≤ n) (kk : vx_W p l e R s m args below meth c H locs k n Q g q) : vx_W p l e R s m args below meth c H locs cells slots Q g q := fun T hT X => kk T hT (stand_widen X h1 h2)
theorem vx_out {pc : Nat} {E : String} {ce : Cell} {q : Addr} {mc ms : Nat} (hout : ∀ x ∈ c.exceptionTable.toList, covers x pc = false) (hlocks : meth.locks = false) (hcell : H[q]? = some ce) (hv : ce.vm = .none) (hcl : s.vm.findClass E = some ce.cls)
    (hx : ∀ t : State, t.heap = H → s.vm.Alike t.vm → XC E s t) (hf : ∀ z ∈ locs, free z.base) (hc : cells ≤ mc) (hs : slots ≤ ms) :
    vx_W p l e R s m args below meth c H locs cells slots (vx_MQ below Qc XC args s mc ms free) (F0 m pc ls rest) q := by
  intro T hT X
  obtain ⟨st1, hrun, hend, hW, hsm⟩ := X.leaveThrown q (g := F0 m pc ls rest) rfl rfl rfl hout hlocks
  have hcell9 : (T.setFrames (.throwing q :: below)).heap[q]? = some ce := by
    show T.heap[q]? = some ce
    rw [hT]; exact hcell
  exact ⟨_, st1, .threw q, hrun, hend, Or.inr ⟨q, rfl, E, ce, locs, hx _ hT hW.alike, hcell9, hv, hcl, hW, hsm.mono hc hs, hf⟩⟩
theorem vx_frame {U : State} {k n : Nat} (h : s.sameButNew ({ U with vm := s.vm } : State) locs k n) : s.heap.size ≤ U.heap.size ∧ ∀ q : Nat, q < s.heap.size → (∀ z ∈ locs, z.base ≠ q) → U.heap[q]? = s.heap[q]? := by
  obtain ⟨-, h2, -, -, -, h6⟩ := h
  refine ⟨h2, fun q hq hz => ?_⟩
  obtain ⟨c9, e1, e2, e3, e4⟩ := h6 q _ (Array.getElem?_eq_getElem hq)
  have hs : c9.slots = (s.heap[q]).slots := Array.ext_getElem? fun i => e4 i fun hm => hz _ hm rfl
  have h9 : c9 = s.heap[q] := by
    rw [hs] at e2
    exact e2
  have e5 : U.heap[q]? = some c9 := e1
  rw [e5, h9, Array.getElem?_eq_getElem hq]
/-- the words of a throw but the four that speak of the heap -/
def vx_no (w : Cond) : Bool := decide (w ≠ .isRef (.static Bundle.tN "UNASSIGNED_STACK" Bundle.steD)) && decide (w ≠ .isRef (.static Bundle.tN "SUPPRESSED_SENTINEL" Bundle.listD)) && decide (w ≠ .laysStatic Bundle.tN "UNASSIGNED_STACK" Bundle.steD) && decide (w ≠ .laysStatic Bundle.tN "SUPPRESSED_SENTINEL" Bundle.listD)
def vx_at0 (own : String) (ic : Nat) (X : String) (names : List String) : List Cond := (Bundle.ownAtoms0 own ic X names).filter vx_no
def vx_atS (own : String) (ic : Nat) (X : String) (names : List String) : List Cond := (Bundle.ownAtoms own ic X names).filter vx_no
/-- a word that the tables alone decide, or a good one -/
def vx_ot (w : Cond) : Bool := w.onTables || goodWord w
theorem vx_ot_at {args a' : Array Value} {s U : State} {w : Cond} (hW : s.WarmedH U.vm) (hvm : s.vm = U.vm) (hg : vx_ot w = true) (h : w.before args s = true) : w.before a' U = true := by
  simp only [vx_ot, Bool.or_eq_true] at hg
  rcases hg with hg | hg
  · exact va_tabs hg hvm h
  · exact word_at hW (good_of_word hg) h
/-- a list's words: the good ones out of the method's own list, the others by premises of their own -/
theorem vx_hat {args : Array Value} {s : State} {L B : List Cond} (h1 : ∀ w ∈ L.filter goodWord, w.before args s = true) (h2 : ∀ w ∈ L.filter (fun w => !goodWord w), w ∈ B) (h3 : ∀ w ∈ B, w.before args s = true) : ∀ w ∈ L, w.before args s = true := by
  intro w hw
  by_cases g : goodWord w = true
  · exact h1 w (List.mem_filter.mpr ⟨hw, g⟩)
  · refine h3 w (h2 w (List.mem_filter.mpr ⟨hw, ?_⟩))
    show (!goodWord w) = true
    cases hgw : goodWord w
    · rfl
    · exact absurd hgw g
theorem vx_c {args : Array Value} {s : State} {w : Cond} {B : List Cond} (h : w.before args s = true) (t : ∀ w ∈ B, w.before args s = true) : ∀ w' ∈ w :: B, w'.before args s = true := fun w' h' => (List.mem_cons.mp h').elim (fun e => by rw [e]; exact h) (t w')
theorem vx_n {args : Array Value} {s : State} : ∀ w ∈ ([] : List Cond), w.before args s = true := fun _ h => nomatch h
theorem vx_own {args : Array Value} {s : State} {L : List Cond} (h1 : ∀ w ∈ L.filter vx_no, w.before args s = true)
    (hU : (Cond.isRef (.static Bundle.tN "UNASSIGNED_STACK" Bundle.steD)).before args s = true) (hN : (Cond.isRef (.static Bundle.tN "SUPPRESSED_SENTINEL" Bundle.listD)).before args s = true)
    (lU : (Cond.laysStatic Bundle.tN "UNASSIGNED_STACK" Bundle.steD).before args s = true) (lN : (Cond.laysStatic Bundle.tN "SUPPRESSED_SENTINEL" Bundle.listD).before args s = true) : ∀ w ∈ L, w.before args s = true := by
  intro w hw
  by_cases e1 : w = .isRef (.static Bundle.tN "UNASSIGNED_STACK" Bundle.steD)
  · rw [e1]; exact hU
  · by_cases e2 : w = .isRef (.static Bundle.tN "SUPPRESSED_SENTINEL" Bundle.listD)
    · rw [e2]; exact hN
    · by_cases e3 : w = .laysStatic Bundle.tN "UNASSIGNED_STACK" Bundle.steD
      · rw [e3]; exact lU
      · by_cases e4 : w = .laysStatic Bundle.tN "SUPPRESSED_SENTINEL" Bundle.listD
        · rw [e4]; exact lN
        · exact h1 w (List.mem_filter.mpr ⟨hw, by unfold vx_no; rw [decide_eq_true e1, decide_eq_true e2, decide_eq_true e3, decide_eq_true e4]; rfl⟩)
/-- where a static field lies, its class's statics cell in H -/
def vx_L (C n d : String) (A : Nat → Prop) (U : State) (H : Heap) : Prop := ∃ (c : ClassId) (k : Class) (i : Nat) (f : Field) (a : Nat) (cell : Cell), U.vm.findClass C = some c ∧ U.fieldFound? C n d = some (c, k, i, f) ∧ f.isStatic = true ∧ k.statics = some a ∧ H[a]? = some cell ∧ cell.vm.isStatics = true ∧ cell.cls = c ∧ f.slot < cell.slots.size ∧ k.staticTypes[f.slot]? = some f.type ∧ ¬ A a
theorem vx_L.moved {C n d : String} {A : Nat → Prop} {u U : State} {H : Heap} (hvm : u.vm.Alike U.vm) (h : vx_L C n d A u H) : vx_L C n d A U H := by
  obtain ⟨c, k, i, f, a, cell, h1, h2, h3, h4, h5, h6, h7, h8, h9, h10⟩ := h
  obtain ⟨k', hi', he⟩ := State.fieldFound?_setVm hvm h2
  exact ⟨c, k', i, f, a, cell, by rw [hvm.findClass]; exact h1, hi', h3, by rw [he]; exact h4, h5, h6, h7, h8, by rw [he]; exact h9, h10⟩
theorem vx_L.kept {C n d : String} {A : Nat → Prop} {U : State} {H H1 : Heap} (h : vx_L C n d A U H) (hq : ∀ a : Nat, a < H.size → ¬ A a → H1[a]? = H[a]?) : vx_L C n d A U H1 := by
  obtain ⟨c, k, i, f, a, cell, h1, h2, h3, h4, h5, h6, h7, h8, h9, h10⟩ := h
  exact ⟨c, k, i, f, a, cell, h1, h2, h3, h4, by rw [hq a (Array.getElem?_eq_some_iff.mp h5).1 h10]; exact h5, h6, h7, h8, h9, h10⟩
theorem vx_L.narrow {C n d : String} {A B : Nat → Prop} {U : State} {H : Heap} (h : vx_L C n d A U H) (hAB : ∀ q, B q → A q) : vx_L C n d B U H := by
  obtain ⟨c, k, i, f, a, cell, h1, h2, h3, h4, h5, h6, h7, h8, h9, h10⟩ := h
  exact ⟨c, k, i, f, a, cell, h1, h2, h3, h4, h5, h6, h7, h8, h9, fun z => h10 (hAB _ z)⟩
theorem vx_L.word {C n d : String} {A : Nat → Prop} {s : State} {args : Array Value} (h : vx_L C n d A s s.heap) : (Cond.laysStatic C n d).before args s = true := by
  obtain ⟨c, k, i, f, a, cell, h1, h2, h3, h4, h5, h6, h7, h8, h9, -⟩ := h
  show (Cond.laysStatic C n d).holds args s none s [] = true
  exact Cond.laysStatic_of h1 h2 h3 h4 h5 h6 h7 h8 h9
/-- .. and what it holds: null or some reference -/
def vx_Zq (C n d : String) (A : Nat → Prop) (U : State) (H : Heap) : Prop := va_Zq C n d A U H ∧ vx_L C n d A U H
theorem vx_Zq.moved {C n d : String} {A : Nat → Prop} {u U : State} {H : Heap} (hvm : u.vm.Alike U.vm) (h : vx_Zq C n d A u H) : vx_Zq C n d A U H := ⟨va_Zq.moved hvm h.1, vx_L.moved hvm h.2⟩
theorem vx_Zq.kept {C n d : String} {A : Nat → Prop} {U : State} {H H1 : Heap} (h : vx_Zq C n d A U H) (hq : ∀ a : Nat, a < H.size → ¬ A a → H1[a]? = H[a]?) : vx_Zq C n d A U H1 := ⟨va_Zq.kept h.1 hq, vx_L.kept h.2 hq⟩
theorem vx_Zq.narrow {C n d : String} {A B : Nat → Prop} {U : State} {H : Heap} (h : vx_Zq C n d A U H) (hAB : ∀ q, B q → A q) : vx_Zq C n d B U H := ⟨va_Zq.narrow h.1 hAB, vx_L.narrow h.2 hAB⟩
theorem vx_Zqof {args : Array Value} {s : State} {C n d : String} {A : Nat → Prop} (hl : (Cond.laysStatic C n d).before args s = true) (hini : (Cond.initialized C).before args s = true) (h : (Cond.isRef (.static C n d)).before args s = true) (hA : ∀ a : Nat, a < s.heap.size → ¬ A a) : vx_Zq C n d A s s.heap := by
  refine ⟨va_Zqof hl hini h hA, ?_⟩
  obtain ⟨c, k, i, f, a, cell, h1, h2, h3, h4, h5, h6, h7, h8, h9⟩ := Cond.laysStatic_spec hl
  exact ⟨c, k, i, f, a, cell, h1, h2, h3, h4, h5, h6, h7, h8, h9, hA a (Array.getElem?_eq_some_iff.mp h5).1⟩
theorem vx_isRef {C n d : String} {v : Value} {A : Nat → Prop} {s : State} {args : Array Value} (h : va_Z C n d v A s s.heap) (hv : v.isRef = true) : (Cond.isRef (.static C n d)).before args s = true := by
  obtain ⟨cf, kf, fi, f, a, cell, h1, h2, h3, h4, h5, h6, h7, -⟩ := h
  have he : (Term.static C n d).eval args s none [] s = some v := by
    simp [Term.eval, State.fieldNamed?, h1, h2, h4, h5, h6, h7]
  simp only [Cond.before, Cond.holds, Cond.value, he]
  cases v <;> simp_all [Value.isRef]
theorem vx_isRefq {C n d : String} {A : Nat → Prop} {s : State} {args : Array Value} (h : va_Zq C n d A s s.heap) : (Cond.isRef (.static C n d)).before args s = true := by
  rcases h with h | ⟨t, h⟩
  · exact vx_isRef h rfl
  · exact vx_isRef h rfl
/-- the same frame, seen from here: as if the method were called anew in this heap -/
theorem vx_rebase {T : State} (X : Stand p l e R s m args below meth c T locs cells slots) {R' : Room} (hf : R'.frames ≤ R.frames) (hl : R'.locals ≤ R.locals) (hc : cells + R'.cells ≤ R.cells) (hs : slots + R'.slots ≤ R.slots) :
    Stand p l e R' ((T.setVm s.vm).setFrames (.invoking m args :: below)) m args below meth c T [] 0 0 := by
  have htop : (T.setVm s.vm).topJava?.isSome := X.here.top
  have hF : ((T.setVm s.vm).setFrames (.invoking m args :: below)).frames = .invoking m args :: below := State.frames_setFrames _ (State.cur_lt_of_top htop)
  obtain ⟨g₀, hg0⟩ := Option.isSome_iff_exists.mp htop
  obtain ⟨r, hr⟩ := State.topJava?_eq_some.mp hg0
  have hl9 : e.platform.stackLimits (T.setVm s.vm).me = e.platform.stackLimits s.me := X.limits
  have hb9 : (T.setVm s.vm).me.stackBytes = s.me.stackBytes := X.bytes
  refine ⟨X.admits, X.cas, X.clock, hF, ?_, X.hears, X.method, X.code, X.here, X.tail, X.warmed, ?_, ?_, ?_⟩
  · have h := X.room
    have hU : ((T.setVm s.vm).setFrames (.invoking m args :: below)).localsInUse = s.localsInUse := by
      rw [State.localsInUse_invoking hF (meth := meth) (c := c) X.method X.code, State.localsInUse_invoking X.frames X.method X.code]
    simp only [State.hasRoom, Bool.and_eq_true, decide_eq_true_eq] at h ⊢
    obtain ⟨⟨⟨⟨h1, h2, h3, h4, h5, h6⟩, h7⟩, h8⟩, h9⟩ := h
    rw [X.frames, List.length_cons] at h2 h3
    have q1 := X.heapSize
    have q2 := X.used
    simp only [hF, hU, List.length_cons, State.stackLimits_setFrames, State.stackBytes_setFrames, hl9, hb9]
    refine ⟨⟨⟨⟨by omega, by omega, by omega, by omega, by omega, h6⟩, ?_⟩, ?_⟩, X.book⟩
    · show T.heap.size + R'.cells ≤ e.platform.maxCells
      omega
    · show T.slotsUsed + R'.slots ≤ e.platform.maxSlots
      omega
  · rw [State.stackLimits_setFrames]; rfl
  · rw [State.stackBytes_setFrames]; rfl
  · refine ⟨?_, Nat.le_refl _, Nat.le_refl _, ?_, ?_, fun a c9 h9 => ⟨c9, h9, rfl, rfl, fun _ _ => rfl⟩⟩
    · obtain ⟨t, ht, -⟩ := State.frames_cons hr
      show T.setVm s.vm = { ((T.setVm s.vm).setFrames (.invoking m args :: below)).setFrames (T.setVm s.vm).frames with heap := T.heap, slotsUsed := T.slotsUsed }
      rw [State.setFrames_setFrames, State.setFrames_self ht]
      rfl
    · show T.slotsUsed = T.slotsUsed + ((T.heap.toList.drop T.heap.size).map (·.slots.size)).sum
      rw [List.drop_eq_nil_of_le (Nat.le_of_eq Array.length_toList)]
      rfl
    · show ((T.heap.toList.drop T.heap.size).map (·.slots.size)).sum ≤ 0
      rw [List.drop_eq_nil_of_le (Nat.le_of_eq Array.length_toList)]
      exact Nat.le_refl _
/-- 'throw new E()': new; dup; invokespecial; athrow -/
theorem vx_throw0 {cc : ByteArray} {pc : Nat} (hexec : p.tables.exec = Jvm.exec) (hb : c.code = cc) (hl : l.stackTraces = false) {own cls : String} {names : List String} {ik ic mc ms : Nat} {A : Nat → Prop}
    (hown : s.vm.findClass own = some m.cls) (hcls : Bundle.fit cls = true) (hnames : ∀ n ∈ names, Bundle.fit n = true)
    (hk : (Cond.classLink own ik cls).before args s = true) (hini : (Cond.initialized cls).before args s = true) (hat : ∀ w ∈ vx_at0 own ic cls names, w.before args s = true)
    (hgood : ∀ w ∈ Cond.classLink own ik cls :: Cond.initialized cls :: vx_at0 own ic cls names, vx_ot w = true)
    (hU : vx_Zq Bundle.tN "UNASSIGNED_STACK" Bundle.steD A s s.heap) (hN : vx_Zq Bundle.tN "SUPPRESSED_SENTINEL" Bundle.listD A s s.heap) (hS : va_S A s.heap H locs) (hsize : ls.size = c.maxLocals)
    (d0 : decode cc pc = .ok (.new ik, 3)) (d3 : decode cc (pc + 3) = .ok (.dup, 1)) (d4 : decode cc (pc + 4) = .ok (.invokespecial ic, 3)) (d7 : decode cc (pc + 7) = .ok (.athrow, 1))
    (hout : ∀ x ∈ c.exceptionTable.toList, covers x (pc + 7) = false)
    (hRframes : names.length + 3 < R.frames) (hRlocals : (rest.map fun v => v.category).sum + (13 * (names.length + 1) + 42) ≤ R.locals) (hRcells : cells + 1 ≤ R.cells) (hRslots : slots + 6 ≤ R.slots) (hlocks : meth.locks = false)
    (hx : ∀ t : State, s.vm.Alike t.vm → H.size ≤ t.heap.size → (∀ q : Nat, q < H.size → t.heap[q]? = H[q]?) → XC cls s t)
    (hf : ∀ z ∈ locs, free z.base) (hc : cells + 1 ≤ mc) (hs : slots + 6 ≤ ms) :
    W p l e R s m args below meth c H locs cells slots (vx_MQ below Qc XC args s mc ms free) (F0 m pc ls rest) := by
  intro T hT X
  have htr : e.platform.stackTraces = false := (show e.platform.stackTraces = l.stackTraces by rw [X.admits.platform]).trans hl
  have Y := vx_rebase X (R' := { frames := R.frames, locals := R.locals, cells := 1, slots := 6 }) (Nat.le_refl _) (Nat.le_refl _) hRcells hRslots
  obtain ⟨s', hA⟩ : ∃ z, z = (T.setVm s.vm).setFrames (.invoking m args :: below) := ⟨_, rfl⟩
  rw [← hA] at Y
  have hvm : s'.vm = s.vm := by rw [hA]; rfl
  have hhp : s'.heap = H := by rw [hA]; exact hT
  have hW0 : s.WarmedH s'.vm := by rw [hvm]; exact State.WarmedH.refl s
  have hat' : ∀ w ∈ vx_at0 own ic cls names, w.before args s' = true := fun w hw => vx_ot_at hW0 hvm.symm (hgood w (List.mem_cons_of_mem _ (List.mem_cons_of_mem _ hw))) (hat w hw)
  have hk' : (Cond.classLink own ik cls).before args s' = true := vx_ot_at hW0 hvm.symm (hgood _ List.mem_cons_self) hk
  have hini' : (Cond.initialized cls).before args s' = true := vx_ot_at hW0 hvm.symm (hgood _ (List.mem_cons_of_mem _ List.mem_cons_self)) hini
  have hU' : vx_Zq Bundle.tN "UNASSIGNED_STACK" Bundle.steD A s' s'.heap := by rw [hhp]; exact vx_Zq.moved hW0.alike (hU.kept hS.2.1)
  have hN' : vx_Zq Bundle.tN "SUPPRESSED_SENTINEL" Bundle.listD A s' s'.heap := by rw [hhp]; exact vx_Zq.moved hW0.alike (hN.kept hS.2.1)
  have h : ∀ w ∈ Bundle.ownAtoms0 own ic cls names, w.before args s' = true := vx_own hat' (vx_isRefq hU'.1) (vx_isRefq hN'.1) hU'.2.word hN'.2.word
  have hown' : s'.vm.findClass own = some m.cls := by rw [hvm]; exact hown
  have hins : (Cond.instantiable cls 6).before args s' = true := h _ (by simp [Bundle.ownAtoms0])
  obtain ⟨vm₁, cX, kX, hfX, hkX, -, -, X₁, st1⟩ := Y.newCold hexec (own := own) (C := cls) (index := ik) (n := 6) hown' hk' hins hini'
    (g := F0 m pc ls rest) rfl (by rw [hb]; exact d0) (Nat.le_refl _) (Nat.le_refl _)
  generalize hT1 : (T.setVm vm₁).pushCell { cls := cX, slots := kX.instanceTypes.map defaultValue, vm := .none } = T1 at X₁ st1
  have hcat : (Value.ref T.heap.size).category = 1 := rfl
  have hcellA : T1.heap[T.heap.size]? = some (freshCell cX kX) := by rw [← hT1]; exact State.heap_pushCell_size _ _
  have d3' : decode c.code (pc + 3) = .ok (.dup, 1) := by rw [hb]; exact d3
  obtain ⟨U, hsteps, hrun, hend, hW, hsame, ce, hce, hO⟩ := X₁.ctorThrow0 hexec htr (own := own) (cls := cls) (names := names) (ic := ic) hown' hcls hnames h (fun x hx => nomatch hx) hfX hkX hcellA (by rw [hhp, hT]; exact Nat.le_refl _)
    (g := { method := m, pc := pc + 4, locals := ls, stack := .ref T.heap.size :: .ref T.heap.size :: rest, locked := none }) rfl hsize rfl rfl (rest := rest) rfl
    (by rw [hb]; exact d4) (by rw [hb]; exact d7) hout hRframes (by simp only [List.map_cons, List.sum_cons, hcat]; omega) hlocks
  obtain ⟨f1, f2⟩ := vx_frame hsame
  rw [hhp] at f1 f2
  have hWs : s.WarmedH U.vm := State.WarmedH.trans hW0 hW
  have hcl : s.vm.findClass cls = some ce.cls := by
    have h9 := hO.cls
    rw [hvm] at h9
    exact h9
  have hall : s.sameButNew ({ U with vm := s.vm } : State) locs mc ms := by
    subst hA
    obtain ⟨e1, e2⟩ := hsame
    rw [State.setFrames_setFrames] at e1
    have h2 : (T.setVm s.vm).sameButNew ({ U with vm := s.vm } : State) [] (0 + 1) (0 + 6) := ⟨e1, e2⟩
    have h3 := X.same.trans h2
    rw [List.append_nil] at h3
    exact h3.mono hc hs
  refine ⟨U, ?_, .threw T.heap.size, hrun, hend, Or.inr ⟨T.heap.size, rfl, cls, ce, locs, hx U hWs.alike f1 (fun q hq => f2 q hq (fun z hz => nomatch hz)), hce, hO.vm, hcl, hWs, hall, hf⟩⟩
  refine st1 _ ?_
  show Steps p.tables e below (T1.setTop { method := m, pc := pc + 3, locals := ls, stack := .ref T.heap.size :: rest, locked := none }) _
  jvm_step X₁.here [X₁.here.top, hexec, d3', Value.category]
  exact hsteps
/-- 'throw new E("text")': new; dup; ldc; invokespecial; athrow -/
theorem vx_throwS {cc : ByteArray} {pc : Nat} (hexec : p.tables.exec = Jvm.exec) (hb : c.code = cc) (hl : l.stackTraces = false) {own cls text : String} {names : List String} {ik is ic mc ms sa : Nat} {A : Nat → Prop}
    (hown : s.vm.findClass own = some m.cls) (hcls : Bundle.fit cls = true) (hnames : ∀ n ∈ names, Bundle.fit n = true)
    (hk : (Cond.classLink own ik cls).before args s = true) (hini : (Cond.initialized cls).before args s = true) (hstr : vk_R own is text sa s) (hat : ∀ w ∈ vx_atS own ic cls names, w.before args s = true)
    (hgood : ∀ w ∈ Cond.classLink own ik cls :: Cond.initialized cls :: vx_atS own ic cls names, vx_ot w = true)
    (hU : vx_Zq Bundle.tN "UNASSIGNED_STACK" Bundle.steD A s s.heap) (hN : vx_Zq Bundle.tN "SUPPRESSED_SENTINEL" Bundle.listD A s s.heap) (hS : va_S A s.heap H locs) (hsize : ls.size = c.maxLocals)
    (d0 : decode cc pc = .ok (.new ik, 3)) (d3 : decode cc (pc + 3) = .ok (.dup, 1)) (d4 : decode cc (pc + 4) = .ok (.ldc is, 2)) (d6 : decode cc (pc + 6) = .ok (.invokespecial ic, 3)) (d9 : decode cc (pc + 9) = .ok (.athrow, 1))
    (hout : ∀ x ∈ c.exceptionTable.toList, covers x (pc + 9) = false)
    (hRframes : names.length + 3 < R.frames) (hRlocals : (rest.map fun v => v.category).sum + (13 * (names.length + 1) + 43) ≤ R.locals) (hRcells : cells + 1 ≤ R.cells) (hRslots : slots + 6 ≤ R.slots) (hlocks : meth.locks = false)
    (hx : ∀ t : State, s.vm.Alike t.vm → H.size ≤ t.heap.size → (∀ q : Nat, q < H.size → t.heap[q]? = H[q]?) → XC cls s t)
    (hf : ∀ z ∈ locs, free z.base) (hc : cells + 1 ≤ mc) (hs : slots + 6 ≤ ms) :
    W p l e R s m args below meth c H locs cells slots (vx_MQ below Qc XC args s mc ms free) (F0 m pc ls rest) := by
  intro T hT X
  have htr : e.platform.stackTraces = false := (show e.platform.stackTraces = l.stackTraces by rw [X.admits.platform]).trans hl
  have Y := vx_rebase X (R' := { frames := R.frames, locals := R.locals, cells := 1, slots := 6 }) (Nat.le_refl _) (Nat.le_refl _) hRcells hRslots
  obtain ⟨s', hA⟩ : ∃ z, z = (T.setVm s.vm).setFrames (.invoking m args :: below) := ⟨_, rfl⟩
  rw [← hA] at Y
  have hvm : s'.vm = s.vm := by rw [hA]; rfl
  have hhp : s'.heap = H := by rw [hA]; exact hT
  have hW0 : s.WarmedH s'.vm := by rw [hvm]; exact State.WarmedH.refl s
  have hat' : ∀ w ∈ vx_atS own ic cls names, w.before args s' = true := fun w hw => vx_ot_at hW0 hvm.symm (hgood w (List.mem_cons_of_mem _ (List.mem_cons_of_mem _ hw))) (hat w hw)
  have hk' : (Cond.classLink own ik cls).before args s' = true := vx_ot_at hW0 hvm.symm (hgood _ List.mem_cons_self) hk
  have hini' : (Cond.initialized cls).before args s' = true := vx_ot_at hW0 hvm.symm (hgood _ (List.mem_cons_of_mem _ List.mem_cons_self)) hini
  have hU' : vx_Zq Bundle.tN "UNASSIGNED_STACK" Bundle.steD A s' s'.heap := by rw [hhp]; exact vx_Zq.moved hW0.alike (hU.kept hS.2.1)
  have hN' : vx_Zq Bundle.tN "SUPPRESSED_SENTINEL" Bundle.listD A s' s'.heap := by rw [hhp]; exact vx_Zq.moved hW0.alike (hN.kept hS.2.1)
  have h : ∀ w ∈ Bundle.ownAtoms own ic cls names, w.before args s' = true := vx_own hat' (vx_isRefq hU'.1) (vx_isRefq hN'.1) hU'.2.word hN'.2.word
  have hown' : s'.vm.findClass own = some m.cls := by rw [hvm]; exact hown
  have hins : (Cond.instantiable cls 6).before args s' = true := h _ (by simp [Bundle.ownAtoms])
  obtain ⟨vm₁, cX, kX, hfX, hkX, -, -, X₁, st1⟩ := Y.newCold hexec (own := own) (C := cls) (index := ik) (n := 6) hown' hk' hins hini'
    (g := F0 m pc ls rest) rfl (by rw [hb]; exact d0) (Nat.le_refl _) (Nat.le_refl _)
  generalize hT1 : (T.setVm vm₁).pushCell { cls := cX, slots := kX.instanceTypes.map defaultValue, vm := .none } = T1 at X₁ st1
  have hcat : (Value.ref T.heap.size).category = 1 := rfl
  have hcellA : T1.heap[T.heap.size]? = some (freshCell cX kX) := by rw [← hT1]; exact State.heap_pushCell_size _ _
  have d3' : decode c.code (pc + 3) = .ok (.dup, 1) := by rw [hb]; exact d3
  have d4' : decode c.code (pc + 4) = .ok (.ldc is, 2) := by rw [hb]; exact d4
  have hstr' : vk_R own is text sa s' := vk_R.warm hW0 hstr
  obtain ⟨U, hsteps, hrun, hend, hW, hsame, ce, hce, hO⟩ := X₁.ctorThrowS hexec htr (own := own) (cls := cls) (names := names) (ic := ic) hown' hcls hnames h (fun x hx => nomatch hx) hfX hkX hcellA (by rw [hhp, hT]; exact Nat.le_refl _) (msg := .ref sa) rfl
    (g := { method := m, pc := pc + 6, locals := ls, stack := .ref sa :: .ref T.heap.size :: .ref T.heap.size :: rest, locked := none }) rfl hsize rfl rfl (rest := rest) rfl
    (by rw [hb]; exact d6) (by rw [hb]; exact d9) hout hRframes (by simp only [List.map_cons, List.sum_cons, hcat]; omega) hlocks
  obtain ⟨f1, f2⟩ := vx_frame hsame
  rw [hhp] at f1 f2
  have hWs : s.WarmedH U.vm := State.WarmedH.trans hW0 hW
  have hcl : s.vm.findClass cls = some ce.cls := by
    have h9 := hO.cls
    rw [hvm] at h9
    exact h9
  have hall : s.sameButNew ({ U with vm := s.vm } : State) locs mc ms := by
    subst hA
    obtain ⟨e1, e2⟩ := hsame
    rw [State.setFrames_setFrames] at e1
    have h2 : (T.setVm s.vm).sameButNew ({ U with vm := s.vm } : State) [] (0 + 1) (0 + 6) := ⟨e1, e2⟩
    have h3 := X.same.trans h2
    rw [List.append_nil] at h3
    exact h3.mono hc hs
  refine ⟨U, ?_, .threw T.heap.size, hrun, hend, Or.inr ⟨T.heap.size, rfl, cls, ce, locs, hx U hWs.alike f1 (fun q hq => f2 q hq (fun z hz => nomatch hz)), hce, hO.vm, hcl, hWs, hall, hf⟩⟩
  refine st1 _ ?_
  show Steps p.tables e below (T1.setTop { method := m, pc := pc + 3, locals := ls, stack := .ref T.heap.size :: rest, locked := none }) _
  jvm_step X₁.here [X₁.here.top, hexec, d3', Value.category]
  exact X₁.ldcString hexec (own := own) (text := text) (index := is) (a := sa) hown' hstr'.1 hstr'.2
    (g := { method := m, pc := pc + 4, locals := ls, stack := .ref T.heap.size :: .ref T.heap.size :: rest, locked := none }) rfl d4' _ hsteps
/-- 'throw new E("text")', the text by a wide index -/
theorem vx_throwSW {cc : ByteArray} {pc : Nat} (hexec : p.tables.exec = Jvm.exec) (hb : c.code = cc) (hl : l.stackTraces = false) {own cls text : String} {names : List String} {ik is ic mc ms sa : Nat} {A : Nat → Prop}
    (hown : s.vm.findClass own = some m.cls) (hcls : Bundle.fit cls = true) (hnames : ∀ n ∈ names, Bundle.fit n = true)
    (hk : (Cond.classLink own ik cls).before args s = true) (hini : (Cond.initialized cls).before args s = true) (hstr : vk_R own is text sa s) (hat : ∀ w ∈ vx_atS own ic cls names, w.before args s = true)
    (hgood : ∀ w ∈ Cond.classLink own ik cls :: Cond.initialized cls :: vx_atS own ic cls names, vx_ot w = true)
    (hU : vx_Zq Bundle.tN "UNASSIGNED_STACK" Bundle.steD A s s.heap) (hN : vx_Zq Bundle.tN "SUPPRESSED_SENTINEL" Bundle.listD A s s.heap) (hS : va_S A s.heap H locs) (hsize : ls.size = c.maxLocals)
    (d0 : decode cc pc = .ok (.new ik, 3)) (d3 : decode cc (pc + 3) = .ok (.dup, 1)) (d4 : decode cc (pc + 4) = .ok (.ldc_w is, 3)) (d7 : decode cc (pc + 7) = .ok (.invokespecial ic, 3)) (d10 : decode cc (pc + 10) = .ok (.athrow, 1))
    (hout : ∀ x ∈ c.exceptionTable.toList, covers x (pc + 10) = false)
    (hRframes : names.length + 3 < R.frames) (hRlocals : (rest.map fun v => v.category).sum + (13 * (names.length + 1) + 43) ≤ R.locals) (hRcells : cells + 1 ≤ R.cells) (hRslots : slots + 6 ≤ R.slots) (hlocks : meth.locks = false)
    (hx : ∀ t : State, s.vm.Alike t.vm → H.size ≤ t.heap.size → (∀ q : Nat, q < H.size → t.heap[q]? = H[q]?) → XC cls s t)
    (hf : ∀ z ∈ locs, free z.base) (hc : cells + 1 ≤ mc) (hs : slots + 6 ≤ ms) :
    W p l e R s m args below meth c H locs cells slots (vx_MQ below Qc XC args s mc ms free) (F0 m pc ls rest) := by
  intro T hT X
  have htr : e.platform.stackTraces = false := (show e.platform.stackTraces = l.stackTraces by rw [X.admits.platform]).trans hl
  have Y := vx_rebase X (R' := { frames := R.frames, locals := R.locals, cells := 1, slots := 6 }) (Nat.le_refl _) (Nat.le_refl _) hRcells hRslots
  obtain ⟨s', hA⟩ : ∃ z, z = (T.setVm s.vm).setFrames (.invoking m args :: below) := ⟨_, rfl⟩
  rw [← hA] at Y
  have hvm : s'.vm = s.vm := by rw [hA]; rfl
  have hhp : s'.heap = H := by rw [hA]; exact hT
  have hW0 : s.WarmedH s'.vm := by rw [hvm]; exact State.WarmedH.refl s
  have hat' : ∀ w ∈ vx_atS own ic cls names, w.before args s' = true := fun w hw => vx_ot_at hW0 hvm.symm (hgood w (List.mem_cons_of_mem _ (List.mem_cons_of_mem _ hw))) (hat w hw)
  have hk' : (Cond.classLink own ik cls).before args s' = true := vx_ot_at hW0 hvm.symm (hgood _ List.mem_cons_self) hk
  have hini' : (Cond.initialized cls).before args s' = true := vx_ot_at hW0 hvm.symm (hgood _ (List.mem_cons_of_mem _ List.mem_cons_self)) hini
  have hU' : vx_Zq Bundle.tN "UNASSIGNED_STACK" Bundle.steD A s' s'.heap := by rw [hhp]; exact vx_Zq.moved hW0.alike (hU.kept hS.2.1)
  have hN' : vx_Zq Bundle.tN "SUPPRESSED_SENTINEL" Bundle.listD A s' s'.heap := by rw [hhp]; exact vx_Zq.moved hW0.alike (hN.kept hS.2.1)
  have h : ∀ w ∈ Bundle.ownAtoms own ic cls names, w.before args s' = true := vx_own hat' (vx_isRefq hU'.1) (vx_isRefq hN'.1) hU'.2.word hN'.2.word
  have hown' : s'.vm.findClass own = some m.cls := by rw [hvm]; exact hown
  have hins : (Cond.instantiable cls 6).before args s' = true := h _ (by simp [Bundle.ownAtoms])
  obtain ⟨vm₁, cX, kX, hfX, hkX, -, -, X₁, st1⟩ := Y.newCold hexec (own := own) (C := cls) (index := ik) (n := 6) hown' hk' hins hini'
    (g := F0 m pc ls rest) rfl (by rw [hb]; exact d0) (Nat.le_refl _) (Nat.le_refl _)
  generalize hT1 : (T.setVm vm₁).pushCell { cls := cX, slots := kX.instanceTypes.map defaultValue, vm := .none } = T1 at X₁ st1
  have hcat : (Value.ref T.heap.size).category = 1 := rfl
  have hcellA : T1.heap[T.heap.size]? = some (freshCell cX kX) := by rw [← hT1]; exact State.heap_pushCell_size _ _
  have d3' : decode c.code (pc + 3) = .ok (.dup, 1) := by rw [hb]; exact d3
  have d4' : decode c.code (pc + 4) = .ok (.ldc_w is, 3) := by rw [hb]; exact d4
  have hstr' : vk_R own is text sa s' := vk_R.warm hW0 hstr
  obtain ⟨U, hsteps, hrun, hend, hW, hsame, ce, hce, hO⟩ := X₁.ctorThrowS hexec htr (own := own) (cls := cls) (names := names) (ic := ic) hown' hcls hnames h (fun x hx => nomatch hx) hfX hkX hcellA (by rw [hhp, hT]; exact Nat.le_refl _) (msg := .ref sa) rfl
    (g := { method := m, pc := pc + 7, locals := ls, stack := .ref sa :: .ref T.heap.size :: .ref T.heap.size :: rest, locked := none }) rfl hsize rfl rfl (rest := rest) rfl
    (by rw [hb]; exact d7) (by rw [hb]; exact d10) hout hRframes (by simp only [List.map_cons, List.sum_cons, hcat]; omega) hlocks
  obtain ⟨f1, f2⟩ := vx_frame hsame
  rw [hhp] at f1 f2
  have hWs : s.WarmedH U.vm := State.WarmedH.trans hW0 hW
  have hcl : s.vm.findClass cls = some ce.cls := by
    have h9 := hO.cls
    rw [hvm] at h9
    exact h9
  have hall : s.sameButNew ({ U with vm := s.vm } : State) locs mc ms := by
    subst hA
    obtain ⟨e1, e2⟩ := hsame
    rw [State.setFrames_setFrames] at e1
    have h2 : (T.setVm s.vm).sameButNew ({ U with vm := s.vm } : State) [] (0 + 1) (0 + 6) := ⟨e1, e2⟩
    have h3 := X.same.trans h2
    rw [List.append_nil] at h3
    exact h3.mono hc hs
  refine ⟨U, ?_, .threw T.heap.size, hrun, hend, Or.inr ⟨T.heap.size, rfl, cls, ce, locs, hx U hWs.alike f1 (fun q hq => f2 q hq (fun z hz => nomatch hz)), hce, hO.vm, hcl, hWs, hall, hf⟩⟩
  refine st1 _ ?_
  show Steps p.tables e below (T1.setTop { method := m, pc := pc + 3, locals := ls, stack := .ref T.heap.size :: rest, locked := none }) _
  jvm_step X₁.here [X₁.here.top, hexec, d3', Value.category]
  exact X₁.ldcStringW hexec (own := own) (text := text) (index := is) (a := sa) hown' hstr'.1 hstr'.2
    (g := { method := m, pc := pc + 4, locals := ls, stack := .ref T.heap.size :: .ref T.heap.size :: rest, locked := none }) rfl d4' _ hsteps
end Ends
section Bodies
variable {l : Launch}
theorem vx_ofW {y : MethodName} {ws ws' : List Cond} {rm : Room} {Pc : Array Value → State → Prop} {Qc : Array Value → State → Outcome → State → Prop} {XC : String → State → State → Prop} {mc ms : Nat} {free : Addr → Prop} {cc : ByteArray} {maxL : Nat} {ret : Option FieldType}
    (hy : plainName y.cls = true) (hw : ws = Cond.code y cc maxL ret :: ws')
    (body : ∀ p e s m args below meth c s₁, BodyLoose p l y (headSpec ws rm) cc maxL ret e s m args below meth c s₁ → c.maxLocals = maxL → (∀ x ∈ c.exceptionTable.toList, False) → Pc args s →
      W p l e (headSpec ws rm).room s m args below meth c s.heap [] 0 0 (vx_MQ below Qc XC args s mc ms free) (entryFrame m args maxL)) : vx_Met l y ws rm Pc Qc XC mc ms free := by
  refine MetFree.of_bodyS (code := cc) (maxLocals := maxL) (ret := ret) hy ?_ ?_
  · intro args s m h hn
    obtain ⟨meth, c, h1, h2, h3, h4, h5, h6, -, -⟩ := Cond.code_spec hn (atoms_spec (ws := ws) h _ (by rw [hw]; exact List.mem_cons_self))
    exact ⟨meth, c, h1, h2, h3, h4, h5, h6⟩
  · intro p e s m args below meth c s₁ B hml hP _
    have hh0 : s₁.heap = s.heap := by rw [B.state]; rfl
    have ht : ∀ x ∈ c.exceptionTable.toList, False := by
      obtain ⟨meth9, c9, h1, h2, -, -, -, -, h7, -⟩ := Cond.code_spec B.named (atoms_spec (ws := ws) B.pre _ (by rw [hw]; exact List.mem_cons_self))
      cases Option.some.inj (h1.symm.trans B.method)
      cases Option.some.inj (h2.symm.trans (Stand.of_body B).code)
      intro x hx
      rw [Array.isEmpty_iff.mp h7] at hx
      cases hx
    obtain ⟨t, a1, o, b1, b2, b3⟩ := body p e s m args below meth c s₁ B hml ht hP s₁ hh0 (Stand.of_body B)
    exact ⟨t, o, a1, b1, b2, b3⟩
/-- the table of a body with handlers -/
theorem vx_table {p : Program} {x y : MethodName} {S : Spec} {cc bytes : ByteArray} {maxL maxL' : Nat} {ret ret' : Option FieldType} {e : Env} {s s₁ : State} {m : MethodId} {args : Array Value} {below : List Frame} {meth : Method} {c : Code} {hh : List (Nat × Nat × Nat × Nat)}
    (B : BodyLoose p l y S cc maxL ret e s m args below meth c s₁) (h : (Cond.codeWith y bytes maxL' ret' hh).before args s = true) : c.exceptionTable.toList = tableOf hh := by
  obtain ⟨m9, meth9, c9, hn9, h1, h2, -, -, h6, -⟩ := Cond.codeWith_spec h
  cases Option.some.inj (hn9.symm.trans B.named)
  cases Option.some.inj (h1.symm.trans B.method)
  cases Option.some.inj (h2.symm.trans (Stand.of_body B).code)
  rw [← h6, table_eq]
end Bodies
end VXA
/-! ===== END ===== -/
/-! ===== BEGIN a static call of a method with an exception table ===== -/
section VXS
variable {p : Program} {l : Launch} {e : Env} {R : Room} {s : State} {m : MethodId} {args : Array Value} {below : List Frame} {meth : Method} {c : Code} {T : State} {H : Heap} {locs : List Loc} {cells slots : Nat}
abbrev vx_CSW (R : Room) (s : State) (args : Array Value) (own : String) (index : Nat) (y : MethodName) (bytes : ByteArray) (maxL : Nat) (ret : Option FieldType) (hh : List (Nat × Nat × Nat × Nat)) (ws : List Cond) (rm : Room) (mc ms n : Nat) : Prop :=
  (rm.cells = mc ∧ rm.slots = ms ∧ rm.frames + 1 ≤ R.frames ∧ 8 + (maxL + 11) + rm.locals ≤ R.locals ∧ (∀ w ∈ ws, ∀ (a' : Array Value) (U : State), s.WarmedH U.vm → w.before a' U = true) ∧ Cond.codeWith y bytes maxL ret hh ∈ ws) ∧
  (Cond.codeWith y bytes maxL ret hh).before args s = true ∧ (Cond.initialized y.cls).before args s = true ∧ (y.cls ≠ "java/lang/invoke/MethodHandle" ∧ y.cls ≠ "java/lang/invoke/VarHandle") ∧
  (∀ sig, parseMethodDescriptor y.desc = some sig → n = sig.parameters.length) ∧ (Cond.methodLink own index y).before args s = true ∧ (Cond.static y).before args s = true
theorem vx_cwSW {own : String} {index maxL mc ms : Nat} {y : MethodName} {bytes : ByteArray} {ret : Option FieldType} {hh : List (Nat × Nat × Nat × Nat)} {Ts ws ws' : List Cond} {rm : Room} (n : Nat) (ht : ∀ w ∈ Ts, w.before args s = true) (hT : GoodIn Ts (va_wsS own index y ws)) (hw : ws = Cond.codeWith y bytes maxL ret hh :: ws') (hrc : rm.cells = mc) (hrs : rm.slots = ms)
    (hd : y.cls ≠ "java/lang/invoke/MethodHandle" ∧ y.cls ≠ "java/lang/invoke/VarHandle" ∧ (parseMethodDescriptor y.desc).map (fun d => d.parameters.length) = some n) (hR : rm.frames + 1 ≤ R.frames ∧ 8 + (maxL + 11) + rm.locals ≤ R.locals) :
    vx_CSW R s args own index y bytes maxL ret hh ws rm mc ms n := by
  have ok : ∀ w ∈ va_wsS own index y ws, w.before args s = true := fun w h => ht w (hT w h).1
  have hG : GoodIn Ts ws := fun w h => hT w (by unfold va_wsS; exact List.mem_append_right _ h)
  have hc : Cond.codeWith y bytes maxL ret hh ∈ ws := by rw [hw]; exact List.mem_cons_self
  refine ⟨⟨hrc, hrs, hR.1, hR.2, pay_in ht hG, hc⟩, ht _ (hG _ hc).1, ok _ (by simp [va_wsS]), ⟨hd.1, hd.2.1⟩, fun sig h => ?_, ok _ (by simp [va_wsS]), ok _ (by simp [va_wsS])⟩
  have h2 := hd.2.2
  rw [h] at h2
  exact (Option.some.inj h2).symm
theorem vx_callSW (X : Stand p l e R s m args below meth c T locs cells slots) (hexec : p.tables.exec = Jvm.exec) {own : String} {index : Nat} {y : MethodName} {bytes : ByteArray} {maxL : Nat} {ret : Option FieldType} {hh : List (Nat × Nat × Nat × Nat)}
    (hown : s.vm.findClass own = some m.cls) (hlink : (Cond.methodLink own index y).before args s = true) (hstat : (Cond.static y).before args s = true) (hinit : (Cond.initialized y.cls).before args s = true)
    (hcode : (Cond.codeWith y bytes maxL ret hh).before args s = true) (hy : y.cls ≠ "java/lang/invoke/MethodHandle" ∧ y.cls ≠ "java/lang/invoke/VarHandle")
    {W9 : Nat} {Pre : Pt → Array Value → Prop} {Post : Pt → Array Value → Option Value → Pt → Prop} (hK : Back l R p e below s args y 3 W9 Pre Post)
    {g : JFrame} (hg : g.method = m) (hsize : g.locals.size = c.maxLocals) {argsL rest : List Value} (hlen : ∀ sig, parseMethodDescriptor y.desc = some sig → argsL.length = sig.parameters.length)
    (hstack : g.stack = argsL.reverse ++ rest) (hW : 2 * g.monitorRoom + (rest.map fun v => v.category).sum ≤ W9) (hdg : decode c.code g.pc = .ok (.invokestatic index, 3))
    (hpre : ∀ vm₁, s.WarmedH vm₁ → Pre ⟨T.setVm vm₁, locs, cells, slots⟩ argsL.toArray) :
    ∃ (v : Option Value) (vm₁ : Vm) (B : Pt), s.WarmedH vm₁ ∧ Stand p l e R s m args below meth c B.U B.locs B.cells B.slots ∧ Post ⟨T.setVm vm₁, locs, cells, slots⟩ argsL.toArray v B ∧
      ∀ target, Steps p.tables e below (B.U.setTop { g with pc := g.pc + 3, stack := v.toList ++ rest }) target → Steps p.tables e below (T.setTop g) target := by
  obtain ⟨mk, methM, cM, hnamed, hmethM, -, -, -, -, -, -, hsigM⟩ := Cond.codeWith_spec hcode
  have hstatic : methM.isStatic = true := Cond.static_spec hnamed hmethM hstat
  obtain ⟨kP, hkP, -⟩ := className_of_methodNamed hnamed
  have hinitP : kP.init = .initialized := Cond.initialized_spec (findClass_of_methodNamed hnamed) hkP hinit
  obtain ⟨vm₁, X₁, hstep₁⟩ := X.invokestatic hexec hown hlink hnamed hmethM hstatic hkP hinitP hy (g := g) hg (argsL := argsL) (rest := rest) (hlen _ hsigM) hstack hdg
  obtain ⟨v, B, X', hpost, hsteps⟩ := hK m meth c ⟨T.setVm vm₁, locs, cells, slots⟩ { g with stack := rest } (.invokestatic index) mk argsL.toArray X₁ hg hsize hdg hW (X₁.named hnamed) (hpre vm₁ X₁.warmed)
  exact ⟨v, vm₁, B, X₁.warmed, X', hpost, fun target h => hstep₁ _ fun acts => by rw [doInvoke_state]; exact hsteps.trans h⟩
theorem vx_runSW {y : MethodName} {bytes cc : ByteArray} {maxL nL mc ms n index : Nat} {ret : Option FieldType} {hh : List (Nat × Nat × Nat × Nat)} {ws : List Cond} {rm : Room} {Pc : Array Value → State → Prop} {Qc : Array Value → State → Outcome → State → Prop} {free : Addr → Prop} {Ts : List Cond} {own : String} {As rest : List Value} {g : JFrame}
    (S : CallFix p m c cc nL s args Ts own) (hM : Met l y ws rm Pc Qc mc ms free) (cw : vx_CSW R s args own index y bytes maxL ret hh ws rm mc ms n) (hp : PreS s H Pc As)
    (hg : g.method = m) (hn : As.length = n) (hsize : g.locals.size = nL) (hstack : g.stack = As.reverse ++ rest) (hW : 2 * g.monitorRoom + (rest.map fun v => v.category).sum ≤ 8) (hdg : decode cc g.pc = .ok (.invokestatic index, 3)) (hf : cells + mc ≤ R.cells ∧ slots + ms ≤ R.slots) :
    va_Run p l e R s m args below meth c H locs cells slots mc ms g rest (Qc As.toArray) (free) := by
  obtain ⟨⟨hrc, hrs, hfr, hlo, hws, hcw⟩, hcode, hini, hy, hlen, hl, hstt⟩ := cw
  have hK : Back l R p e below s args y 3 8 (PreOf R mc ms Pc) (PostOf Qc mc ms free) := va_backW (hh := hh) (bytes := bytes) (maxL := maxL) (ret := ret) hM hp.1 hrc hrs hfr hlo hws hcw (fun a' U hW => word_at hW (Or.inl (by first | rfl | simp [Cond.onTables, Cond.keeps, Cond.steady])) hini)
  obtain ⟨hx, hb, hml, ho, -⟩ := S
  intro T hT X
  obtain ⟨v, vm₁, ⟨U', l2, c2, s2⟩, hW₁, X', ⟨g', mk, t, L, e1, e2, hq, h1, hL, h2, h3⟩, st⟩ := vx_callSW X hx (hh := hh) (bytes := bytes) (maxL := maxL) (ret := ret) ho hl hstt hini hcode hy hK hg (hsize.trans hml.symm) (argsL := As) (rest := rest) (fun sig h => hn.trans (hlen sig h)) hstack hW (by rw [hb]; exact hdg)
    (fun vm₁ hW₁ => ⟨hf.1, hf.2, hp.2 (T.setVm vm₁) hT hW₁⟩)
  dsimp only [Pt.U, Pt.locs, Pt.cells, Pt.slots] at X' e1 e2 h1 h2 h3 st
  subst h1; subst h2; subst h3
  exact ⟨v, (T.setVm vm₁).calling g' mk As.toArray, t, U', L, hT, X', hL, e1, e2, hq, st⟩
/-- not caught here, past rows that name other classes: it goes on to the caller -/
theorem vx_outP {p : Program} {l : Launch} {e : Env} {R : Room} {s : State} {m : MethodId} {args : Array Value} {below : List Frame} {meth : Method} {c : Code} {H : Heap} {locs : List Loc} {cells slots : Nat} {free : Addr → Prop} {ls : Array Slot} {rest : List Value} {Qc : Array Value → State → Outcome → State → Prop} {XC : String → State → State → Prop}
    {pc : Nat} {own E : String} {ce : Cell} {q : Addr} {mc ms : Nat} (hown : s.vm.findClass own = some m.cls) (hlocks : meth.locks = false)
    (hpass : ∀ z ∈ c.exceptionTable.toList, covers z pc = false ∨ (z.catchType ≠ 0 ∧ ∃ nm : String, (Cond.classLink own z.catchType nm).before args s = true ∧ va_Nc E nm s)) (hcell : H[q]? = some ce) (hv : ce.vm = .none) (hcl : s.vm.findClass E = some ce.cls)
    (hx : ∀ t : State, t.heap = H → s.vm.Alike t.vm → XC E s t) (hf : ∀ z ∈ locs, free z.base) (hc : cells ≤ mc) (hs : slots ≤ ms) :
    vx_W p l e R s m args below meth c H locs cells slots (vx_MQ below Qc XC args s mc ms free) (F0 m pc ls rest) q := by
  intro T hT X
  have hpl : e.platform.magicAccessors = ({} : Platform).magicAccessors := by rw [X.admits.platform]
  obtain ⟨vm', hW', X', st⟩ := X.outThrough hlocks q (g := F0 m pc ls rest) rfl rfl rfl (cell := ce) (by rw [hT]; exact hcell) (by rw [hv]; rfl)
    (by obtain ⟨k9, h9, -⟩ := Vm.findClass_spec hcl; exact ⟨k9, h9⟩) (fun z hz => by
      rcases hpass z hz with h | ⟨hz0, nm, hl1, hn1⟩
      · exact Or.inl h
      · obtain ⟨c6, hc6, hcl6⟩ := Cond.classLink_spec hown hl1 e.platform hpl
        obtain ⟨a8, b8, h1, h2, h3⟩ := hn1
        cases Option.some.inj (h1.symm.trans hcl)
        cases Option.some.inj (h2.symm.trans hc6)
        exact Or.inr ⟨hz0, _, hcl6, h3⟩)
  obtain ⟨g₀, hfr⟩ := X'.frames_eq
  have hcell9 : ((T.setVm vm').setFrames (.throwing q :: below)).heap[q]? = some ce := by
    show T.heap[q]? = some ce
    rw [hT]; exact hcell
  have hend : Ended ((T.setVm vm').setFrames (.throwing q :: below)) below (.threw q) := State.frames_setFrames _ (State.cur_lt_of_frames hfr)
  refine ⟨(T.setVm vm').setFrames (.throwing q :: below), ?_, .threw q, X'.here.running, hend, Or.inr ⟨q, rfl, E, ce, locs, hx _ hT (X'.ends _).1.alike, hcell9, hv, hcl, (X'.ends _).1, (X'.ends _).2.mono hc hs, hf⟩⟩
  rw [X.pushThrowing_eq]
  exact st
/-- a thing of a world lies in the heap -/
theorem vx_lt {D : va_G} {cl : List vw_C} {ws : va_W} {H1 : Heap} (h : va_P D cl ws H1) {k : Nat} {q : Nat × va_E} (hk : ws[k]? = some q) : q.1 < H1.size := (h k q hk).lt
end VXS
/-! ===== END ===== -/
/-! ===== BEGIN methods with a table of their own: called by a name, returning or throwing ===== -/
section VXH
/-! vx_backW, vx_callVX, vx_callSX, vx_callVW, vx_runVW, vx_runVX, vx_runSX, vx_ofWH follow the same proofs as their sisters above (Free/Laws.lean, Shelf42/LK1.lean); vx_outP calls Shelf42/NT130.lean (outThrough). -/
section
variable {l : Launch} {R : Room} {p : Program} {e : Env} {below : List Frame} {s : State} {sargs : Array Value} {y : MethodName} {len W9 : Nat}
theorem vx_backW {ws : List Cond} {rm : Room} {Pc : Array Value → State → Prop} {Qc : Array Value → State → Outcome → State → Prop} {XC : String → State → State → Prop} {mc ms : Nat} {free : Addr → Prop} {bytes : ByteArray} {maxL : Nat} {ret : Option FieldType} {hh : List (Nat × Nat × Nat × Nat)}
    (hM : vx_Met l y ws rm Pc Qc XC mc ms free) (hblind : FrameBlind Pc) (hrc : rm.cells = mc) (hrs : rm.slots = ms)
    (hframes : rm.frames + 1 ≤ R.frames) (hlocals : W9 + (maxL + 11) + rm.locals ≤ R.locals)
    (hws : ∀ w ∈ ws, ∀ a' U, s.WarmedH U.vm → w.before a' U = true) (hcode : Cond.codeWith y bytes maxL ret hh ∈ ws) (hinit : ∀ a' U, s.WarmedH U.vm → (Cond.initialized y.cls).before a' U = true) :
    vx_Back l R p e below s sargs y len W9 (PreOf R mc ms Pc) (PostOf Qc mc ms free) (vx_Post XC mc ms free) := by
  intro m meth c A g ig mk a X hg hsize hdg hW hn hp
  have h1 : (headSpec ws rm).pre.before a A.U = true := atoms_intro fun w hw => hws w hw _ _ X.warmed
  have h2 : (Cond.codeWith y bytes maxL ret hh).before a A.U = true := hws _ hcode _ _ X.warmed
  have h3 : (Cond.initialized y.cls).before a A.U = true := hinit _ _ X.warmed
  have h4 : A.cells + (headSpec ws rm).room.cells ≤ R.cells := by rw [show (headSpec ws rm).room.cells = mc from hrc]; exact hp.1
  have h5 : A.slots + (headSpec ws rm).room.slots ≤ R.slots := by rw [show (headSpec ws rm).room.slots = ms from hrs]; exact hp.2.1
  have hPc : Pc a (A.U.calling g mk a) := hblind _ _ _ _ hp.2.2
  obtain ⟨U, Ls, c0, s0⟩ := A
  dsimp only [Pt.U, Pt.locs, Pt.cells, Pt.slots] at h1 h2 h3 h4 h5 X hn hPc ⊢
  obtain ⟨m9, methY, cY, hn9, hmY, hcY, -, hlY, -⟩ := Cond.codeWith_spec h2
  cases Option.some.inj (hn9.symm.trans hn)
  obtain ⟨kY, hkY, -⟩ := className_of_methodNamed hn
  have hinitY : kY.init = .initialized := Cond.initialized_spec (findClass_of_methodNamed hn) hkY h3
  have h : At U g.method c below := by rw [hg]; exact X.here
  have hlocals9 : W9 + (maxL + 11) + (headSpec ws rm).room.locals ≤ R.locals := hlocals
  have happ : (headSpec ws rm).appliesLoose y e.platform (U.calling g mk a) = true :=
    Spec.appliesLoose_calling (g := g) h hdg hn hkY hinitY
      (X.room_calling (g := g) (R' := (headSpec ws rm).room) hsize hmY hcY hframes (by rw [hlY]; omega) h4 h5) h1
  obtain ⟨mid, hmid⟩ := h.above
  have hfr : (U.setTop g).frames = (.java g :: mid) ++ below := by rw [State.frames_setTop' g h.top, hmid]; rfl
  obtain ⟨o, s₂, hsteps, -, hend, hq⟩ := Steps.callFree hM p X.admits X.cas X.clock (acts := []) hfr happ hPc trivial
  have hq' : vx_Q Qc XC mc ms free a (U.calling g mk a) o s₂ := hq
  rw [State.frames_setTop' g h.top] at hend
  obtain ⟨g₀, hg0⟩ := Option.isSome_iff_exists.mp h.top
  obtain ⟨r, hr⟩ := State.topJava?_eq_some.mp hg0
  have hr' : (({ U with heap := s₂.heap, slotsUsed := s₂.slotsUsed } : State).setVm s₂.vm).frames = .java g₀ :: r := hr
  rcases hq' with ⟨hqc, L, hfe, hL⟩ | ⟨q, rfl, E, ce, L, hx, hce, hcv, hcl, hW₂, hsm, hL⟩
  · obtain ⟨⟨v, rfl⟩, hW₂, e2, q2, q3, q4, q5, q6⟩ := id hfe
    have e3 : s₂ = ({ (U.calling g mk a).setFrames s₂.frames with heap := s₂.heap, slotsUsed := s₂.slotsUsed } : State).setVm s₂.vm := by
      have : s₂ = ({ s₂ with vm := (U.calling g mk a).vm } : State).setVm s₂.vm := rfl
      rw [e2] at this
      exact this
    obtain ⟨c₂, i₂, len₂, hc₂, hd₂, hf₂⟩ := hend
    have hW' : U.WarmedH s₂.vm := hW₂
    have hcc : c₂ = c := by
      have h1 : s₂.code? g.method = U.code? g.method := by
        rw [State.code?_eq, State.code?_eq, hW'.alike.method?]
      exact Option.some.inj (hc₂.symm.trans (h1.trans h.code))
    subst hcc
    have hlen : len₂ = len := by rw [hdg] at hd₂; cases hd₂; rfl
    subst hlen
    have hs₂ : s₂ = (({ U with heap := s₂.heap, slotsUsed := s₂.slotsUsed } : State).setVm s₂.vm).setTop { g with pc := g.pc + len₂, stack := v.toList ++ g.stack } := by
      refine e3.trans ?_
      rw [hf₂, State.calling_eq h.top, State.setFrames_setFrames, State.setTop_of_frames _ hr', hr]
      rfl
    have hsame : U.sameButNew ({ U with heap := s₂.heap, slotsUsed := s₂.slotsUsed } : State) L mc ms := by
      refine ⟨?_, q2, q3, q4, q5, q6⟩
      obtain ⟨t, ht, -⟩ := State.frames_cons hr
      show ({ U with heap := s₂.heap, slotsUsed := s₂.slotsUsed } : State) = { U.setFrames U.frames with heap := s₂.heap, slotsUsed := s₂.slotsUsed }
      rw [State.setFrames_self ht]
    subst hg
    refine Or.inl ⟨v, ⟨(({ U with heap := s₂.heap, slotsUsed := s₂.slotsUsed } : State).setVm s₂.vm), Ls ++ L, c0 + mc, s0 + ms⟩,
      ⟨X.admits, X.cas, X.clock, X.frames, X.room, X.hears, X.method, X.code, (X.here.setHeapUsed s₂.heap s₂.slotsUsed).setVm hW'.alike, X.tail, State.WarmedH.trans X.warmed hW', X.limits, X.bytes, X.same.trans (hsame.setVm s.vm)⟩,
      ⟨g, mk, s₂, L, rfl, rfl, hqc, rfl, hL, rfl, rfl⟩, ?_⟩
    show Steps p.tables e below _ ((({ U with heap := s₂.heap, slotsUsed := s₂.slotsUsed } : State).setVm s₂.vm).setTop { g with pc := g.pc + len₂, stack := v.toList ++ g.stack })
    rw [← hs₂]
    exact hsteps
  · obtain ⟨e2, q2, q3, q4, q5, q6⟩ := id hsm
    have e3 : s₂ = ({ (U.calling g mk a).setFrames s₂.frames with heap := s₂.heap, slotsUsed := s₂.slotsUsed } : State).setVm s₂.vm := by
      have : s₂ = ({ s₂ with vm := (U.calling g mk a).vm } : State).setVm s₂.vm := rfl
      rw [e2] at this
      exact this
    have hf₂ : s₂.frames = .throwing q :: .java g :: U.frames.tail := hend
    have hW' : U.WarmedH s₂.vm := hW₂
    have hs₂ : s₂ = ((({ U with heap := s₂.heap, slotsUsed := s₂.slotsUsed } : State).setVm s₂.vm).setTop g).pushFrame (.throwing q) := by
      refine e3.trans ?_
      rw [hf₂, State.calling_eq h.top, State.setFrames_setFrames, State.pushFrame, State.frames_setTop _ hr', State.setTop_of_frames _ hr', State.setFrames_setFrames, hr]
      rfl
    have hsame : U.sameButNew ({ U with heap := s₂.heap, slotsUsed := s₂.slotsUsed } : State) L mc ms := by
      refine ⟨?_, q2, q3, q4, q5, q6⟩
      obtain ⟨t, ht, -⟩ := State.frames_cons hr
      show ({ U with heap := s₂.heap, slotsUsed := s₂.slotsUsed } : State) = { U.setFrames U.frames with heap := s₂.heap, slotsUsed := s₂.slotsUsed }
      rw [State.setFrames_self ht]
    subst hg
    refine Or.inr ⟨q, ⟨(({ U with heap := s₂.heap, slotsUsed := s₂.slotsUsed } : State).setVm s₂.vm), Ls ++ L, c0 + mc, s0 + ms⟩,
      ⟨X.admits, X.cas, X.clock, X.frames, X.room, X.hears, X.method, X.code, (X.here.setHeapUsed s₂.heap s₂.slotsUsed).setVm hW'.alike, X.tail, State.WarmedH.trans X.warmed hW', X.limits, X.bytes, X.same.trans (hsame.setVm s.vm)⟩,
      ⟨g, mk, s₂, L, E, ce, rfl, rfl, hx, hce, hcv, hcl, rfl, hL, rfl, rfl⟩, ?_⟩
    show Steps p.tables e below _ (((({ U with heap := s₂.heap, slotsUsed := s₂.slotsUsed } : State).setVm s₂.vm).setTop g).pushFrame (.throwing q))
    rw [← hs₂]
    exact hsteps
end
variable {p : Program} {l : Launch} {e : Env} {R : Room} {s : State} {m : MethodId} {args : Array Value} {below : List Frame} {meth : Method} {c : Code} {T : State} {H : Heap} {locs : List Loc} {cells slots : Nat}
theorem vx_callVX (X : Stand p l e R s m args below meth c T locs cells slots) (hexec : p.tables.exec = Jvm.exec) {own C : String} {index : Nat} {y : MethodName} {bytes : ByteArray} {maxL : Nat} {ret : Option FieldType} {hh : List (Nat × Nat × Nat × Nat)}
    (hown : s.vm.findClass own = some m.cls) (hlink : (Cond.methodLink own index y).before args s = true) (hinst : (Cond.instanceMethod y).before args s = true) (hsel : (Cond.selects C y y).before args s = true)
    (hcode : (Cond.codeWith y bytes maxL ret hh).before args s = true) (hy : y.cls ≠ "java/lang/invoke/MethodHandle" ∧ y.cls ≠ "java/lang/invoke/VarHandle")
    {W9 : Nat} {Pre : Pt → Array Value → Prop} {Post : Pt → Array Value → Option Value → Pt → Prop} {PostX : Pt → Array Value → Addr → Pt → Prop} (hK : vx_Back l R p e below s args y 3 W9 Pre Post PostX)
    {b : Addr} {cellB : Cell} (hcell : T.heap[b]? = some cellB) (hobj : cellB.vm.isStatics = false) (hcls : s.vm.findClass C = some cellB.cls)
    {g : JFrame} (hg : g.method = m) (hsize : g.locals.size = c.maxLocals) {argsL rest : List Value} (hlen : ∀ sig, parseMethodDescriptor y.desc = some sig → argsL.length = sig.parameters.length)
    (hstack : g.stack = argsL.reverse ++ .ref b :: rest) (hW : 2 * g.monitorRoom + (rest.map fun v => v.category).sum ≤ W9) (hdg : decode c.code g.pc = .ok (.invokevirtual index, 3))
    (hpre : ∀ vm₁, s.WarmedH vm₁ → Pre ⟨T.setVm vm₁, locs, cells, slots⟩ (Value.ref b :: argsL).toArray) :
    (∃ (v : Option Value) (vm₁ : Vm) (B : Pt), s.WarmedH vm₁ ∧ Stand p l e R s m args below meth c B.U B.locs B.cells B.slots ∧ Post ⟨T.setVm vm₁, locs, cells, slots⟩ (Value.ref b :: argsL).toArray v B ∧
      ∀ target, Steps p.tables e below (B.U.setTop { g with pc := g.pc + 3, stack := v.toList ++ rest }) target → Steps p.tables e below (T.setTop g) target) ∨
    (∃ (q : Addr) (vm₁ : Vm) (B : Pt), s.WarmedH vm₁ ∧ Stand p l e R s m args below meth c B.U B.locs B.cells B.slots ∧ PostX ⟨T.setVm vm₁, locs, cells, slots⟩ (Value.ref b :: argsL).toArray q B ∧
      Steps p.tables e below (T.setTop g) ((B.U.setTop { g with stack := rest }).pushFrame (.throwing q))) := by
  obtain ⟨mk, methM, hnamed, hmethM, hstM, habM⟩ := Cond.instanceMethod_spec hinst
  obtain ⟨m8, methM', cM, hn8, hmethM', -, -, -, -, -, -, hsigM⟩ := Cond.codeWith_spec hcode
  cases Option.some.inj (hn8.symm.trans hnamed)
  cases hmethM.symm.trans hmethM'
  obtain ⟨c2, r2, m2, q1, q2, q3, q4, kP, hkP, hkPi⟩ := Cond.selects_spec hsel
  cases hcls.symm.trans q1
  cases (State.methodFound?_of_named hnamed hy).symm.trans q2
  cases hnamed.symm.trans q3
  have hselP : selectMethod e.platform s.vm cellB.cls mk = .method mk := by rw [Launch.admits_selectMethod X.admits]; exact q4
  obtain ⟨vm₁, X₁, hstep₁⟩ := X.invokevirtual hexec hown hlink hnamed hmethM hstM hkP hkPi hy (a := b) (cell := cellB) hcell
    (fun z h => by rw [h] at hobj; cases hobj) hselP hmethM habM hkP hkPi (g := g) hg (argsL := argsL) (rest := rest) (hlen _ hsigM) hstack hdg
  rcases hK m meth c ⟨T.setVm vm₁, locs, cells, slots⟩ { g with stack := rest } (.invokevirtual index) mk (Value.ref b :: argsL).toArray X₁ hg hsize hdg hW (X₁.named hnamed) (hpre vm₁ X₁.warmed) with ⟨v, B, X', hpost, hsteps⟩ | ⟨q, B, X', hpost, hsteps⟩
  · exact Or.inl ⟨v, vm₁, B, X₁.warmed, X', hpost, fun target h => hstep₁ _ fun acts => by rw [doInvoke_state]; exact hsteps.trans h⟩
  · exact Or.inr ⟨q, vm₁, B, X₁.warmed, X', hpost, hstep₁ _ fun acts => by rw [doInvoke_state]; exact hsteps⟩
theorem vx_callSX (X : Stand p l e R s m args below meth c T locs cells slots) (hexec : p.tables.exec = Jvm.exec) {own : String} {index : Nat} {y : MethodName} {bytes : ByteArray} {maxL : Nat} {ret : Option FieldType} {hh : List (Nat × Nat × Nat × Nat)}
    (hown : s.vm.findClass own = some m.cls) (hlink : (Cond.methodLink own index y).before args s = true) (hstat : (Cond.static y).before args s = true) (hinit : (Cond.initialized y.cls).before args s = true)
    (hcode : (Cond.codeWith y bytes maxL ret hh).before args s = true) (hy : y.cls ≠ "java/lang/invoke/MethodHandle" ∧ y.cls ≠ "java/lang/invoke/VarHandle")
    {W9 : Nat} {Pre : Pt → Array Value → Prop} {Post : Pt → Array Value → Option Value → Pt → Prop} {PostX : Pt → Array Value → Addr → Pt → Prop} (hK : vx_Back l R p e below s args y 3 W9 Pre Post PostX)
    {g : JFrame} (hg : g.method = m) (hsize : g.locals.size = c.maxLocals) {argsL rest : List Value} (hlen : ∀ sig, parseMethodDescriptor y.desc = some sig → argsL.length = sig.parameters.length)
    (hstack : g.stack = argsL.reverse ++ rest) (hW : 2 * g.monitorRoom + (rest.map fun v => v.category).sum ≤ W9) (hdg : decode c.code g.pc = .ok (.invokestatic index, 3))
    (hpre : ∀ vm₁, s.WarmedH vm₁ → Pre ⟨T.setVm vm₁, locs, cells, slots⟩ argsL.toArray) :
    (∃ (v : Option Value) (vm₁ : Vm) (B : Pt), s.WarmedH vm₁ ∧ Stand p l e R s m args below meth c B.U B.locs B.cells B.slots ∧ Post ⟨T.setVm vm₁, locs, cells, slots⟩ argsL.toArray v B ∧
      ∀ target, Steps p.tables e below (B.U.setTop { g with pc := g.pc + 3, stack := v.toList ++ rest }) target → Steps p.tables e below (T.setTop g) target) ∨
    (∃ (q : Addr) (vm₁ : Vm) (B : Pt), s.WarmedH vm₁ ∧ Stand p l e R s m args below meth c B.U B.locs B.cells B.slots ∧ PostX ⟨T.setVm vm₁, locs, cells, slots⟩ argsL.toArray q B ∧
      Steps p.tables e below (T.setTop g) ((B.U.setTop { g with stack := rest }).pushFrame (.throwing q))) := by
  obtain ⟨mk, methM, cM, hnamed, hmethM, -, -, -, -, -, -, hsigM⟩ := Cond.codeWith_spec hcode
  have hstatic : methM.isStatic = true := Cond.static_spec hnamed hmethM hstat
  obtain ⟨kP, hkP, -⟩ := className_of_methodNamed hnamed
  have hinitP : kP.init = .initialized := Cond.initialized_spec (findClass_of_methodNamed hnamed) hkP hinit
  obtain ⟨vm₁, X₁, hstep₁⟩ := X.invokestatic hexec hown hlink hnamed hmethM hstatic hkP hinitP hy (g := g) hg (argsL := argsL) (rest := rest) (hlen _ hsigM) hstack hdg
  rcases hK m meth c ⟨T.setVm vm₁, locs, cells, slots⟩ { g with stack := rest } (.invokestatic index) mk argsL.toArray X₁ hg hsize hdg hW (X₁.named hnamed) (hpre vm₁ X₁.warmed) with ⟨v, B, X', hpost, hsteps⟩ | ⟨q, B, X', hpost, hsteps⟩
  · exact Or.inl ⟨v, vm₁, B, X₁.warmed, X', hpost, fun target h => hstep₁ _ fun acts => by rw [doInvoke_state]; exact hsteps.trans h⟩
  · exact Or.inr ⟨q, vm₁, B, X₁.warmed, X', hpost, hstep₁ _ fun acts => by rw [doInvoke_state]; exact hsteps⟩
theorem vx_callVW (X : Stand p l e R s m args below meth c T locs cells slots) (hexec : p.tables.exec = Jvm.exec) {own C : String} {index : Nat} {y : MethodName} {bytes : ByteArray} {maxL : Nat} {ret : Option FieldType} {hh : List (Nat × Nat × Nat × Nat)}
    (hown : s.vm.findClass own = some m.cls) (hlink : (Cond.methodLink own index y).before args s = true) (hinst : (Cond.instanceMethod y).before args s = true) (hsel : (Cond.selects C y y).before args s = true)
    (hcode : (Cond.codeWith y bytes maxL ret hh).before args s = true) (hy : y.cls ≠ "java/lang/invoke/MethodHandle" ∧ y.cls ≠ "java/lang/invoke/VarHandle")
    {W9 : Nat} {Pre : Pt → Array Value → Prop} {Post : Pt → Array Value → Option Value → Pt → Prop} (hK : Back l R p e below s args y 3 W9 Pre Post)
    {b : Addr} {cellB : Cell} (hcell : T.heap[b]? = some cellB) (hobj : cellB.vm.isStatics = false) (hcls : s.vm.findClass C = some cellB.cls)
    {g : JFrame} (hg : g.method = m) (hsize : g.locals.size = c.maxLocals) {argsL rest : List Value} (hlen : ∀ sig, parseMethodDescriptor y.desc = some sig → argsL.length = sig.parameters.length)
    (hstack : g.stack = argsL.reverse ++ .ref b :: rest) (hW : 2 * g.monitorRoom + (rest.map fun v => v.category).sum ≤ W9) (hdg : decode c.code g.pc = .ok (.invokevirtual index, 3))
    (hpre : ∀ vm₁, s.WarmedH vm₁ → Pre ⟨T.setVm vm₁, locs, cells, slots⟩ (Value.ref b :: argsL).toArray) :
    ∃ (v : Option Value) (vm₁ : Vm) (B : Pt), s.WarmedH vm₁ ∧ Stand p l e R s m args below meth c B.U B.locs B.cells B.slots ∧ Post ⟨T.setVm vm₁, locs, cells, slots⟩ (Value.ref b :: argsL).toArray v B ∧
      ∀ target, Steps p.tables e below (B.U.setTop { g with pc := g.pc + 3, stack := v.toList ++ rest }) target → Steps p.tables e below (T.setTop g) target := by
  obtain ⟨mk, methM, hnamed, hmethM, hstM, habM⟩ := Cond.instanceMethod_spec hinst
  obtain ⟨m8, methM', cM, hn8, hmethM', -, -, -, -, -, -, hsigM⟩ := Cond.codeWith_spec hcode
  cases Option.some.inj (hn8.symm.trans hnamed)
  cases hmethM.symm.trans hmethM'
  obtain ⟨c2, r2, m2, q1, q2, q3, q4, kP, hkP, hkPi⟩ := Cond.selects_spec hsel
  cases hcls.symm.trans q1
  cases (State.methodFound?_of_named hnamed hy).symm.trans q2
  cases hnamed.symm.trans q3
  have hselP : selectMethod e.platform s.vm cellB.cls mk = .method mk := by rw [Launch.admits_selectMethod X.admits]; exact q4
  obtain ⟨vm₁, X₁, hstep₁⟩ := X.invokevirtual hexec hown hlink hnamed hmethM hstM hkP hkPi hy (a := b) (cell := cellB) hcell
    (fun z h => by rw [h] at hobj; cases hobj) hselP hmethM habM hkP hkPi (g := g) hg (argsL := argsL) (rest := rest) (hlen _ hsigM) hstack hdg
  obtain ⟨v, B, X', hpost, hsteps⟩ := hK m meth c ⟨T.setVm vm₁, locs, cells, slots⟩ { g with stack := rest } (.invokevirtual index) mk (Value.ref b :: argsL).toArray X₁ hg hsize hdg hW (X₁.named hnamed) (hpre vm₁ X₁.warmed)
  exact ⟨v, vm₁, B, X₁.warmed, X', hpost, fun target h => hstep₁ _ fun acts => by rw [doInvoke_state]; exact hsteps.trans h⟩
abbrev vx_CVW (R : Room) (s : State) (args : Array Value) (own C : String) (index : Nat) (y : MethodName) (bytes : ByteArray) (maxL : Nat) (ret : Option FieldType) (hh : List (Nat × Nat × Nat × Nat)) (ws : List Cond) (rm : Room) (mc ms n : Nat) : Prop :=
  (rm.cells = mc ∧ rm.slots = ms ∧ rm.frames + 1 ≤ R.frames ∧ 8 + (maxL + 11) + rm.locals ≤ R.locals ∧ (∀ w ∈ ws, ∀ (a' : Array Value) (U : State), s.WarmedH U.vm → w.before a' U = true) ∧ Cond.codeWith y bytes maxL ret hh ∈ ws) ∧
  (Cond.codeWith y bytes maxL ret hh).before args s = true ∧ (Cond.initialized y.cls).before args s = true ∧ (y.cls ≠ "java/lang/invoke/MethodHandle" ∧ y.cls ≠ "java/lang/invoke/VarHandle") ∧
  (∀ sig, parseMethodDescriptor y.desc = some sig → n = sig.parameters.length) ∧ (Cond.methodLink own index y).before args s = true ∧ (Cond.instanceMethod y).before args s = true ∧ (Cond.selects C y y).before args s = true
theorem vx_cwVW {own C : String} {index maxL mc ms : Nat} {y : MethodName} {bytes : ByteArray} {ret : Option FieldType} {hh : List (Nat × Nat × Nat × Nat)} {Ts ws ws' : List Cond} {rm : Room} (n : Nat) (ht : ∀ w ∈ Ts, w.before args s = true) (hT : GoodIn Ts (wsV own index C y ws)) (hw : ws = Cond.codeWith y bytes maxL ret hh :: ws') (hrc : rm.cells = mc) (hrs : rm.slots = ms)
    (hd : y.cls = C ∧ y.cls ≠ "java/lang/invoke/MethodHandle" ∧ y.cls ≠ "java/lang/invoke/VarHandle" ∧ (parseMethodDescriptor y.desc).map (fun d => d.parameters.length) = some n) (hR : rm.frames + 1 ≤ R.frames ∧ 8 + (maxL + 11) + rm.locals ≤ R.locals) :
    vx_CVW R s args own C index y bytes maxL ret hh ws rm mc ms n := by
  obtain ⟨hC, hd⟩ := hd
  subst hC
  have ok : ∀ w ∈ wsV own index y.cls y ws, w.before args s = true := fun w h => ht w (hT w h).1
  have hG : GoodIn Ts ws := fun w h => hT w (by unfold wsV; exact List.mem_append_right _ h)
  have hc : Cond.codeWith y bytes maxL ret hh ∈ ws := by rw [hw]; exact List.mem_cons_self
  refine ⟨⟨hrc, hrs, hR.1, hR.2, pay_in ht hG, hc⟩, ht _ (hG _ hc).1, ok _ (by simp [wsV]), ⟨hd.1, hd.2.1⟩, fun sig h => ?_, ok _ (by simp [wsV]), ok _ (by simp [wsV]), ok _ (by simp [wsV])⟩
  have h2 := hd.2.2
  rw [h] at h2
  exact (Option.some.inj h2).symm
theorem vx_runVW {y : MethodName} {bytes cc : ByteArray} {maxL nL mc ms n index : Nat} {ret : Option FieldType} {hh : List (Nat × Nat × Nat × Nat)} {ws : List Cond} {rm : Room} {Pc : Array Value → State → Prop} {Qc : Array Value → State → Outcome → State → Prop} {free : Addr → Prop} {Ts : List Cond} {own C : String} {b : Addr} {As rest : List Value} {g : JFrame}
    (S : CallFix p m c cc nL s args Ts own) (hM : Met l y ws rm Pc Qc mc ms free) (cw : vx_CVW R s args own C index y bytes maxL ret hh ws rm mc ms n) (hp : PreV s H C b Pc As)
    (hg : g.method = m) (hn : As.length = n) (hsize : g.locals.size = nL) (hstack : g.stack = As.reverse ++ .ref b :: rest) (hW : 2 * g.monitorRoom + (rest.map fun v => v.category).sum ≤ 8) (hdg : decode cc g.pc = .ok (.invokevirtual index, 3)) (hf : cells + mc ≤ R.cells ∧ slots + ms ≤ R.slots) :
    va_Run p l e R s m args below meth c H locs cells slots mc ms g rest (Qc (Value.ref b :: As).toArray) free := by
  obtain ⟨⟨hrc, hrs, hfr, hlo, hws, hcw⟩, hcode, hini, hy, hlen, hl, hin, hse⟩ := cw
  have hK : Back l R p e below s args y 3 8 (PreOf R mc ms Pc) (PostOf Qc mc ms free) := va_backW (hh := hh) (bytes := bytes) (maxL := maxL) (ret := ret) hM hp.1 hrc hrs hfr hlo hws hcw (fun a' U hW => word_at hW (Or.inl (by first | rfl | simp [Cond.onTables, Cond.keeps, Cond.steady])) hini)
  obtain ⟨hx, hb, hml, ho, -⟩ := S
  obtain ⟨-, ⟨cellB, hcB, hoB, hclB⟩, hPc⟩ := hp
  intro T hT X
  obtain ⟨v, vm₁, ⟨U', l2, c2, s2⟩, hW₁, X', ⟨g', mk, t, L, e1, e2, hq, h1, hL, h2, h3⟩, st⟩ := vx_callVW X hx (C := C) (hh := hh) (bytes := bytes) (maxL := maxL) (ret := ret) ho hl hin hse hcode hy hK (by rw [hT]; exact hcB) hoB hclB hg (hsize.trans hml.symm) (argsL := As) (rest := rest) (fun sig h => hn.trans (hlen sig h)) hstack hW (by rw [hb]; exact hdg)
    (fun vm₁ hW₁ => ⟨hf.1, hf.2, hPc (T.setVm vm₁) hT hW₁⟩)
  dsimp only [Pt.U, Pt.locs, Pt.cells, Pt.slots] at X' e1 e2 h1 h2 h3 st
  subst h1; subst h2; subst h3
  exact ⟨v, (T.setVm vm₁).calling g' mk (Value.ref b :: As).toArray, t, U', L, hT, X', hL, e1, e2, hq, st⟩
section
variable {y : MethodName} {bytes cc : ByteArray} {maxL nL mc ms n index : Nat} {ret : Option FieldType} {ws : List Cond} {rm : Room} {Pc : Array Value → State → Prop} {Qc : Array Value → State → Outcome → State → Prop} {XC : String → State → State → Prop} {free : Addr → Prop} {Ts : List Cond} {own C : String} {b : Addr} {As rest : List Value} {g : JFrame}
theorem vx_runVX {hh : List (Nat × Nat × Nat × Nat)} (S : CallFix p m c cc nL s args Ts own) (hM : vx_Met l y ws rm Pc Qc XC mc ms free) (cw : vx_CVW R s args own C index y bytes maxL ret hh ws rm mc ms n) (hp : PreV s H C b Pc As)
    (hg : g.method = m) (hn : As.length = n) (hsize : g.locals.size = nL) (hstack : g.stack = As.reverse ++ .ref b :: rest) (hW : 2 * g.monitorRoom + (rest.map fun v => v.category).sum ≤ 8) (hdg : decode cc g.pc = .ok (.invokevirtual index, 3)) (hf : cells + mc ≤ R.cells ∧ slots + ms ≤ R.slots) :
    vx_Run p l e R s m args below meth c H locs cells slots mc ms g rest (Qc (Value.ref b :: As).toArray) XC free := by
  obtain ⟨⟨hrc, hrs, hfr, hlo, hws, hcw⟩, hcode, hini, hy, hlen, hl, hin, hse⟩ := cw
  have hK : vx_Back l R p e below s args y 3 8 (PreOf R mc ms Pc) (PostOf Qc mc ms free) (vx_Post XC mc ms free) := vx_backW (hh := hh) (bytes := bytes) (maxL := maxL) (ret := ret) hM hp.1 hrc hrs hfr hlo hws hcw (fun a' U hW => word_at hW (Or.inl (by first | rfl | simp [Cond.onTables, Cond.keeps, Cond.steady])) hini)
  obtain ⟨hx, hb, hml, ho, -⟩ := S
  obtain ⟨-, ⟨cellB, hcB, hoB, hclB⟩, hPc⟩ := hp
  intro T hT X
  rcases vx_callVX X hx (C := C) (hh := hh) (bytes := bytes) (maxL := maxL) (ret := ret) ho hl hin hse hcode hy hK (by rw [hT]; exact hcB) hoB hclB hg (hsize.trans hml.symm) (argsL := As) (rest := rest) (fun sig h => hn.trans (hlen sig h)) hstack hW (by rw [hb]; exact hdg)
    (fun vm₁ hW₁ => ⟨hf.1, hf.2, hPc (T.setVm vm₁) hT hW₁⟩) with ⟨v, vm₁, ⟨U', l2, c2, s2⟩, hW₁, X', ⟨g', mk, t, L, e1, e2, hq, h1, hL, h2, h3⟩, st⟩ | ⟨q, vm₁, ⟨U', l2, c2, s2⟩, hW₁, X', ⟨g', mk, t, L, E, ce, e1, e2, hq, hce, hcv, hcl, h1, hL, h2, h3⟩, st⟩
  · dsimp only [Pt.U, Pt.locs, Pt.cells, Pt.slots] at X' e1 e2 h1 h2 h3 st
    subst h1; subst h2; subst h3
    exact Or.inl ⟨v, (T.setVm vm₁).calling g' mk (Value.ref b :: As).toArray, t, U', L, hT, X', hL, e1, e2, hq, st⟩
  · dsimp only [Pt.U, Pt.locs, Pt.cells, Pt.slots] at X' e1 e2 h1 h2 h3 st hcl
    subst h1; subst h2; subst h3
    exact Or.inr ⟨q, (T.setVm vm₁).calling g' mk (Value.ref b :: As).toArray, t, U', L, E, ce, hT, X', hL, e1, e2, hq, hce, hcv, vx_cls hW₁ hcl, st⟩
theorem vx_runSX {hh : List (Nat × Nat × Nat × Nat)} (S : CallFix p m c cc nL s args Ts own) (hM : vx_Met l y ws rm Pc Qc XC mc ms free) (cw : vx_CSW R s args own index y bytes maxL ret hh ws rm mc ms n) (hp : PreS s H Pc As)
    (hg : g.method = m) (hn : As.length = n) (hsize : g.locals.size = nL) (hstack : g.stack = As.reverse ++ rest) (hW : 2 * g.monitorRoom + (rest.map fun v => v.category).sum ≤ 8) (hdg : decode cc g.pc = .ok (.invokestatic index, 3)) (hf : cells + mc ≤ R.cells ∧ slots + ms ≤ R.slots) :
    vx_Run p l e R s m args below meth c H locs cells slots mc ms g rest (Qc As.toArray) XC free := by
  obtain ⟨⟨hrc, hrs, hfr, hlo, hws, hcw⟩, hcode, hini, hy, hlen, hl, hstt⟩ := cw
  have hK : vx_Back l R p e below s args y 3 8 (PreOf R mc ms Pc) (PostOf Qc mc ms free) (vx_Post XC mc ms free) := vx_backW (hh := hh) (bytes := bytes) (maxL := maxL) (ret := ret) hM hp.1 hrc hrs hfr hlo hws hcw (fun a' U hW => word_at hW (Or.inl (by first | rfl | simp [Cond.onTables, Cond.keeps, Cond.steady])) hini)
  obtain ⟨hx, hb, hml, ho, -⟩ := S
  intro T hT X
  rcases vx_callSX X hx (hh := hh) (bytes := bytes) (maxL := maxL) (ret := ret) ho hl hstt hini hcode hy hK hg (hsize.trans hml.symm) (argsL := As) (rest := rest) (fun sig h => hn.trans (hlen sig h)) hstack hW (by rw [hb]; exact hdg)
    (fun vm₁ hW₁ => ⟨hf.1, hf.2, hp.2 (T.setVm vm₁) hT hW₁⟩) with ⟨v, vm₁, ⟨U', l2, c2, s2⟩, hW₁, X', ⟨g', mk, t, L, e1, e2, hq, h1, hL, h2, h3⟩, st⟩ | ⟨q, vm₁, ⟨U', l2, c2, s2⟩, hW₁, X', ⟨g', mk, t, L, E, ce, e1, e2, hq, hce, hcv, hcl, h1, hL, h2, h3⟩, st⟩
  · dsimp only [Pt.U, Pt.locs, Pt.cells, Pt.slots] at X' e1 e2 h1 h2 h3 st
    subst h1; subst h2; subst h3
    exact Or.inl ⟨v, (T.setVm vm₁).calling g' mk As.toArray, t, U', L, hT, X', hL, e1, e2, hq, st⟩
  · dsimp only [Pt.U, Pt.locs, Pt.cells, Pt.slots] at X' e1 e2 h1 h2 h3 st hcl
    subst h1; subst h2; subst h3
    exact Or.inr ⟨q, (T.setVm vm₁).calling g' mk As.toArray, t, U', L, E, ce, hT, X', hL, e1, e2, hq, hce, hcv, vx_cls hW₁ hcl, st⟩
end
end VXH
theorem vx_ofWH {l : Launch} {y : MethodName} {ws ws' : List Cond} {rm : Room} {Pc : Array Value → State → Prop} {Qc : Array Value → State → Outcome → State → Prop} {XC : String → State → State → Prop} {mc ms : Nat} {free : Addr → Prop} {cc : ByteArray} {maxL : Nat} {ret : Option FieldType} {hh : List (Nat × Nat × Nat × Nat)}
    (hy : plainName y.cls = true) (hw : ws = Cond.codeWith y cc maxL ret hh :: ws')
    (body : ∀ p e s m args below meth c s₁, BodyLoose p l y (headSpec ws rm) cc maxL ret e s m args below meth c s₁ → c.maxLocals = maxL → Pc args s →
      W p l e (headSpec ws rm).room s m args below meth c s.heap [] 0 0 (vx_MQ below Qc XC args s mc ms free) (entryFrame m args maxL)) : vx_Met l y ws rm Pc Qc XC mc ms free := by
  refine MetFree.of_bodyS (code := cc) (maxLocals := maxL) (ret := ret) hy ?_ ?_
  · intro args s m h hn
    obtain ⟨m9, meth, c, hn9, h1, h2, h3, h4, -, h5, h6, -⟩ := Cond.codeWith_spec (atoms_spec (ws := ws) h _ (by rw [hw]; exact List.mem_cons_self))
    cases hn.symm.trans hn9
    exact ⟨meth, c, h1, h2, h3, h4, h5, h6⟩
  · intro p e s m args below meth c s₁ B hml hP _
    have hh0 : s₁.heap = s.heap := by rw [B.state]; rfl
    obtain ⟨t, a1, o, b1, b2, b3⟩ := body p e s m args below meth c s₁ B hml hP s₁ hh0 (Stand.of_body B)
    exact ⟨t, o, a1, b1, b2, b3⟩
/-! ===== END ===== -/
end
section
/-! names: classes, fields in the order of their slots, methods; the words that the tables give; a call site: what it links to. Written by wip/whole/names.py -/
def RX : String := "TideTables"
def TX : u_T := fun k => match k with
  | 0 => ("TideTables", "level", "I", false)
  | 1 => ("TideTables", "amplitudes", "[I", true)
  | 2 => ("TideTables", "speeds", "[J", true)
  | 3 => ("TideTables", "phases", "[J", true)
  | 4 => ("TideTables", "factors", "[[I", true)
  | 5 => ("TideTables", "shifts", "[[J", true)
  | 6 => ("TideTables", "firsts", "[I", true)
  | 7 => ("TideTables", "turns", "[I", true)
  | 8 => ("TideTables", "turnCount", "I", false)
  | _ => ("TideTables", "turnDay", "I", false)
def tX : Nat → FieldType := fun k => match k with
  | 0 => .int
  | 1 => .array .int
  | 2 => .array .long
  | 3 => .array .long
  | 4 => .array (.array .int)
  | 5 => .array (.array .long)
  | 6 => .array .int
  | 7 => .array .int
  | 8 => .int
  | _ => .int
theorem nX : ∀ a, a < 10 → ∀ b, b < 10 → a ≠ b → (TX a).2.1 ≠ (TX b).2.1 := by decide +kernel
theorem tX_ok : ∀ k, k < 10 → parseFieldDescriptor (TX k).2.2.1 = some (tX k) := by decide +kernel
def RM : String := "TideTablesModel"
def TM : u_T := fun k => match k with
  | 0 => ("TideTablesModel", "thrown", "I", false)
  | 1 => ("TideTablesModel", "level", "I", false)
  | 2 => ("TideTablesModel", "days", "[I", true)
  | 3 => ("TideTablesModel", "amplitudes", "[I", true)
  | 4 => ("TideTablesModel", "speeds", "[J", true)
  | 5 => ("TideTablesModel", "phases", "[J", true)
  | 6 => ("TideTablesModel", "factors", "[I", true)
  | 7 => ("TideTablesModel", "shifts", "[J", true)
  | 8 => ("TideTablesModel", "heights", "[I", true)
  | 9 => ("TideTablesModel", "found", "I", false)
  | 10 => ("TideTablesModel", "minutes", "[I", true)
  | 11 => ("TideTablesModel", "highs", "[Z", true)
  | 12 => ("TideTablesModel", "size", "I", false)
  | _ => ("TideTablesModel", "text", "[I", true)
def tM : Nat → FieldType := fun k => match k with
  | 0 => .int
  | 1 => .int
  | 2 => .array .int
  | 3 => .array .int
  | 4 => .array .long
  | 5 => .array .long
  | 6 => .array .int
  | 7 => .array .long
  | 8 => .array .int
  | 9 => .int
  | 10 => .array .int
  | 11 => .array .boolean
  | 12 => .int
  | _ => .array .int
theorem nM : ∀ a, a < 14 → ∀ b, b < 14 → a ≠ b → (TM a).2.1 ≠ (TM b).2.1 := by decide +kernel
theorem tM_ok : ∀ k, k < 14 → parseFieldDescriptor (TM k).2.2.1 = some (tM k) := by decide +kernel
def RL : String := "TideTablesLaw"
abbrev tcl : List vw_C := [(RX, TX, 10), (RM, TM, 14)]
abbrev b_X_init : ByteArray := prog_1_method_1_code
def y_X_init : MethodName := ⟨RX, "<init>", "()V"⟩
abbrev b_X_level : ByteArray := prog_1_method_2_code
def y_X_level : MethodName := ⟨RX, "level", "(I)I"⟩
abbrev b_X_constituent : ByteArray := prog_1_method_3_code
def y_X_constituent : MethodName := ⟨RX, "constituent", "(IIJJ)V"⟩
abbrev b_X_node : ByteArray := prog_1_method_4_code
def y_X_node : MethodName := ⟨RX, "node", "(IIIJ)V"⟩
abbrev b_X_days : ByteArray := prog_1_method_5_code
def y_X_days : MethodName := ⟨RX, "days", "(II)I"⟩
abbrev b_X_first : ByteArray := prog_1_method_6_code
def y_X_first : MethodName := ⟨RX, "first", "(I)I"⟩
abbrev b_X_year : ByteArray := prog_1_method_7_code
def y_X_year : MethodName := ⟨RX, "year", "(I)I"⟩
abbrev b_X_position : ByteArray := prog_1_method_8_code
def y_X_position : MethodName := ⟨RX, "position", "(II)J"⟩
abbrev b_X_cosine : ByteArray := prog_1_method_9_code
def y_X_cosine : MethodName := ⟨RX, "cosine", "(J)I"⟩
abbrev b_X_height : ByteArray := prog_1_method_10_code
def y_X_height : MethodName := ⟨RX, "height", "(I)I"⟩
abbrev b_X_mean : ByteArray := prog_1_method_11_code
def y_X_mean : MethodName := ⟨RX, "mean", "(II)I"⟩
abbrev b_X_extremes : ByteArray := prog_1_method_12_code
def y_X_extremes : MethodName := ⟨RX, "extremes", "(I)I"⟩
abbrev b_X_extreme : ByteArray := prog_1_method_13_code
def y_X_extreme : MethodName := ⟨RX, "extreme", "(III)I"⟩
abbrev b_X_line : ByteArray := prog_1_method_14_code
def y_X_line : MethodName := ⟨RX, "line", "(II)I"⟩
abbrev b_X_sign : ByteArray := prog_1_method_15_code
def y_X_sign : MethodName := ⟨RX, "sign", "(III)I"⟩
abbrev b_X_above : ByteArray := prog_1_method_16_code
def y_X_above : MethodName := ⟨RX, "above", "(III)I"⟩
abbrev b_X_isConstituent : ByteArray := prog_1_method_17_code
def y_X_isConstituent : MethodName := ⟨RX, "isConstituent", "(I)Z"⟩
abbrev b_X_isYear : ByteArray := prog_1_method_18_code
def y_X_isYear : MethodName := ⟨RX, "isYear", "(I)Z"⟩
abbrev b_X_isPosition : ByteArray := prog_1_method_19_code
def y_X_isPosition : MethodName := ⟨RX, "isPosition", "(J)Z"⟩
abbrev b_X_isMinute : ByteArray := prog_1_method_20_code
def y_X_isMinute : MethodName := ⟨RX, "isMinute", "(I)Z"⟩
abbrev b_X_isDay : ByteArray := prog_1_method_21_code
def y_X_isDay : MethodName := ⟨RX, "isDay", "(I)Z"⟩
abbrev b_X_isExtreme : ByteArray := prog_1_method_22_code
def y_X_isExtreme : MethodName := ⟨RX, "isExtreme", "(II)Z"⟩
abbrev b_X_yearOf : ByteArray := prog_1_method_23_code
def y_X_yearOf : MethodName := ⟨RX, "yearOf", "(I)I"⟩
abbrev b_X_positionAt : ByteArray := prog_1_method_24_code
def y_X_positionAt : MethodName := ⟨RX, "positionAt", "(III)J"⟩
abbrev b_X_cosineOf : ByteArray := prog_1_method_25_code
def y_X_cosineOf : MethodName := ⟨RX, "cosineOf", "(J)I"⟩
abbrev b_X_heightAt : ByteArray := prog_1_method_26_code
def y_X_heightAt : MethodName := ⟨RX, "heightAt", "(I)I"⟩
abbrev b_X_partAt : ByteArray := prog_1_method_27_code
def y_X_partAt : MethodName := ⟨RX, "partAt", "(III)J"⟩
abbrev b_X_forgetTurns : ByteArray := prog_1_method_28_code
def y_X_forgetTurns : MethodName := ⟨RX, "forgetTurns", "()V"⟩
abbrev b_X_countTurns : ByteArray := prog_1_method_29_code
def y_X_countTurns : MethodName := ⟨RX, "countTurns", "(I)I"⟩
abbrev b_X_findTurns : ByteArray := prog_1_method_30_code
def y_X_findTurns : MethodName := ⟨RX, "findTurns", "(I)V"⟩
abbrev b_X_isHigh : ByteArray := prog_1_method_31_code
def y_X_isHigh : MethodName := ⟨RX, "isHigh", "(I)Z"⟩
abbrev b_X_lineOf : ByteArray := prog_1_method_32_code
def y_X_lineOf : MethodName := ⟨RX, "lineOf", "(I)Ljava/lang/StringBuilder;"⟩
abbrev b_X_appendHeight : ByteArray := prog_1_method_33_code
def y_X_appendHeight : MethodName := ⟨RX, "appendHeight", "(Ljava/lang/StringBuilder;I)V"⟩
abbrev b_X_appendDigits : ByteArray := prog_1_method_34_code
def y_X_appendDigits : MethodName := ⟨RX, "appendDigits", "(Ljava/lang/StringBuilder;II)V"⟩
abbrev b_M_init : ByteArray := prog_3_method_1_code
def y_M_init : MethodName := ⟨RM, "<init>", "()V"⟩
abbrev b_M_thrown : ByteArray := prog_3_method_2_code
def y_M_thrown : MethodName := ⟨RM, "thrown", "()I"⟩
abbrev b_M_isOne : ByteArray := prog_3_method_3_code
def y_M_isOne : MethodName := ⟨RM, "isOne", "(I)Z"⟩
abbrev b_M_isYear : ByteArray := prog_3_method_4_code
def y_M_isYear : MethodName := ⟨RM, "isYear", "(I)Z"⟩
abbrev b_M_isTurn : ByteArray := prog_3_method_5_code
def y_M_isTurn : MethodName := ⟨RM, "isTurn", "(J)Z"⟩
abbrev b_M_level : ByteArray := prog_3_method_6_code
def y_M_level : MethodName := ⟨RM, "level", "(I)I"⟩
abbrev b_M_constituent : ByteArray := prog_3_method_7_code
def y_M_constituent : MethodName := ⟨RM, "constituent", "(IIJJ)V"⟩
abbrev b_M_node : ByteArray := prog_3_method_8_code
def y_M_node : MethodName := ⟨RM, "node", "(IIIJ)V"⟩
abbrev b_M_days : ByteArray := prog_3_method_9_code
def y_M_days : MethodName := ⟨RM, "days", "(II)I"⟩
abbrev b_M_daysBefore : ByteArray := prog_3_method_10_code
def y_M_daysBefore : MethodName := ⟨RM, "daysBefore", "(I)I"⟩
abbrev b_M_isMinute : ByteArray := prog_3_method_11_code
def y_M_isMinute : MethodName := ⟨RM, "isMinute", "(I)Z"⟩
abbrev b_M_isDay : ByteArray := prog_3_method_12_code
def y_M_isDay : MethodName := ⟨RM, "isDay", "(I)Z"⟩
abbrev b_M_yearOfDay : ByteArray := prog_3_method_13_code
def y_M_yearOfDay : MethodName := ⟨RM, "yearOfDay", "(I)I"⟩
abbrev b_M_first : ByteArray := prog_3_method_14_code
def y_M_first : MethodName := ⟨RM, "first", "(I)I"⟩
abbrev b_M_year : ByteArray := prog_3_method_15_code
def y_M_year : MethodName := ⟨RM, "year", "(I)I"⟩
abbrev b_M_positionOf : ByteArray := prog_3_method_16_code
def y_M_positionOf : MethodName := ⟨RM, "positionOf", "(III)J"⟩
abbrev b_M_position : ByteArray := prog_3_method_17_code
def y_M_position : MethodName := ⟨RM, "position", "(II)J"⟩
abbrev b_M_cosineOf : ByteArray := prog_3_method_18_code
def y_M_cosineOf : MethodName := ⟨RM, "cosineOf", "(J)J"⟩
abbrev b_M_cosine : ByteArray := prog_3_method_19_code
def y_M_cosine : MethodName := ⟨RM, "cosine", "(J)I"⟩
abbrev b_M_floor : ByteArray := prog_3_method_20_code
def y_M_floor : MethodName := ⟨RM, "floor", "(JJ)J"⟩
abbrev b_M_heightAt : ByteArray := prog_3_method_21_code
def y_M_heightAt : MethodName := ⟨RM, "heightAt", "(I)I"⟩
abbrev b_M_height : ByteArray := prog_3_method_22_code
def y_M_height : MethodName := ⟨RM, "height", "(I)I"⟩
abbrev b_M_mean : ByteArray := prog_3_method_23_code
def y_M_mean : MethodName := ⟨RM, "mean", "(II)I"⟩
abbrev b_M_look : ByteArray := prog_3_method_24_code
def y_M_look : MethodName := ⟨RM, "look", "(I)V"⟩
abbrev b_M_extremes : ByteArray := prog_3_method_25_code
def y_M_extremes : MethodName := ⟨RM, "extremes", "(I)I"⟩
abbrev b_M_isExtreme : ByteArray := prog_3_method_26_code
def y_M_isExtreme : MethodName := ⟨RM, "isExtreme", "(II)Z"⟩
abbrev b_M_extreme : ByteArray := prog_3_method_27_code
def y_M_extreme : MethodName := ⟨RM, "extreme", "(III)I"⟩
abbrev b_M_put : ByteArray := prog_3_method_28_code
def y_M_put : MethodName := ⟨RM, "put", "(I)V"⟩
abbrev b_M_putDigits : ByteArray := prog_3_method_29_code
def y_M_putDigits : MethodName := ⟨RM, "putDigits", "(II)V"⟩
abbrev b_M_write : ByteArray := prog_3_method_30_code
def y_M_write : MethodName := ⟨RM, "write", "(II)V"⟩
abbrev b_M_line : ByteArray := prog_3_method_31_code
def y_M_line : MethodName := ⟨RM, "line", "(II)I"⟩
abbrev b_M_sign : ByteArray := prog_3_method_32_code
def y_M_sign : MethodName := ⟨RM, "sign", "(III)I"⟩
abbrev b_M_above : ByteArray := prog_3_method_33_code
def y_M_above : MethodName := ⟨RM, "above", "(III)I"⟩
abbrev b_L_level : ByteArray := method_3_code
def y_L_level : MethodName := ⟨RL, "level", "(LTideTables;I[J)I"⟩
abbrev b_L_constituent : ByteArray := method_4_code
def y_L_constituent : MethodName := ⟨RL, "constituent", "(LTideTables;IIJJ)I"⟩
abbrev b_L_node : ByteArray := method_5_code
def y_L_node : MethodName := ⟨RL, "node", "(LTideTables;IIIJ)I"⟩
abbrev b_L_days : ByteArray := method_6_code
def y_L_days : MethodName := ⟨RL, "days", "(LTideTables;II[J)I"⟩
abbrev b_L_first : ByteArray := method_7_code
def y_L_first : MethodName := ⟨RL, "first", "(LTideTables;I[J)I"⟩
abbrev b_L_year : ByteArray := method_8_code
def y_L_year : MethodName := ⟨RL, "year", "(LTideTables;I[J)I"⟩
abbrev b_L_position : ByteArray := method_9_code
def y_L_position : MethodName := ⟨RL, "position", "(LTideTables;II[J)I"⟩
abbrev b_L_cosine : ByteArray := method_10_code
def y_L_cosine : MethodName := ⟨RL, "cosine", "(LTideTables;J[J)I"⟩
abbrev b_L_height : ByteArray := method_11_code
def y_L_height : MethodName := ⟨RL, "height", "(LTideTables;I[J)I"⟩
abbrev b_L_mean : ByteArray := method_12_code
def y_L_mean : MethodName := ⟨RL, "mean", "(LTideTables;II[J)I"⟩
abbrev b_L_extremes : ByteArray := method_13_code
def y_L_extremes : MethodName := ⟨RL, "extremes", "(LTideTables;I[J)I"⟩
abbrev b_L_extreme : ByteArray := method_14_code
def y_L_extreme : MethodName := ⟨RL, "extreme", "(LTideTables;III[J)I"⟩
abbrev b_L_line : ByteArray := method_15_code
def y_L_line : MethodName := ⟨RL, "line", "(LTideTables;II[J)I"⟩
abbrev b_L_sign : ByteArray := method_16_code
def y_L_sign : MethodName := ⟨RL, "sign", "(LTideTables;III[J)I"⟩
abbrev b_L_above : ByteArray := method_17_code
def y_L_above : MethodName := ⟨RL, "above", "(LTideTables;III[J)I"⟩
abbrev b_L_law : ByteArray := code
def y_L_law : MethodName := ⟨RL, "law", "([I)Z"⟩
def TT : List Cond := lw_tbl.filter goodWord
theorem TT_good : ∀ w ∈ TT, goodWord w = true := fun w h => (List.mem_filter.mp h).2
theorem TT_t {w : Cond} (i : Nat) (h : tables_1[i]? = some w) (g : goodWord w = true) : w ∈ TT := List.mem_filter.mpr ⟨List.mem_append_right _ (List.mem_of_getElem? h), g⟩
theorem TT_s {w : Cond} (i : Nat) (h : (k2_sels lw_privs)[i]? = some w) (g : goodWord w = true) : w ∈ TT := List.mem_filter.mpr ⟨List.mem_append_left _ (List.mem_of_getElem? h), g⟩
/-- a method's words: its code, and what the tables give -/
abbrev wT (y : MethodName) (b : ByteArray) (n : Nat) (r : Option FieldType) : List Cond := .code y b n r :: TT
abbrev wH (y : MethodName) (b : ByteArray) (n : Nat) (r : Option FieldType) (h : List (Nat × Nat × Nat × Nat)) : List Cond := .codeWith y b n r h :: TT
theorem uX_in : ∀ w ∈ u_ws RX TX 10, w ∈ TT := by
  intro w h
  exact List.mem_filter.mpr ⟨List.mem_append_right _ (by revert w h; decide +kernel), by revert w h; decide +kernel⟩
theorem uM_in : ∀ w ∈ u_ws RM TM 14, w ∈ TT := by
  intro w h
  exact List.mem_filter.mpr ⟨List.mem_append_right _ (by revert w h; decide +kernel), by revert w h; decide +kernel⟩
theorem k_L_8 : Cond.classLink RL 8 RX ∈ TT := TT_t 19 (by decide +kernel) rfl
theorem k_X_20 : Cond.classLink RX 20 "[[I" ∈ TT := TT_t 27 (by decide +kernel) rfl
theorem k_X_25 : Cond.classLink RX 25 "[[J" ∈ TT := TT_t 29 (by decide +kernel) rfl
theorem k_X_40 : Cond.constant RX 40 65536 ∈ TT := TT_t 31 (by decide +kernel) rfl
theorem k_X_56 : Cond.fieldLink RX 56 RX "level" "I" ∈ TT := TT_t 35 (by decide +kernel) rfl
theorem k_X_9 : Cond.fieldLink RX 9 RX "amplitudes" "[I" ∈ TT := TT_t 36 (by decide +kernel) rfl
theorem k_X_13 : Cond.fieldLink RX 13 RX "speeds" "[J" ∈ TT := TT_t 37 (by decide +kernel) rfl
theorem k_X_17 : Cond.fieldLink RX 17 RX "phases" "[J" ∈ TT := TT_t 38 (by decide +kernel) rfl
theorem k_X_22 : Cond.fieldLink RX 22 RX "factors" "[[I" ∈ TT := TT_t 39 (by decide +kernel) rfl
theorem k_X_27 : Cond.fieldLink RX 27 RX "shifts" "[[J" ∈ TT := TT_t 40 (by decide +kernel) rfl
theorem k_X_30 : Cond.fieldLink RX 30 RX "firsts" "[I" ∈ TT := TT_t 41 (by decide +kernel) rfl
theorem k_X_33 : Cond.fieldLink RX 33 RX "turns" "[I" ∈ TT := TT_t 42 (by decide +kernel) rfl
theorem k_X_196 : Cond.fieldLink RX 196 RX "turnCount" "I" ∈ TT := TT_t 43 (by decide +kernel) rfl
theorem k_X_36 : Cond.fieldLink RX 36 RX "turnDay" "I" ∈ TT := TT_t 44 (by decide +kernel) rfl
theorem k_L_13 : Cond.classLink RL 13 "java/lang/IllegalArgumentException" ∈ TT := TT_t 71 (by decide +kernel) rfl
theorem k_X_47 : Cond.constant RX 47 (-1000000) ∈ TT := TT_t 76 (by decide +kernel) rfl
theorem k_X_48 : Cond.constant RX 48 1000000 ∈ TT := TT_t 77 (by decide +kernel) rfl
theorem k_X_49 : Cond.classLink RX 49 "java/lang/IllegalArgumentException" ∈ TT := TT_t 78 (by decide +kernel) rfl
theorem k_L_19 : Cond.classLink RL 19 "java/lang/IndexOutOfBoundsException" ∈ TT := TT_t 148 (by decide +kernel) rfl
theorem k_X_63 : Cond.classLink RX 63 "java/lang/IndexOutOfBoundsException" ∈ TT := TT_t 156 (by decide +kernel) rfl
theorem k_X_68 : Cond.constant RX 68 100000 ∈ TT := TT_t 172 (by decide +kernel) rfl
theorem k_X_71 : Cond.constantLong RX 71 1099511627776 ∈ TT := TT_t 174 (by decide +kernel) rfl
theorem k_X_171 : Cond.constantLong RX 171 281474976710656 ∈ TT := TT_t 179 (by decide +kernel) rfl
theorem k_X_89 : Cond.constant RX 89 81920 ∈ TT := TT_t 196 (by decide +kernel) rfl
theorem k_X_173 : Cond.constantLong RX 173 281474976710655 ∈ TT := TT_t 243 (by decide +kernel) rfl
theorem k_X_175 : Cond.constantLong RX 175 1073741823 ∈ TT := TT_t 255 (by decide +kernel) rfl
theorem k_X_177 : Cond.constantLong RX 177 1073741824 ∈ TT := TT_t 256 (by decide +kernel) rfl
theorem k_X_179 : Cond.constantLong RX 179 22401992 ∈ TT := TT_t 257 (by decide +kernel) rfl
theorem k_X_181 : Cond.constantLong RX 181 960477 ∈ TT := TT_t 258 (by decide +kernel) rfl
theorem k_X_183 : Cond.constantLong RX 183 272375561 ∈ TT := TT_t 259 (by decide +kernel) rfl
theorem k_X_185 : Cond.constantLong RX 185 1324675870 ∈ TT := TT_t 260 (by decide +kernel) rfl
theorem k_X_187 : Cond.constantLong RX 187 536870912 ∈ TT := TT_t 272 (by decide +kernel) rfl
theorem k_X_154 : Cond.classLink RX 154 "java/lang/StringBuilder" ∈ TT := TT_t 336 (by decide +kernel) rfl
theorem k_L_66 : Cond.classLink RL 66 RM ∈ TT := TT_t 580 (by decide +kernel) rfl
theorem k_M_42 : Cond.constant RM 42 65536 ∈ TT := TT_t 586 (by decide +kernel) rfl
theorem k_M_43 : Cond.fieldLink RM 43 RM "thrown" "I" ∈ TT := TT_t 587 (by decide +kernel) rfl
theorem k_M_51 : Cond.fieldLink RM 51 RM "level" "I" ∈ TT := TT_t 588 (by decide +kernel) rfl
theorem k_M_7 : Cond.fieldLink RM 7 RM "days" "[I" ∈ TT := TT_t 589 (by decide +kernel) rfl
theorem k_M_13 : Cond.fieldLink RM 13 RM "amplitudes" "[I" ∈ TT := TT_t 590 (by decide +kernel) rfl
theorem k_M_16 : Cond.fieldLink RM 16 RM "speeds" "[J" ∈ TT := TT_t 591 (by decide +kernel) rfl
theorem k_M_20 : Cond.fieldLink RM 20 RM "phases" "[J" ∈ TT := TT_t 592 (by decide +kernel) rfl
theorem k_M_23 : Cond.fieldLink RM 23 RM "factors" "[I" ∈ TT := TT_t 593 (by decide +kernel) rfl
theorem k_M_26 : Cond.fieldLink RM 26 RM "shifts" "[J" ∈ TT := TT_t 594 (by decide +kernel) rfl
theorem k_M_29 : Cond.fieldLink RM 29 RM "heights" "[I" ∈ TT := TT_t 595 (by decide +kernel) rfl
theorem k_M_112 : Cond.fieldLink RM 112 RM "found" "I" ∈ TT := TT_t 596 (by decide +kernel) rfl
theorem k_M_32 : Cond.fieldLink RM 32 RM "minutes" "[I" ∈ TT := TT_t 597 (by decide +kernel) rfl
theorem k_M_35 : Cond.fieldLink RM 35 RM "highs" "[Z" ∈ TT := TT_t 598 (by decide +kernel) rfl
theorem k_M_126 : Cond.fieldLink RM 126 RM "size" "I" ∈ TT := TT_t 599 (by decide +kernel) rfl
theorem k_M_39 : Cond.fieldLink RM 39 RM "text" "[I" ∈ TT := TT_t 600 (by decide +kernel) rfl
theorem k_M_49 : Cond.constant RM 49 (-1000000) ∈ TT := TT_t 639 (by decide +kernel) rfl
theorem k_M_50 : Cond.constant RM 50 1000000 ∈ TT := TT_t 640 (by decide +kernel) rfl
theorem k_M_54 : Cond.constant RM 54 100000 ∈ TT := TT_t 645 (by decide +kernel) rfl
theorem k_M_55 : Cond.constantLong RM 55 1099511627776 ∈ TT := TT_t 646 (by decide +kernel) rfl
theorem k_M_47 : Cond.constantLong RM 47 281474976710656 ∈ TT := TT_t 650 (by decide +kernel) rfl
theorem k_M_68 : Cond.constant RM 68 81920 ∈ TT := TT_t 661 (by decide +kernel) rfl
theorem k_M_83 : Cond.constantLong RM 83 70368744177664 ∈ TT := TT_t 701 (by decide +kernel) rfl
theorem k_M_85 : Cond.constantLong RM 85 65536 ∈ TT := TT_t 702 (by decide +kernel) rfl
theorem k_M_87 : Cond.constantLong RM 87 1073741824 ∈ TT := TT_t 703 (by decide +kernel) rfl
theorem k_M_89 : Cond.constantLong RM 89 2 ∈ TT := TT_t 704 (by decide +kernel) rfl
theorem k_M_91 : Cond.constantLong RM 91 22401992 ∈ TT := TT_t 705 (by decide +kernel) rfl
theorem k_M_93 : Cond.constantLong RM 93 960477 ∈ TT := TT_t 706 (by decide +kernel) rfl
theorem k_M_95 : Cond.constantLong RM 95 272375561 ∈ TT := TT_t 707 (by decide +kernel) rfl
theorem k_M_97 : Cond.constantLong RM 97 1324675870 ∈ TT := TT_t 708 (by decide +kernel) rfl
theorem k_M_103 : Cond.constantLong RM 103 536870912 ∈ TT := TT_t 717 (by decide +kernel) rfl
theorem k_L_79 : Cond.constantLong RL 79 4294967295 ∈ TT := TT_t 769 (by decide +kernel) rfl
theorem k_ini_L : Cond.initialized RL ∈ TT := TT_t 0 (by decide +kernel) rfl
theorem k_ini_X : Cond.initialized RX ∈ TT := TT_t 1 (by decide +kernel) rfl
theorem k_ini_Arrays : Cond.initialized "java/util/Arrays" ∈ TT := TT_t 2 (by decide +kernel) rfl
theorem k_ini_M : Cond.initialized RM ∈ TT := TT_t 3 (by decide +kernel) rfl
theorem k_ini_Throwable : Cond.initialized "java/lang/Throwable" ∈ TT := TT_t 4 (by decide +kernel) rfl
theorem k_ini_Exception : Cond.initialized "java/lang/Exception" ∈ TT := TT_t 5 (by decide +kernel) rfl
theorem k_ini_RuntimeException : Cond.initialized "java/lang/RuntimeException" ∈ TT := TT_t 6 (by decide +kernel) rfl
theorem k_ini_IllegalArgumentException : Cond.initialized "java/lang/IllegalArgumentException" ∈ TT := TT_t 7 (by decide +kernel) rfl
theorem k_ini_IndexOutOfBoundsException : Cond.initialized "java/lang/IndexOutOfBoundsException" ∈ TT := TT_t 8 (by decide +kernel) rfl
theorem k_ini_Math : Cond.initialized "java/lang/Math" ∈ TT := TT_t 9 (by decide +kernel) rfl
theorem k_ini_AbstractStringBuilder : Cond.initialized "java/lang/AbstractStringBuilder" ∈ TT := TT_t 10 (by decide +kernel) rfl
theorem k_ini_StringBuilder : Cond.initialized "java/lang/StringBuilder" ∈ TT := TT_t 11 (by decide +kernel) rfl
theorem k_ini_String : Cond.initialized "java/lang/String" ∈ TT := TT_t 12 (by decide +kernel) rfl
theorem k_ini_StringUTF16 : Cond.initialized "java/lang/StringUTF16" ∈ TT := TT_t 13 (by decide +kernel) rfl
theorem k_ini_ArraysSupport : Cond.initialized "jdk/internal/util/ArraysSupport" ∈ TT := TT_t 14 (by decide +kernel) rfl
theorem k_ini_System : Cond.initialized "java/lang/System" ∈ TT := TT_t 15 (by decide +kernel) rfl
theorem k_ini_StringLatin1 : Cond.initialized "java/lang/StringLatin1" ∈ TT := TT_t 16 (by decide +kernel) rfl
theorem k_ini_Preconditions : Cond.initialized "jdk/internal/util/Preconditions" ∈ TT := TT_t 17 (by decide +kernel) rfl
theorem k_ini_Integer : Cond.initialized "java/lang/Integer" ∈ TT := TT_t 18 (by decide +kernel) rfl
theorem k_arr_int : Cond.arrayClass .int ∈ TT := TT_t 66 (by decide +kernel) rfl
theorem k_arr_long : Cond.arrayClass .long ∈ TT := TT_t 67 (by decide +kernel) rfl
theorem k_arr_byte : Cond.arrayClass .byte ∈ TT := TT_t 144 (by decide +kernel) rfl
theorem k_arr_boolean : Cond.arrayClass .boolean ∈ TT := TT_t 630 (by decide +kernel) rfl
def tkV (own : String) (i : Nat) (C : String) (y : MethodName) (b : ByteArray) (maxL : Nat) (r : Option FieldType) (n : Nat) : Prop := Cond.methodLink own i y ∈ TT ∧ Cond.instanceMethod y ∈ TT ∧ Cond.selects C y y ∈ TT ∧ Cond.initialized y.cls ∈ TT ∧ Cond.code y b maxL r ∈ TT ∧ (y.cls ≠ "java/lang/invoke/MethodHandle" ∧ y.cls ≠ "java/lang/invoke/VarHandle") ∧ (parseMethodDescriptor y.desc).map (fun d => d.parameters.length) = some n
def tkS (own : String) (i : Nat) (y : MethodName) (b : ByteArray) (maxL : Nat) (r : Option FieldType) (n : Nat) : Prop := Cond.methodLink own i y ∈ TT ∧ Cond.static y ∈ TT ∧ Cond.initialized y.cls ∈ TT ∧ Cond.code y b maxL r ∈ TT ∧ (y.cls ≠ "java/lang/invoke/MethodHandle" ∧ y.cls ≠ "java/lang/invoke/VarHandle") ∧ (parseMethodDescriptor y.desc).map (fun d => d.parameters.length) = some n
theorem lk_X_59 : tkS RX 59 y_X_isConstituent b_X_isConstituent 1 (some .boolean) 1 := ⟨TT_t 153 (by decide +kernel) rfl, TT_t 154 (by decide +kernel) rfl, TT_t 1 (by decide +kernel) rfl, TT_t 155 (by decide +kernel) rfl, by decide +kernel, by decide +kernel⟩
theorem lk_X_75 : tkS RX 75 y_X_isPosition b_X_isPosition 2 (some .boolean) 1 := ⟨TT_t 176 (by decide +kernel) rfl, TT_t 177 (by decide +kernel) rfl, TT_t 1 (by decide +kernel) rfl, TT_t 178 (by decide +kernel) rfl, by decide +kernel, by decide +kernel⟩
theorem lk_X_81 : tkV RX 81 RX y_X_forgetTurns b_X_forgetTurns 1 none 0 := ⟨TT_t 181 (by decide +kernel) rfl, TT_t 183 (by decide +kernel) rfl, TT_s 1 (by decide +kernel) rfl, TT_t 1 (by decide +kernel) rfl, TT_t 184 (by decide +kernel) rfl, by decide +kernel, by decide +kernel⟩
theorem lk_X_84 : tkS RX 84 y_X_isYear b_X_isYear 1 (some .boolean) 1 := ⟨TT_t 192 (by decide +kernel) rfl, TT_t 193 (by decide +kernel) rfl, TT_t 1 (by decide +kernel) rfl, TT_t 194 (by decide +kernel) rfl, by decide +kernel, by decide +kernel⟩
theorem lk_X_98 : tkV RX 98 RX y_X_isMinute b_X_isMinute 2 (some .boolean) 1 := ⟨TT_t 222 (by decide +kernel) rfl, TT_t 224 (by decide +kernel) rfl, TT_s 2 (by decide +kernel) rfl, TT_t 1 (by decide +kernel) rfl, TT_t 225 (by decide +kernel) rfl, by decide +kernel, by decide +kernel⟩
theorem lk_X_103 : tkV RX 103 RX y_X_yearOf b_X_yearOf 3 (some .int) 1 := ⟨TT_t 227 (by decide +kernel) rfl, TT_t 229 (by decide +kernel) rfl, TT_s 3 (by decide +kernel) rfl, TT_t 1 (by decide +kernel) rfl, TT_t 230 (by decide +kernel) rfl, by decide +kernel, by decide +kernel⟩
theorem lk_X_109 : tkV RX 109 RX y_X_positionAt b_X_positionAt 4 (some .long) 3 := ⟨TT_t 239 (by decide +kernel) rfl, TT_t 241 (by decide +kernel) rfl, TT_s 4 (by decide +kernel) rfl, TT_t 1 (by decide +kernel) rfl, TT_t 242 (by decide +kernel) rfl, by decide +kernel, by decide +kernel⟩
theorem lk_X_115 : tkS RX 115 y_X_cosineOf b_X_cosineOf 15 (some .int) 1 := ⟨TT_t 252 (by decide +kernel) rfl, TT_t 253 (by decide +kernel) rfl, TT_t 1 (by decide +kernel) rfl, TT_t 254 (by decide +kernel) rfl, by decide +kernel, by decide +kernel⟩
theorem lk_X_119 : tkV RX 119 RX y_X_heightAt b_X_heightAt 6 (some .int) 1 := ⟨TT_t 268 (by decide +kernel) rfl, TT_t 270 (by decide +kernel) rfl, TT_s 5 (by decide +kernel) rfl, TT_t 1 (by decide +kernel) rfl, TT_t 271 (by decide +kernel) rfl, by decide +kernel, by decide +kernel⟩
theorem lk_X_130 : tkV RX 130 RX y_X_isDay b_X_isDay 2 (some .boolean) 1 := ⟨TT_t 295 (by decide +kernel) rfl, TT_t 297 (by decide +kernel) rfl, TT_s 7 (by decide +kernel) rfl, TT_t 1 (by decide +kernel) rfl, TT_t 298 (by decide +kernel) rfl, by decide +kernel, by decide +kernel⟩
theorem lk_X_135 : tkV RX 135 RX y_X_countTurns b_X_countTurns 2 (some .int) 1 := ⟨TT_t 300 (by decide +kernel) rfl, TT_t 302 (by decide +kernel) rfl, TT_s 8 (by decide +kernel) rfl, TT_t 1 (by decide +kernel) rfl, TT_t 303 (by decide +kernel) rfl, by decide +kernel, by decide +kernel⟩
theorem lk_X_138 : tkV RX 138 RX y_X_isExtreme b_X_isExtreme 3 (some .boolean) 2 := ⟨TT_t 315 (by decide +kernel) rfl, TT_t 317 (by decide +kernel) rfl, TT_s 10 (by decide +kernel) rfl, TT_t 1 (by decide +kernel) rfl, TT_t 318 (by decide +kernel) rfl, by decide +kernel, by decide +kernel⟩
theorem lk_X_144 : tkV RX 144 RX y_X_isHigh b_X_isHigh 2 (some .boolean) 1 := ⟨TT_t 320 (by decide +kernel) rfl, TT_t 322 (by decide +kernel) rfl, TT_s 11 (by decide +kernel) rfl, TT_t 1 (by decide +kernel) rfl, TT_t 323 (by decide +kernel) rfl, by decide +kernel, by decide +kernel⟩
theorem lk_X_149 : tkV RX 149 RX y_X_lineOf b_X_lineOf 6 (some (.object "java/lang/StringBuilder")) 1 := ⟨TT_t 332 (by decide +kernel) rfl, TT_t 334 (by decide +kernel) rfl, TT_s 12 (by decide +kernel) rfl, TT_t 1 (by decide +kernel) rfl, TT_t 335 (by decide +kernel) rfl, by decide +kernel, by decide +kernel⟩
theorem lk_X_189 : tkV RX 189 RX y_X_partAt b_X_partAt 6 (some .long) 3 := ⟨TT_t 273 (by decide +kernel) rfl, TT_t 275 (by decide +kernel) rfl, TT_s 6 (by decide +kernel) rfl, TT_t 1 (by decide +kernel) rfl, TT_t 276 (by decide +kernel) rfl, by decide +kernel, by decide +kernel⟩
theorem lk_X_192 : tkV RX 192 RX y_X_findTurns b_X_findTurns 8 none 1 := ⟨TT_t 304 (by decide +kernel) rfl, TT_t 306 (by decide +kernel) rfl, TT_s 9 (by decide +kernel) rfl, TT_t 1 (by decide +kernel) rfl, TT_t 307 (by decide +kernel) rfl, by decide +kernel, by decide +kernel⟩
theorem lk_X_200 : tkS RX 200 y_X_appendDigits b_X_appendDigits 4 none 3 := ⟨TT_t 366 (by decide +kernel) rfl, TT_t 367 (by decide +kernel) rfl, TT_t 1 (by decide +kernel) rfl, TT_t 368 (by decide +kernel) rfl, by decide +kernel, by decide +kernel⟩
theorem lk_X_215 : tkS RX 215 y_X_appendHeight b_X_appendHeight 3 none 2 := ⟨TT_t 513 (by decide +kernel) rfl, TT_t 514 (by decide +kernel) rfl, TT_t 1 (by decide +kernel) rfl, TT_t 515 (by decide +kernel) rfl, by decide +kernel, by decide +kernel⟩
theorem lk_M_57 : tkS RM 57 y_M_isTurn b_M_isTurn 2 (some .boolean) 1 := ⟨TT_t 647 (by decide +kernel) rfl, TT_t 648 (by decide +kernel) rfl, TT_t 3 (by decide +kernel) rfl, TT_t 649 (by decide +kernel) rfl, by decide +kernel, by decide +kernel⟩
theorem lk_M_61 : tkS RM 61 y_M_isOne b_M_isOne 1 (some .boolean) 1 := ⟨TT_t 651 (by decide +kernel) rfl, TT_t 652 (by decide +kernel) rfl, TT_t 3 (by decide +kernel) rfl, TT_t 653 (by decide +kernel) rfl, by decide +kernel, by decide +kernel⟩
theorem lk_M_65 : tkS RM 65 y_M_isYear b_M_isYear 1 (some .boolean) 1 := ⟨TT_t 658 (by decide +kernel) rfl, TT_t 659 (by decide +kernel) rfl, TT_t 3 (by decide +kernel) rfl, TT_t 660 (by decide +kernel) rfl, by decide +kernel, by decide +kernel⟩
theorem lk_M_69 : tkV RM 69 RM y_M_daysBefore b_M_daysBefore 4 (some .int) 1 := ⟨TT_t 670 (by decide +kernel) rfl, TT_t 672 (by decide +kernel) rfl, TT_s 13 (by decide +kernel) rfl, TT_t 3 (by decide +kernel) rfl, TT_t 673 (by decide +kernel) rfl, by decide +kernel, by decide +kernel⟩
theorem lk_M_73 : tkV RM 73 RM y_M_isMinute b_M_isMinute 2 (some .boolean) 1 := ⟨TT_t 678 (by decide +kernel) rfl, TT_t 680 (by decide +kernel) rfl, TT_s 14 (by decide +kernel) rfl, TT_t 3 (by decide +kernel) rfl, TT_t 681 (by decide +kernel) rfl, by decide +kernel, by decide +kernel⟩
theorem lk_M_76 : tkV RM 76 RM y_M_yearOfDay b_M_yearOfDay 3 (some .int) 1 := ⟨TT_t 682 (by decide +kernel) rfl, TT_t 684 (by decide +kernel) rfl, TT_s 15 (by decide +kernel) rfl, TT_t 3 (by decide +kernel) rfl, TT_t 685 (by decide +kernel) rfl, by decide +kernel, by decide +kernel⟩
theorem lk_M_79 : tkV RM 79 RM y_M_positionOf b_M_positionOf 6 (some .long) 3 := ⟨TT_t 690 (by decide +kernel) rfl, TT_t 692 (by decide +kernel) rfl, TT_s 16 (by decide +kernel) rfl, TT_t 3 (by decide +kernel) rfl, TT_t 693 (by decide +kernel) rfl, by decide +kernel, by decide +kernel⟩
theorem lk_M_99 : tkS RM 99 y_M_cosineOf b_M_cosineOf 16 (some .long) 1 := ⟨TT_t 698 (by decide +kernel) rfl, TT_t 699 (by decide +kernel) rfl, TT_t 3 (by decide +kernel) rfl, TT_t 700 (by decide +kernel) rfl, by decide +kernel, by decide +kernel⟩
theorem lk_M_105 : tkS RM 105 y_M_floor b_M_floor 6 (some .long) 2 := ⟨TT_t 718 (by decide +kernel) rfl, TT_t 719 (by decide +kernel) rfl, TT_t 3 (by decide +kernel) rfl, TT_t 720 (by decide +kernel) rfl, by decide +kernel, by decide +kernel⟩
theorem lk_M_109 : tkV RM 109 RM y_M_heightAt b_M_heightAt 6 (some .int) 1 := ⟨TT_t 713 (by decide +kernel) rfl, TT_t 715 (by decide +kernel) rfl, TT_s 17 (by decide +kernel) rfl, TT_t 3 (by decide +kernel) rfl, TT_t 716 (by decide +kernel) rfl, by decide +kernel, by decide +kernel⟩
theorem lk_M_115 : tkV RM 115 RM y_M_isDay b_M_isDay 2 (some .boolean) 1 := ⟨TT_t 729 (by decide +kernel) rfl, TT_t 731 (by decide +kernel) rfl, TT_s 18 (by decide +kernel) rfl, TT_t 3 (by decide +kernel) rfl, TT_t 732 (by decide +kernel) rfl, by decide +kernel, by decide +kernel⟩
theorem lk_M_118 : tkV RM 118 RM y_M_look b_M_look 5 none 1 := ⟨TT_t 733 (by decide +kernel) rfl, TT_t 735 (by decide +kernel) rfl, TT_s 19 (by decide +kernel) rfl, TT_t 3 (by decide +kernel) rfl, TT_t 736 (by decide +kernel) rfl, by decide +kernel, by decide +kernel⟩
theorem lk_M_122 : tkV RM 122 RM y_M_isExtreme b_M_isExtreme 3 (some .boolean) 2 := ⟨TT_t 741 (by decide +kernel) rfl, TT_t 743 (by decide +kernel) rfl, TT_s 20 (by decide +kernel) rfl, TT_t 3 (by decide +kernel) rfl, TT_t 744 (by decide +kernel) rfl, by decide +kernel, by decide +kernel⟩
theorem lk_M_129 : tkV RM 129 RM y_M_put b_M_put 2 none 1 := ⟨TT_t 757 (by decide +kernel) rfl, TT_t 759 (by decide +kernel) rfl, TT_s 23 (by decide +kernel) rfl, TT_t 3 (by decide +kernel) rfl, TT_t 760 (by decide +kernel) rfl, by decide +kernel, by decide +kernel⟩
theorem lk_M_132 : tkV RM 132 RM y_M_putDigits b_M_putDigits 5 none 2 := ⟨TT_t 753 (by decide +kernel) rfl, TT_t 755 (by decide +kernel) rfl, TT_s 22 (by decide +kernel) rfl, TT_t 3 (by decide +kernel) rfl, TT_t 756 (by decide +kernel) rfl, by decide +kernel, by decide +kernel⟩
theorem lk_M_136 : tkV RM 136 RM y_M_write b_M_write 6 none 2 := ⟨TT_t 749 (by decide +kernel) rfl, TT_t 751 (by decide +kernel) rfl, TT_s 21 (by decide +kernel) rfl, TT_t 3 (by decide +kernel) rfl, TT_t 752 (by decide +kernel) rfl, by decide +kernel, by decide +kernel⟩
theorem lk_L_7 : tkV RL 7 RX y_X_level b_X_level 3 (some .int) 1 := ⟨TT_t 72 (by decide +kernel) rfl, TT_t 73 (by decide +kernel) rfl, TT_t 74 (by decide +kernel) rfl, TT_t 1 (by decide +kernel) rfl, TT_t 75 (by decide +kernel) rfl, by decide +kernel, by decide +kernel⟩
theorem lk_L_15 : tkV RL 15 RX y_X_constituent b_X_constituent 7 none 4 := ⟨TT_t 149 (by decide +kernel) rfl, TT_t 150 (by decide +kernel) rfl, TT_t 151 (by decide +kernel) rfl, TT_t 1 (by decide +kernel) rfl, TT_t 152 (by decide +kernel) rfl, by decide +kernel, by decide +kernel⟩
theorem lk_L_21 : tkV RL 21 RX y_X_node b_X_node 6 none 4 := ⟨TT_t 188 (by decide +kernel) rfl, TT_t 189 (by decide +kernel) rfl, TT_t 190 (by decide +kernel) rfl, TT_t 1 (by decide +kernel) rfl, TT_t 191 (by decide +kernel) rfl, by decide +kernel, by decide +kernel⟩
theorem lk_L_25 : tkV RL 25 RX y_X_days b_X_days 5 (some .int) 2 := ⟨TT_t 202 (by decide +kernel) rfl, TT_t 203 (by decide +kernel) rfl, TT_t 204 (by decide +kernel) rfl, TT_t 1 (by decide +kernel) rfl, TT_t 205 (by decide +kernel) rfl, by decide +kernel, by decide +kernel⟩
theorem lk_L_29 : tkV RL 29 RX y_X_first b_X_first 2 (some .int) 1 := ⟨TT_t 211 (by decide +kernel) rfl, TT_t 212 (by decide +kernel) rfl, TT_t 213 (by decide +kernel) rfl, TT_t 1 (by decide +kernel) rfl, TT_t 214 (by decide +kernel) rfl, by decide +kernel, by decide +kernel⟩
theorem lk_L_32 : tkV RL 32 RX y_X_year b_X_year 2 (some .int) 1 := ⟨TT_t 218 (by decide +kernel) rfl, TT_t 219 (by decide +kernel) rfl, TT_t 220 (by decide +kernel) rfl, TT_t 1 (by decide +kernel) rfl, TT_t 221 (by decide +kernel) rfl, by decide +kernel, by decide +kernel⟩
theorem lk_L_35 : tkV RL 35 RX y_X_position b_X_position 3 (some .long) 2 := ⟨TT_t 234 (by decide +kernel) rfl, TT_t 235 (by decide +kernel) rfl, TT_t 236 (by decide +kernel) rfl, TT_t 1 (by decide +kernel) rfl, TT_t 237 (by decide +kernel) rfl, by decide +kernel, by decide +kernel⟩
theorem lk_L_39 : tkV RL 39 RX y_X_cosine b_X_cosine 3 (some .int) 1 := ⟨TT_t 247 (by decide +kernel) rfl, TT_t 248 (by decide +kernel) rfl, TT_t 249 (by decide +kernel) rfl, TT_t 1 (by decide +kernel) rfl, TT_t 250 (by decide +kernel) rfl, by decide +kernel, by decide +kernel⟩
theorem lk_L_43 : tkV RL 43 RX y_X_height b_X_height 2 (some .int) 1 := ⟨TT_t 264 (by decide +kernel) rfl, TT_t 265 (by decide +kernel) rfl, TT_t 266 (by decide +kernel) rfl, TT_t 1 (by decide +kernel) rfl, TT_t 267 (by decide +kernel) rfl, by decide +kernel, by decide +kernel⟩
theorem lk_L_46 : tkV RL 46 RX y_X_mean b_X_mean 6 (some .int) 2 := ⟨TT_t 280 (by decide +kernel) rfl, TT_t 281 (by decide +kernel) rfl, TT_t 282 (by decide +kernel) rfl, TT_t 1 (by decide +kernel) rfl, TT_t 283 (by decide +kernel) rfl, by decide +kernel, by decide +kernel⟩
theorem lk_L_49 : tkV RL 49 RX y_X_extremes b_X_extremes 2 (some .int) 1 := ⟨TT_t 291 (by decide +kernel) rfl, TT_t 292 (by decide +kernel) rfl, TT_t 293 (by decide +kernel) rfl, TT_t 1 (by decide +kernel) rfl, TT_t 294 (by decide +kernel) rfl, by decide +kernel, by decide +kernel⟩
theorem lk_L_52 : tkV RL 52 RX y_X_extreme b_X_extreme 5 (some .int) 3 := ⟨TT_t 311 (by decide +kernel) rfl, TT_t 312 (by decide +kernel) rfl, TT_t 313 (by decide +kernel) rfl, TT_t 1 (by decide +kernel) rfl, TT_t 314 (by decide +kernel) rfl, by decide +kernel, by decide +kernel⟩
theorem lk_L_56 : tkV RL 56 RX y_X_line b_X_line 3 (some .int) 2 := ⟨TT_t 328 (by decide +kernel) rfl, TT_t 329 (by decide +kernel) rfl, TT_t 330 (by decide +kernel) rfl, TT_t 1 (by decide +kernel) rfl, TT_t 331 (by decide +kernel) rfl, by decide +kernel, by decide +kernel⟩
theorem lk_L_59 : tkV RL 59 RX y_X_sign b_X_sign 5 (some .int) 3 := ⟨TT_t 554 (by decide +kernel) rfl, TT_t 555 (by decide +kernel) rfl, TT_t 556 (by decide +kernel) rfl, TT_t 1 (by decide +kernel) rfl, TT_t 557 (by decide +kernel) rfl, by decide +kernel, by decide +kernel⟩
theorem lk_L_62 : tkV RL 62 RX y_X_above b_X_above 7 (some .int) 3 := ⟨TT_t 574 (by decide +kernel) rfl, TT_t 575 (by decide +kernel) rfl, TT_t 576 (by decide +kernel) rfl, TT_t 1 (by decide +kernel) rfl, TT_t 577 (by decide +kernel) rfl, by decide +kernel, by decide +kernel⟩
theorem lk_L_74 : tkV RL 74 RM y_M_level b_M_level 3 (some .int) 1 := ⟨TT_t 635 (by decide +kernel) rfl, TT_t 636 (by decide +kernel) rfl, TT_t 637 (by decide +kernel) rfl, TT_t 3 (by decide +kernel) rfl, TT_t 638 (by decide +kernel) rfl, by decide +kernel, by decide +kernel⟩
theorem lk_L_75 : tkV RL 75 RM y_M_thrown b_M_thrown 1 (some .int) 0 := ⟨TT_t 631 (by decide +kernel) rfl, TT_t 632 (by decide +kernel) rfl, TT_t 633 (by decide +kernel) rfl, TT_t 3 (by decide +kernel) rfl, TT_t 634 (by decide +kernel) rfl, by decide +kernel, by decide +kernel⟩
theorem lk_L_84 : tkV RL 84 RM y_M_constituent b_M_constituent 8 none 4 := ⟨TT_t 641 (by decide +kernel) rfl, TT_t 642 (by decide +kernel) rfl, TT_t 643 (by decide +kernel) rfl, TT_t 3 (by decide +kernel) rfl, TT_t 644 (by decide +kernel) rfl, by decide +kernel, by decide +kernel⟩
theorem lk_L_88 : tkV RL 88 RM y_M_node b_M_node 6 none 4 := ⟨TT_t 654 (by decide +kernel) rfl, TT_t 655 (by decide +kernel) rfl, TT_t 656 (by decide +kernel) rfl, TT_t 3 (by decide +kernel) rfl, TT_t 657 (by decide +kernel) rfl, by decide +kernel, by decide +kernel⟩
theorem lk_L_92 : tkV RL 92 RM y_M_days b_M_days 4 (some .int) 2 := ⟨TT_t 662 (by decide +kernel) rfl, TT_t 663 (by decide +kernel) rfl, TT_t 664 (by decide +kernel) rfl, TT_t 3 (by decide +kernel) rfl, TT_t 665 (by decide +kernel) rfl, by decide +kernel, by decide +kernel⟩
theorem lk_L_95 : tkV RL 95 RM y_M_first b_M_first 2 (some .int) 1 := ⟨TT_t 666 (by decide +kernel) rfl, TT_t 667 (by decide +kernel) rfl, TT_t 668 (by decide +kernel) rfl, TT_t 3 (by decide +kernel) rfl, TT_t 669 (by decide +kernel) rfl, by decide +kernel, by decide +kernel⟩
theorem lk_L_98 : tkV RL 98 RM y_M_year b_M_year 2 (some .int) 1 := ⟨TT_t 674 (by decide +kernel) rfl, TT_t 675 (by decide +kernel) rfl, TT_t 676 (by decide +kernel) rfl, TT_t 3 (by decide +kernel) rfl, TT_t 677 (by decide +kernel) rfl, by decide +kernel, by decide +kernel⟩
theorem lk_L_101 : tkV RL 101 RM y_M_position b_M_position 3 (some .long) 2 := ⟨TT_t 686 (by decide +kernel) rfl, TT_t 687 (by decide +kernel) rfl, TT_t 688 (by decide +kernel) rfl, TT_t 3 (by decide +kernel) rfl, TT_t 689 (by decide +kernel) rfl, by decide +kernel, by decide +kernel⟩
theorem lk_L_105 : tkV RL 105 RM y_M_cosine b_M_cosine 3 (some .int) 1 := ⟨TT_t 694 (by decide +kernel) rfl, TT_t 695 (by decide +kernel) rfl, TT_t 696 (by decide +kernel) rfl, TT_t 3 (by decide +kernel) rfl, TT_t 697 (by decide +kernel) rfl, by decide +kernel, by decide +kernel⟩
theorem lk_L_108 : tkV RL 108 RM y_M_height b_M_height 2 (some .int) 1 := ⟨TT_t 709 (by decide +kernel) rfl, TT_t 710 (by decide +kernel) rfl, TT_t 711 (by decide +kernel) rfl, TT_t 3 (by decide +kernel) rfl, TT_t 712 (by decide +kernel) rfl, by decide +kernel, by decide +kernel⟩
theorem lk_L_111 : tkV RL 111 RM y_M_mean b_M_mean 6 (some .int) 2 := ⟨TT_t 721 (by decide +kernel) rfl, TT_t 722 (by decide +kernel) rfl, TT_t 723 (by decide +kernel) rfl, TT_t 3 (by decide +kernel) rfl, TT_t 724 (by decide +kernel) rfl, by decide +kernel, by decide +kernel⟩
theorem lk_L_114 : tkV RL 114 RM y_M_extremes b_M_extremes 2 (some .int) 1 := ⟨TT_t 725 (by decide +kernel) rfl, TT_t 726 (by decide +kernel) rfl, TT_t 727 (by decide +kernel) rfl, TT_t 3 (by decide +kernel) rfl, TT_t 728 (by decide +kernel) rfl, by decide +kernel, by decide +kernel⟩
theorem lk_L_118 : tkV RL 118 RM y_M_extreme b_M_extreme 4 (some .int) 3 := ⟨TT_t 737 (by decide +kernel) rfl, TT_t 738 (by decide +kernel) rfl, TT_t 739 (by decide +kernel) rfl, TT_t 3 (by decide +kernel) rfl, TT_t 740 (by decide +kernel) rfl, by decide +kernel, by decide +kernel⟩
theorem lk_L_121 : tkV RL 121 RM y_M_line b_M_line 3 (some .int) 2 := ⟨TT_t 745 (by decide +kernel) rfl, TT_t 746 (by decide +kernel) rfl, TT_t 747 (by decide +kernel) rfl, TT_t 3 (by decide +kernel) rfl, TT_t 748 (by decide +kernel) rfl, by decide +kernel, by decide +kernel⟩
theorem lk_L_124 : tkV RL 124 RM y_M_sign b_M_sign 4 (some .int) 3 := ⟨TT_t 761 (by decide +kernel) rfl, TT_t 762 (by decide +kernel) rfl, TT_t 763 (by decide +kernel) rfl, TT_t 3 (by decide +kernel) rfl, TT_t 764 (by decide +kernel) rfl, by decide +kernel, by decide +kernel⟩
theorem lk_L_127 : tkV RL 127 RM y_M_above b_M_above 7 (some .int) 3 := ⟨TT_t 765 (by decide +kernel) rfl, TT_t 766 (by decide +kernel) rfl, TT_t 767 (by decide +kernel) rfl, TT_t 3 (by decide +kernel) rfl, TT_t 768 (by decide +kernel) rfl, by decide +kernel, by decide +kernel⟩
end
section
/-! the instructions of TideTables, decoded. Written by wip/whole/names.py -/
theorem d_X_init_0 : decode b_X_init 0 = .ok (.aload_n 0, 1) := by decide +kernel
theorem d_X_init_1 : decode b_X_init 1 = .ok (.invokespecial 3, 3) := by decide +kernel
theorem d_X_init_4 : decode b_X_init 4 = .ok (.aload_n 0, 1) := by decide +kernel
theorem d_X_init_5 : decode b_X_init 5 = .ok (.bipush 8, 2) := by decide +kernel
theorem d_X_init_7 : decode b_X_init 7 = .ok (.newarray .int, 2) := by decide +kernel
theorem d_X_init_9 : decode b_X_init 9 = .ok (.putfield 9, 3) := by decide +kernel
theorem d_X_init_12 : decode b_X_init 12 = .ok (.aload_n 0, 1) := by decide +kernel
theorem d_X_init_13 : decode b_X_init 13 = .ok (.bipush 8, 2) := by decide +kernel
theorem d_X_init_15 : decode b_X_init 15 = .ok (.newarray .long, 2) := by decide +kernel
theorem d_X_init_17 : decode b_X_init 17 = .ok (.putfield 13, 3) := by decide +kernel
theorem d_X_init_20 : decode b_X_init 20 = .ok (.aload_n 0, 1) := by decide +kernel
theorem d_X_init_21 : decode b_X_init 21 = .ok (.bipush 8, 2) := by decide +kernel
theorem d_X_init_23 : decode b_X_init 23 = .ok (.newarray .long, 2) := by decide +kernel
theorem d_X_init_25 : decode b_X_init 25 = .ok (.putfield 17, 3) := by decide +kernel
theorem d_X_init_28 : decode b_X_init 28 = .ok (.aload_n 0, 1) := by decide +kernel
theorem d_X_init_29 : decode b_X_init 29 = .ok (.bipush 8, 2) := by decide +kernel
theorem d_X_init_31 : decode b_X_init 31 = .ok (.bipush 10, 2) := by decide +kernel
theorem d_X_init_33 : decode b_X_init 33 = .ok (.multianewarray 20 2, 4) := by decide +kernel
theorem d_X_init_37 : decode b_X_init 37 = .ok (.putfield 22, 3) := by decide +kernel
theorem d_X_init_40 : decode b_X_init 40 = .ok (.aload_n 0, 1) := by decide +kernel
theorem d_X_init_41 : decode b_X_init 41 = .ok (.bipush 8, 2) := by decide +kernel
theorem d_X_init_43 : decode b_X_init 43 = .ok (.bipush 10, 2) := by decide +kernel
theorem d_X_init_45 : decode b_X_init 45 = .ok (.multianewarray 25 2, 4) := by decide +kernel
theorem d_X_init_49 : decode b_X_init 49 = .ok (.putfield 27, 3) := by decide +kernel
theorem d_X_init_52 : decode b_X_init 52 = .ok (.aload_n 0, 1) := by decide +kernel
theorem d_X_init_53 : decode b_X_init 53 = .ok (.bipush 11, 2) := by decide +kernel
theorem d_X_init_55 : decode b_X_init 55 = .ok (.newarray .int, 2) := by decide +kernel
theorem d_X_init_57 : decode b_X_init 57 = .ok (.putfield 30, 3) := by decide +kernel
theorem d_X_init_60 : decode b_X_init 60 = .ok (.aload_n 0, 1) := by decide +kernel
theorem d_X_init_61 : decode b_X_init 61 = .ok (.sipush 1440, 3) := by decide +kernel
theorem d_X_init_64 : decode b_X_init 64 = .ok (.newarray .int, 2) := by decide +kernel
theorem d_X_init_66 : decode b_X_init 66 = .ok (.putfield 33, 3) := by decide +kernel
theorem d_X_init_69 : decode b_X_init 69 = .ok (.aload_n 0, 1) := by decide +kernel
theorem d_X_init_70 : decode b_X_init 70 = .ok (.iconst (-1), 1) := by decide +kernel
theorem d_X_init_71 : decode b_X_init 71 = .ok (.putfield 36, 3) := by decide +kernel
theorem d_X_init_74 : decode b_X_init 74 = .ok (.iconst 0, 1) := by decide +kernel
theorem d_X_init_75 : decode b_X_init 75 = .ok (.istore_n 1, 1) := by decide +kernel
theorem d_X_init_76 : decode b_X_init 76 = .ok (.iload_n 1, 1) := by decide +kernel
theorem d_X_init_77 : decode b_X_init 77 = .ok (.bipush 8, 2) := by decide +kernel
theorem d_X_init_79 : decode b_X_init 79 = .ok (.if_icmp .ge 20, 3) := by decide +kernel
theorem d_X_init_82 : decode b_X_init 82 = .ok (.aload_n 0, 1) := by decide +kernel
theorem d_X_init_83 : decode b_X_init 83 = .ok (.getfield 22, 3) := by decide +kernel
theorem d_X_init_86 : decode b_X_init 86 = .ok (.iload_n 1, 1) := by decide +kernel
theorem d_X_init_87 : decode b_X_init 87 = .ok (.aaload, 1) := by decide +kernel
theorem d_X_init_88 : decode b_X_init 88 = .ok (.ldc 40, 2) := by decide +kernel
theorem d_X_init_90 : decode b_X_init 90 = .ok (.invokestatic 41, 3) := by decide +kernel
theorem d_X_init_93 : decode b_X_init 93 = .ok (.iinc 1 1, 3) := by decide +kernel
theorem d_X_init_96 : decode b_X_init 96 = .ok (.goto (-20), 3) := by decide +kernel
theorem d_X_init_99 : decode b_X_init 99 = .ok (.iconst 0, 1) := by decide +kernel
theorem d_X_init_100 : decode b_X_init 100 = .ok (.istore_n 1, 1) := by decide +kernel
theorem d_X_init_101 : decode b_X_init 101 = .ok (.iload_n 1, 1) := by decide +kernel
theorem d_X_init_102 : decode b_X_init 102 = .ok (.bipush 10, 2) := by decide +kernel
theorem d_X_init_104 : decode b_X_init 104 = .ok (.if_icmp .gt 24, 3) := by decide +kernel
theorem d_X_init_107 : decode b_X_init 107 = .ok (.aload_n 0, 1) := by decide +kernel
theorem d_X_init_108 : decode b_X_init 108 = .ok (.getfield 30, 3) := by decide +kernel
theorem d_X_init_111 : decode b_X_init 111 = .ok (.iload_n 1, 1) := by decide +kernel
theorem d_X_init_112 : decode b_X_init 112 = .ok (.iload_n 1, 1) := by decide +kernel
theorem d_X_init_113 : decode b_X_init 113 = .ok (.sipush 365, 3) := by decide +kernel
theorem d_X_init_116 : decode b_X_init 116 = .ok (.imul, 1) := by decide +kernel
theorem d_X_init_117 : decode b_X_init 117 = .ok (.sipush 1440, 3) := by decide +kernel
theorem d_X_init_120 : decode b_X_init 120 = .ok (.imul, 1) := by decide +kernel
theorem d_X_init_121 : decode b_X_init 121 = .ok (.iastore, 1) := by decide +kernel
theorem d_X_init_122 : decode b_X_init 122 = .ok (.iinc 1 1, 3) := by decide +kernel
theorem d_X_init_125 : decode b_X_init 125 = .ok (.goto (-24), 3) := by decide +kernel
theorem d_X_init_128 : decode b_X_init 128 = .ok (.return_, 1) := by decide +kernel
theorem d_X_level_0 : decode b_X_level 0 = .ok (.iload_n 1, 1) := by decide +kernel
theorem d_X_level_1 : decode b_X_level 1 = .ok (.ldc 47, 2) := by decide +kernel
theorem d_X_level_3 : decode b_X_level 3 = .ok (.if_icmp .lt 9, 3) := by decide +kernel
theorem d_X_level_6 : decode b_X_level 6 = .ok (.iload_n 1, 1) := by decide +kernel
theorem d_X_level_7 : decode b_X_level 7 = .ok (.ldc 48, 2) := by decide +kernel
theorem d_X_level_9 : decode b_X_level 9 = .ok (.if_icmp .le 13, 3) := by decide +kernel
theorem d_X_level_12 : decode b_X_level 12 = .ok (.new 49, 3) := by decide +kernel
theorem d_X_level_15 : decode b_X_level 15 = .ok (.dup, 1) := by decide +kernel
theorem d_X_level_16 : decode b_X_level 16 = .ok (.ldc 51, 2) := by decide +kernel
theorem d_X_level_18 : decode b_X_level 18 = .ok (.invokespecial 53, 3) := by decide +kernel
theorem d_X_level_21 : decode b_X_level 21 = .ok (.athrow, 1) := by decide +kernel
theorem d_X_level_22 : decode b_X_level 22 = .ok (.aload_n 0, 1) := by decide +kernel
theorem d_X_level_23 : decode b_X_level 23 = .ok (.getfield 56, 3) := by decide +kernel
theorem d_X_level_26 : decode b_X_level 26 = .ok (.istore_n 2, 1) := by decide +kernel
theorem d_X_level_27 : decode b_X_level 27 = .ok (.aload_n 0, 1) := by decide +kernel
theorem d_X_level_28 : decode b_X_level 28 = .ok (.iload_n 1, 1) := by decide +kernel
theorem d_X_level_29 : decode b_X_level 29 = .ok (.putfield 56, 3) := by decide +kernel
theorem d_X_level_32 : decode b_X_level 32 = .ok (.iload_n 2, 1) := by decide +kernel
theorem d_X_level_33 : decode b_X_level 33 = .ok (.ireturn, 1) := by decide +kernel
theorem d_X_constituent_0 : decode b_X_constituent 0 = .ok (.iload_n 1, 1) := by decide +kernel
theorem d_X_constituent_1 : decode b_X_constituent 1 = .ok (.invokestatic 59, 3) := by decide +kernel
theorem d_X_constituent_4 : decode b_X_constituent 4 = .ok (.ifCond .ne 13, 3) := by decide +kernel
theorem d_X_constituent_7 : decode b_X_constituent 7 = .ok (.new 63, 3) := by decide +kernel
theorem d_X_constituent_10 : decode b_X_constituent 10 = .ok (.dup, 1) := by decide +kernel
theorem d_X_constituent_11 : decode b_X_constituent 11 = .ok (.ldc 65, 2) := by decide +kernel
theorem d_X_constituent_13 : decode b_X_constituent 13 = .ok (.invokespecial 67, 3) := by decide +kernel
theorem d_X_constituent_16 : decode b_X_constituent 16 = .ok (.athrow, 1) := by decide +kernel
theorem d_X_constituent_17 : decode b_X_constituent 17 = .ok (.iload_n 2, 1) := by decide +kernel
theorem d_X_constituent_18 : decode b_X_constituent 18 = .ok (.ifCond .lt 9, 3) := by decide +kernel
theorem d_X_constituent_21 : decode b_X_constituent 21 = .ok (.iload_n 2, 1) := by decide +kernel
theorem d_X_constituent_22 : decode b_X_constituent 22 = .ok (.ldc 68, 2) := by decide +kernel
theorem d_X_constituent_24 : decode b_X_constituent 24 = .ok (.if_icmp .le 13, 3) := by decide +kernel
theorem d_X_constituent_27 : decode b_X_constituent 27 = .ok (.new 49, 3) := by decide +kernel
theorem d_X_constituent_30 : decode b_X_constituent 30 = .ok (.dup, 1) := by decide +kernel
theorem d_X_constituent_31 : decode b_X_constituent 31 = .ok (.ldc 69, 2) := by decide +kernel
theorem d_X_constituent_33 : decode b_X_constituent 33 = .ok (.invokespecial 53, 3) := by decide +kernel
theorem d_X_constituent_36 : decode b_X_constituent 36 = .ok (.athrow, 1) := by decide +kernel
theorem d_X_constituent_37 : decode b_X_constituent 37 = .ok (.lload_n 3, 1) := by decide +kernel
theorem d_X_constituent_38 : decode b_X_constituent 38 = .ok (.lconst 0, 1) := by decide +kernel
theorem d_X_constituent_39 : decode b_X_constituent 39 = .ok (.lcmp, 1) := by decide +kernel
theorem d_X_constituent_40 : decode b_X_constituent 40 = .ok (.ifCond .lt 11, 3) := by decide +kernel
theorem d_X_constituent_43 : decode b_X_constituent 43 = .ok (.lload_n 3, 1) := by decide +kernel
theorem d_X_constituent_44 : decode b_X_constituent 44 = .ok (.ldc2_w 71, 3) := by decide +kernel
theorem d_X_constituent_47 : decode b_X_constituent 47 = .ok (.lcmp, 1) := by decide +kernel
theorem d_X_constituent_48 : decode b_X_constituent 48 = .ok (.ifCond .lt 13, 3) := by decide +kernel
theorem d_X_constituent_51 : decode b_X_constituent 51 = .ok (.new 49, 3) := by decide +kernel
theorem d_X_constituent_54 : decode b_X_constituent 54 = .ok (.dup, 1) := by decide +kernel
theorem d_X_constituent_55 : decode b_X_constituent 55 = .ok (.ldc 73, 2) := by decide +kernel
theorem d_X_constituent_57 : decode b_X_constituent 57 = .ok (.invokespecial 53, 3) := by decide +kernel
theorem d_X_constituent_60 : decode b_X_constituent 60 = .ok (.athrow, 1) := by decide +kernel
theorem d_X_constituent_61 : decode b_X_constituent 61 = .ok (.lload 5, 2) := by decide +kernel
theorem d_X_constituent_63 : decode b_X_constituent 63 = .ok (.invokestatic 75, 3) := by decide +kernel
theorem d_X_constituent_66 : decode b_X_constituent 66 = .ok (.ifCond .ne 13, 3) := by decide +kernel
theorem d_X_constituent_69 : decode b_X_constituent 69 = .ok (.new 49, 3) := by decide +kernel
theorem d_X_constituent_72 : decode b_X_constituent 72 = .ok (.dup, 1) := by decide +kernel
theorem d_X_constituent_73 : decode b_X_constituent 73 = .ok (.ldc 79, 2) := by decide +kernel
theorem d_X_constituent_75 : decode b_X_constituent 75 = .ok (.invokespecial 53, 3) := by decide +kernel
theorem d_X_constituent_78 : decode b_X_constituent 78 = .ok (.athrow, 1) := by decide +kernel
theorem d_X_constituent_79 : decode b_X_constituent 79 = .ok (.aload_n 0, 1) := by decide +kernel
theorem d_X_constituent_80 : decode b_X_constituent 80 = .ok (.getfield 9, 3) := by decide +kernel
theorem d_X_constituent_83 : decode b_X_constituent 83 = .ok (.iload_n 1, 1) := by decide +kernel
theorem d_X_constituent_84 : decode b_X_constituent 84 = .ok (.iload_n 2, 1) := by decide +kernel
theorem d_X_constituent_85 : decode b_X_constituent 85 = .ok (.iastore, 1) := by decide +kernel
theorem d_X_constituent_86 : decode b_X_constituent 86 = .ok (.aload_n 0, 1) := by decide +kernel
theorem d_X_constituent_87 : decode b_X_constituent 87 = .ok (.getfield 13, 3) := by decide +kernel
theorem d_X_constituent_90 : decode b_X_constituent 90 = .ok (.iload_n 1, 1) := by decide +kernel
theorem d_X_constituent_91 : decode b_X_constituent 91 = .ok (.lload_n 3, 1) := by decide +kernel
theorem d_X_constituent_92 : decode b_X_constituent 92 = .ok (.lastore, 1) := by decide +kernel
theorem d_X_constituent_93 : decode b_X_constituent 93 = .ok (.aload_n 0, 1) := by decide +kernel
theorem d_X_constituent_94 : decode b_X_constituent 94 = .ok (.getfield 17, 3) := by decide +kernel
theorem d_X_constituent_97 : decode b_X_constituent 97 = .ok (.iload_n 1, 1) := by decide +kernel
theorem d_X_constituent_98 : decode b_X_constituent 98 = .ok (.lload 5, 2) := by decide +kernel
theorem d_X_constituent_100 : decode b_X_constituent 100 = .ok (.lastore, 1) := by decide +kernel
theorem d_X_constituent_101 : decode b_X_constituent 101 = .ok (.aload_n 0, 1) := by decide +kernel
theorem d_X_constituent_102 : decode b_X_constituent 102 = .ok (.invokevirtual 81, 3) := by decide +kernel
theorem d_X_constituent_105 : decode b_X_constituent 105 = .ok (.return_, 1) := by decide +kernel
theorem d_X_node_0 : decode b_X_node 0 = .ok (.iload_n 1, 1) := by decide +kernel
theorem d_X_node_1 : decode b_X_node 1 = .ok (.invokestatic 59, 3) := by decide +kernel
theorem d_X_node_4 : decode b_X_node 4 = .ok (.ifCond .eq 10, 3) := by decide +kernel
theorem d_X_node_7 : decode b_X_node 7 = .ok (.iload_n 2, 1) := by decide +kernel
theorem d_X_node_8 : decode b_X_node 8 = .ok (.invokestatic 84, 3) := by decide +kernel
theorem d_X_node_11 : decode b_X_node 11 = .ok (.ifCond .ne 13, 3) := by decide +kernel
theorem d_X_node_14 : decode b_X_node 14 = .ok (.new 63, 3) := by decide +kernel
theorem d_X_node_17 : decode b_X_node 17 = .ok (.dup, 1) := by decide +kernel
theorem d_X_node_18 : decode b_X_node 18 = .ok (.ldc 87, 2) := by decide +kernel
theorem d_X_node_20 : decode b_X_node 20 = .ok (.invokespecial 67, 3) := by decide +kernel
theorem d_X_node_23 : decode b_X_node 23 = .ok (.athrow, 1) := by decide +kernel
theorem d_X_node_24 : decode b_X_node 24 = .ok (.iload_n 3, 1) := by decide +kernel
theorem d_X_node_25 : decode b_X_node 25 = .ok (.ifCond .lt 9, 3) := by decide +kernel
theorem d_X_node_28 : decode b_X_node 28 = .ok (.iload_n 3, 1) := by decide +kernel
theorem d_X_node_29 : decode b_X_node 29 = .ok (.ldc 89, 2) := by decide +kernel
theorem d_X_node_31 : decode b_X_node 31 = .ok (.if_icmp .le 13, 3) := by decide +kernel
theorem d_X_node_34 : decode b_X_node 34 = .ok (.new 49, 3) := by decide +kernel
theorem d_X_node_37 : decode b_X_node 37 = .ok (.dup, 1) := by decide +kernel
theorem d_X_node_38 : decode b_X_node 38 = .ok (.ldc 90, 2) := by decide +kernel
theorem d_X_node_40 : decode b_X_node 40 = .ok (.invokespecial 53, 3) := by decide +kernel
theorem d_X_node_43 : decode b_X_node 43 = .ok (.athrow, 1) := by decide +kernel
theorem d_X_node_44 : decode b_X_node 44 = .ok (.lload 4, 2) := by decide +kernel
theorem d_X_node_46 : decode b_X_node 46 = .ok (.invokestatic 75, 3) := by decide +kernel
theorem d_X_node_49 : decode b_X_node 49 = .ok (.ifCond .ne 13, 3) := by decide +kernel
theorem d_X_node_52 : decode b_X_node 52 = .ok (.new 49, 3) := by decide +kernel
theorem d_X_node_55 : decode b_X_node 55 = .ok (.dup, 1) := by decide +kernel
theorem d_X_node_56 : decode b_X_node 56 = .ok (.ldc 92, 2) := by decide +kernel
theorem d_X_node_58 : decode b_X_node 58 = .ok (.invokespecial 53, 3) := by decide +kernel
theorem d_X_node_61 : decode b_X_node 61 = .ok (.athrow, 1) := by decide +kernel
theorem d_X_node_62 : decode b_X_node 62 = .ok (.aload_n 0, 1) := by decide +kernel
theorem d_X_node_63 : decode b_X_node 63 = .ok (.getfield 22, 3) := by decide +kernel
theorem d_X_node_66 : decode b_X_node 66 = .ok (.iload_n 1, 1) := by decide +kernel
theorem d_X_node_67 : decode b_X_node 67 = .ok (.aaload, 1) := by decide +kernel
theorem d_X_node_68 : decode b_X_node 68 = .ok (.iload_n 2, 1) := by decide +kernel
theorem d_X_node_69 : decode b_X_node 69 = .ok (.iload_n 3, 1) := by decide +kernel
theorem d_X_node_70 : decode b_X_node 70 = .ok (.iastore, 1) := by decide +kernel
theorem d_X_node_71 : decode b_X_node 71 = .ok (.aload_n 0, 1) := by decide +kernel
theorem d_X_node_72 : decode b_X_node 72 = .ok (.getfield 27, 3) := by decide +kernel
theorem d_X_node_75 : decode b_X_node 75 = .ok (.iload_n 1, 1) := by decide +kernel
theorem d_X_node_76 : decode b_X_node 76 = .ok (.aaload, 1) := by decide +kernel
theorem d_X_node_77 : decode b_X_node 77 = .ok (.iload_n 2, 1) := by decide +kernel
theorem d_X_node_78 : decode b_X_node 78 = .ok (.lload 4, 2) := by decide +kernel
theorem d_X_node_80 : decode b_X_node 80 = .ok (.lastore, 1) := by decide +kernel
theorem d_X_node_81 : decode b_X_node 81 = .ok (.aload_n 0, 1) := by decide +kernel
theorem d_X_node_82 : decode b_X_node 82 = .ok (.invokevirtual 81, 3) := by decide +kernel
theorem d_X_node_85 : decode b_X_node 85 = .ok (.return_, 1) := by decide +kernel
theorem d_X_days_0 : decode b_X_days 0 = .ok (.iload_n 1, 1) := by decide +kernel
theorem d_X_days_1 : decode b_X_days 1 = .ok (.invokestatic 84, 3) := by decide +kernel
theorem d_X_days_4 : decode b_X_days 4 = .ok (.ifCond .ne 13, 3) := by decide +kernel
theorem d_X_days_7 : decode b_X_days 7 = .ok (.new 63, 3) := by decide +kernel
theorem d_X_days_10 : decode b_X_days 10 = .ok (.dup, 1) := by decide +kernel
theorem d_X_days_11 : decode b_X_days 11 = .ok (.ldc 94, 2) := by decide +kernel
theorem d_X_days_13 : decode b_X_days 13 = .ok (.invokespecial 67, 3) := by decide +kernel
theorem d_X_days_16 : decode b_X_days 16 = .ok (.athrow, 1) := by decide +kernel
theorem d_X_days_17 : decode b_X_days 17 = .ok (.iload_n 2, 1) := by decide +kernel
theorem d_X_days_18 : decode b_X_days 18 = .ok (.sipush 365, 3) := by decide +kernel
theorem d_X_days_21 : decode b_X_days 21 = .ok (.if_icmp .eq 20, 3) := by decide +kernel
theorem d_X_days_24 : decode b_X_days 24 = .ok (.iload_n 2, 1) := by decide +kernel
theorem d_X_days_25 : decode b_X_days 25 = .ok (.sipush 366, 3) := by decide +kernel
theorem d_X_days_28 : decode b_X_days 28 = .ok (.if_icmp .eq 13, 3) := by decide +kernel
theorem d_X_days_31 : decode b_X_days 31 = .ok (.new 49, 3) := by decide +kernel
theorem d_X_days_34 : decode b_X_days 34 = .ok (.dup, 1) := by decide +kernel
theorem d_X_days_35 : decode b_X_days 35 = .ok (.ldc 96, 2) := by decide +kernel
theorem d_X_days_37 : decode b_X_days 37 = .ok (.invokespecial 53, 3) := by decide +kernel
theorem d_X_days_40 : decode b_X_days 40 = .ok (.athrow, 1) := by decide +kernel
theorem d_X_days_41 : decode b_X_days 41 = .ok (.aload_n 0, 1) := by decide +kernel
theorem d_X_days_42 : decode b_X_days 42 = .ok (.getfield 30, 3) := by decide +kernel
theorem d_X_days_45 : decode b_X_days 45 = .ok (.iload_n 1, 1) := by decide +kernel
theorem d_X_days_46 : decode b_X_days 46 = .ok (.iconst 1, 1) := by decide +kernel
theorem d_X_days_47 : decode b_X_days 47 = .ok (.iadd, 1) := by decide +kernel
theorem d_X_days_48 : decode b_X_days 48 = .ok (.iaload, 1) := by decide +kernel
theorem d_X_days_49 : decode b_X_days 49 = .ok (.aload_n 0, 1) := by decide +kernel
theorem d_X_days_50 : decode b_X_days 50 = .ok (.getfield 30, 3) := by decide +kernel
theorem d_X_days_53 : decode b_X_days 53 = .ok (.iload_n 1, 1) := by decide +kernel
theorem d_X_days_54 : decode b_X_days 54 = .ok (.iaload, 1) := by decide +kernel
theorem d_X_days_55 : decode b_X_days 55 = .ok (.isub, 1) := by decide +kernel
theorem d_X_days_56 : decode b_X_days 56 = .ok (.sipush 1440, 3) := by decide +kernel
theorem d_X_days_59 : decode b_X_days 59 = .ok (.idiv, 1) := by decide +kernel
theorem d_X_days_60 : decode b_X_days 60 = .ok (.istore_n 3, 1) := by decide +kernel
theorem d_X_days_61 : decode b_X_days 61 = .ok (.iload_n 1, 1) := by decide +kernel
theorem d_X_days_62 : decode b_X_days 62 = .ok (.iconst 1, 1) := by decide +kernel
theorem d_X_days_63 : decode b_X_days 63 = .ok (.iadd, 1) := by decide +kernel
theorem d_X_days_64 : decode b_X_days 64 = .ok (.istore 4, 2) := by decide +kernel
theorem d_X_days_66 : decode b_X_days 66 = .ok (.iload 4, 2) := by decide +kernel
theorem d_X_days_68 : decode b_X_days 68 = .ok (.bipush 10, 2) := by decide +kernel
theorem d_X_days_70 : decode b_X_days 70 = .ok (.if_icmp .gt 26, 3) := by decide +kernel
theorem d_X_days_73 : decode b_X_days 73 = .ok (.aload_n 0, 1) := by decide +kernel
theorem d_X_days_74 : decode b_X_days 74 = .ok (.getfield 30, 3) := by decide +kernel
theorem d_X_days_77 : decode b_X_days 77 = .ok (.iload 4, 2) := by decide +kernel
theorem d_X_days_79 : decode b_X_days 79 = .ok (.dup2, 1) := by decide +kernel
theorem d_X_days_80 : decode b_X_days 80 = .ok (.iaload, 1) := by decide +kernel
theorem d_X_days_81 : decode b_X_days 81 = .ok (.iload_n 2, 1) := by decide +kernel
theorem d_X_days_82 : decode b_X_days 82 = .ok (.iload_n 3, 1) := by decide +kernel
theorem d_X_days_83 : decode b_X_days 83 = .ok (.isub, 1) := by decide +kernel
theorem d_X_days_84 : decode b_X_days 84 = .ok (.sipush 1440, 3) := by decide +kernel
theorem d_X_days_87 : decode b_X_days 87 = .ok (.imul, 1) := by decide +kernel
theorem d_X_days_88 : decode b_X_days 88 = .ok (.iadd, 1) := by decide +kernel
theorem d_X_days_89 : decode b_X_days 89 = .ok (.iastore, 1) := by decide +kernel
theorem d_X_days_90 : decode b_X_days 90 = .ok (.iinc 4 1, 3) := by decide +kernel
theorem d_X_days_93 : decode b_X_days 93 = .ok (.goto (-27), 3) := by decide +kernel
theorem d_X_days_96 : decode b_X_days 96 = .ok (.aload_n 0, 1) := by decide +kernel
theorem d_X_days_97 : decode b_X_days 97 = .ok (.invokevirtual 81, 3) := by decide +kernel
theorem d_X_days_100 : decode b_X_days 100 = .ok (.iload_n 3, 1) := by decide +kernel
theorem d_X_days_101 : decode b_X_days 101 = .ok (.ireturn, 1) := by decide +kernel
theorem d_X_first_0 : decode b_X_first 0 = .ok (.iload_n 1, 1) := by decide +kernel
theorem d_X_first_1 : decode b_X_first 1 = .ok (.invokestatic 84, 3) := by decide +kernel
theorem d_X_first_4 : decode b_X_first 4 = .ok (.ifCond .ne 19, 3) := by decide +kernel
theorem d_X_first_7 : decode b_X_first 7 = .ok (.iload_n 1, 1) := by decide +kernel
theorem d_X_first_8 : decode b_X_first 8 = .ok (.bipush 10, 2) := by decide +kernel
theorem d_X_first_10 : decode b_X_first 10 = .ok (.if_icmp .eq 13, 3) := by decide +kernel
theorem d_X_first_13 : decode b_X_first 13 = .ok (.new 63, 3) := by decide +kernel
theorem d_X_first_16 : decode b_X_first 16 = .ok (.dup, 1) := by decide +kernel
theorem d_X_first_17 : decode b_X_first 17 = .ok (.ldc 94, 2) := by decide +kernel
theorem d_X_first_19 : decode b_X_first 19 = .ok (.invokespecial 67, 3) := by decide +kernel
theorem d_X_first_22 : decode b_X_first 22 = .ok (.athrow, 1) := by decide +kernel
theorem d_X_first_23 : decode b_X_first 23 = .ok (.aload_n 0, 1) := by decide +kernel
theorem d_X_first_24 : decode b_X_first 24 = .ok (.getfield 30, 3) := by decide +kernel
theorem d_X_first_27 : decode b_X_first 27 = .ok (.iload_n 1, 1) := by decide +kernel
theorem d_X_first_28 : decode b_X_first 28 = .ok (.iaload, 1) := by decide +kernel
theorem d_X_first_29 : decode b_X_first 29 = .ok (.ireturn, 1) := by decide +kernel
theorem d_X_year_0 : decode b_X_year 0 = .ok (.aload_n 0, 1) := by decide +kernel
theorem d_X_year_1 : decode b_X_year 1 = .ok (.iload_n 1, 1) := by decide +kernel
theorem d_X_year_2 : decode b_X_year 2 = .ok (.invokevirtual 98, 3) := by decide +kernel
theorem d_X_year_5 : decode b_X_year 5 = .ok (.ifCond .ne 13, 3) := by decide +kernel
theorem d_X_year_8 : decode b_X_year 8 = .ok (.new 63, 3) := by decide +kernel
theorem d_X_year_11 : decode b_X_year 11 = .ok (.dup, 1) := by decide +kernel
theorem d_X_year_12 : decode b_X_year 12 = .ok (.ldc 101, 2) := by decide +kernel
theorem d_X_year_14 : decode b_X_year 14 = .ok (.invokespecial 67, 3) := by decide +kernel
theorem d_X_year_17 : decode b_X_year 17 = .ok (.athrow, 1) := by decide +kernel
theorem d_X_year_18 : decode b_X_year 18 = .ok (.aload_n 0, 1) := by decide +kernel
theorem d_X_year_19 : decode b_X_year 19 = .ok (.iload_n 1, 1) := by decide +kernel
theorem d_X_year_20 : decode b_X_year 20 = .ok (.invokevirtual 103, 3) := by decide +kernel
theorem d_X_year_23 : decode b_X_year 23 = .ok (.ireturn, 1) := by decide +kernel
theorem d_X_position_0 : decode b_X_position 0 = .ok (.iload_n 1, 1) := by decide +kernel
theorem d_X_position_1 : decode b_X_position 1 = .ok (.invokestatic 59, 3) := by decide +kernel
theorem d_X_position_4 : decode b_X_position 4 = .ok (.ifCond .eq 11, 3) := by decide +kernel
theorem d_X_position_7 : decode b_X_position 7 = .ok (.aload_n 0, 1) := by decide +kernel
theorem d_X_position_8 : decode b_X_position 8 = .ok (.iload_n 2, 1) := by decide +kernel
theorem d_X_position_9 : decode b_X_position 9 = .ok (.invokevirtual 98, 3) := by decide +kernel
theorem d_X_position_12 : decode b_X_position 12 = .ok (.ifCond .ne 13, 3) := by decide +kernel
theorem d_X_position_15 : decode b_X_position 15 = .ok (.new 63, 3) := by decide +kernel
theorem d_X_position_18 : decode b_X_position 18 = .ok (.dup, 1) := by decide +kernel
theorem d_X_position_19 : decode b_X_position 19 = .ok (.ldc 107, 2) := by decide +kernel
theorem d_X_position_21 : decode b_X_position 21 = .ok (.invokespecial 67, 3) := by decide +kernel
theorem d_X_position_24 : decode b_X_position 24 = .ok (.athrow, 1) := by decide +kernel
theorem d_X_position_25 : decode b_X_position 25 = .ok (.aload_n 0, 1) := by decide +kernel
theorem d_X_position_26 : decode b_X_position 26 = .ok (.iload_n 1, 1) := by decide +kernel
theorem d_X_position_27 : decode b_X_position 27 = .ok (.iload_n 2, 1) := by decide +kernel
theorem d_X_position_28 : decode b_X_position 28 = .ok (.aload_n 0, 1) := by decide +kernel
theorem d_X_position_29 : decode b_X_position 29 = .ok (.iload_n 2, 1) := by decide +kernel
theorem d_X_position_30 : decode b_X_position 30 = .ok (.invokevirtual 103, 3) := by decide +kernel
theorem d_X_position_33 : decode b_X_position 33 = .ok (.invokevirtual 109, 3) := by decide +kernel
theorem d_X_position_36 : decode b_X_position 36 = .ok (.lreturn, 1) := by decide +kernel
theorem d_X_cosine_0 : decode b_X_cosine 0 = .ok (.lload_n 1, 1) := by decide +kernel
theorem d_X_cosine_1 : decode b_X_cosine 1 = .ok (.invokestatic 75, 3) := by decide +kernel
theorem d_X_cosine_4 : decode b_X_cosine 4 = .ok (.ifCond .ne 13, 3) := by decide +kernel
theorem d_X_cosine_7 : decode b_X_cosine 7 = .ok (.new 49, 3) := by decide +kernel
theorem d_X_cosine_10 : decode b_X_cosine 10 = .ok (.dup, 1) := by decide +kernel
theorem d_X_cosine_11 : decode b_X_cosine 11 = .ok (.ldc 113, 2) := by decide +kernel
theorem d_X_cosine_13 : decode b_X_cosine 13 = .ok (.invokespecial 53, 3) := by decide +kernel
theorem d_X_cosine_16 : decode b_X_cosine 16 = .ok (.athrow, 1) := by decide +kernel
theorem d_X_cosine_17 : decode b_X_cosine 17 = .ok (.lload_n 1, 1) := by decide +kernel
theorem d_X_cosine_18 : decode b_X_cosine 18 = .ok (.invokestatic 115, 3) := by decide +kernel
theorem d_X_cosine_21 : decode b_X_cosine 21 = .ok (.ireturn, 1) := by decide +kernel
theorem d_X_height_0 : decode b_X_height 0 = .ok (.aload_n 0, 1) := by decide +kernel
theorem d_X_height_1 : decode b_X_height 1 = .ok (.iload_n 1, 1) := by decide +kernel
theorem d_X_height_2 : decode b_X_height 2 = .ok (.invokevirtual 98, 3) := by decide +kernel
theorem d_X_height_5 : decode b_X_height 5 = .ok (.ifCond .ne 13, 3) := by decide +kernel
theorem d_X_height_8 : decode b_X_height 8 = .ok (.new 63, 3) := by decide +kernel
theorem d_X_height_11 : decode b_X_height 11 = .ok (.dup, 1) := by decide +kernel
theorem d_X_height_12 : decode b_X_height 12 = .ok (.ldc 101, 2) := by decide +kernel
theorem d_X_height_14 : decode b_X_height 14 = .ok (.invokespecial 67, 3) := by decide +kernel
theorem d_X_height_17 : decode b_X_height 17 = .ok (.athrow, 1) := by decide +kernel
theorem d_X_height_18 : decode b_X_height 18 = .ok (.aload_n 0, 1) := by decide +kernel
theorem d_X_height_19 : decode b_X_height 19 = .ok (.iload_n 1, 1) := by decide +kernel
theorem d_X_height_20 : decode b_X_height 20 = .ok (.invokevirtual 119, 3) := by decide +kernel
theorem d_X_height_23 : decode b_X_height 23 = .ok (.ireturn, 1) := by decide +kernel
theorem d_X_mean_0 : decode b_X_mean 0 = .ok (.iload_n 2, 1) := by decide +kernel
theorem d_X_mean_1 : decode b_X_mean 1 = .ok (.iconst 1, 1) := by decide +kernel
theorem d_X_mean_2 : decode b_X_mean 2 = .ok (.if_icmp .lt 10, 3) := by decide +kernel
theorem d_X_mean_5 : decode b_X_mean 5 = .ok (.iload_n 2, 1) := by decide +kernel
theorem d_X_mean_6 : decode b_X_mean 6 = .ok (.sipush 2000, 3) := by decide +kernel
theorem d_X_mean_9 : decode b_X_mean 9 = .ok (.if_icmp .le 13, 3) := by decide +kernel
theorem d_X_mean_12 : decode b_X_mean 12 = .ok (.new 49, 3) := by decide +kernel
theorem d_X_mean_15 : decode b_X_mean 15 = .ok (.dup, 1) := by decide +kernel
theorem d_X_mean_16 : decode b_X_mean 16 = .ok (.ldc 122, 2) := by decide +kernel
theorem d_X_mean_18 : decode b_X_mean 18 = .ok (.invokespecial 53, 3) := by decide +kernel
theorem d_X_mean_21 : decode b_X_mean 21 = .ok (.athrow, 1) := by decide +kernel
theorem d_X_mean_22 : decode b_X_mean 22 = .ok (.iload_n 1, 1) := by decide +kernel
theorem d_X_mean_23 : decode b_X_mean 23 = .ok (.ifCond .lt 16, 3) := by decide +kernel
theorem d_X_mean_26 : decode b_X_mean 26 = .ok (.iload_n 1, 1) := by decide +kernel
theorem d_X_mean_27 : decode b_X_mean 27 = .ok (.aload_n 0, 1) := by decide +kernel
theorem d_X_mean_28 : decode b_X_mean 28 = .ok (.getfield 30, 3) := by decide +kernel
theorem d_X_mean_31 : decode b_X_mean 31 = .ok (.bipush 10, 2) := by decide +kernel
theorem d_X_mean_33 : decode b_X_mean 33 = .ok (.iaload, 1) := by decide +kernel
theorem d_X_mean_34 : decode b_X_mean 34 = .ok (.iload_n 2, 1) := by decide +kernel
theorem d_X_mean_35 : decode b_X_mean 35 = .ok (.isub, 1) := by decide +kernel
theorem d_X_mean_36 : decode b_X_mean 36 = .ok (.if_icmp .le 13, 3) := by decide +kernel
theorem d_X_mean_39 : decode b_X_mean 39 = .ok (.new 63, 3) := by decide +kernel
theorem d_X_mean_42 : decode b_X_mean 42 = .ok (.dup, 1) := by decide +kernel
theorem d_X_mean_43 : decode b_X_mean 43 = .ok (.ldc 101, 2) := by decide +kernel
theorem d_X_mean_45 : decode b_X_mean 45 = .ok (.invokespecial 67, 3) := by decide +kernel
theorem d_X_mean_48 : decode b_X_mean 48 = .ok (.athrow, 1) := by decide +kernel
theorem d_X_mean_49 : decode b_X_mean 49 = .ok (.lconst 0, 1) := by decide +kernel
theorem d_X_mean_50 : decode b_X_mean 50 = .ok (.lstore_n 3, 1) := by decide +kernel
theorem d_X_mean_51 : decode b_X_mean 51 = .ok (.iconst 0, 1) := by decide +kernel
theorem d_X_mean_52 : decode b_X_mean 52 = .ok (.istore 5, 2) := by decide +kernel
theorem d_X_mean_54 : decode b_X_mean 54 = .ok (.iload 5, 2) := by decide +kernel
theorem d_X_mean_56 : decode b_X_mean 56 = .ok (.iload_n 2, 1) := by decide +kernel
theorem d_X_mean_57 : decode b_X_mean 57 = .ok (.if_icmp .ge 21, 3) := by decide +kernel
theorem d_X_mean_60 : decode b_X_mean 60 = .ok (.lload_n 3, 1) := by decide +kernel
theorem d_X_mean_61 : decode b_X_mean 61 = .ok (.aload_n 0, 1) := by decide +kernel
theorem d_X_mean_62 : decode b_X_mean 62 = .ok (.iload_n 1, 1) := by decide +kernel
theorem d_X_mean_63 : decode b_X_mean 63 = .ok (.iload 5, 2) := by decide +kernel
theorem d_X_mean_65 : decode b_X_mean 65 = .ok (.iadd, 1) := by decide +kernel
theorem d_X_mean_66 : decode b_X_mean 66 = .ok (.invokevirtual 119, 3) := by decide +kernel
theorem d_X_mean_69 : decode b_X_mean 69 = .ok (.i2l, 1) := by decide +kernel
theorem d_X_mean_70 : decode b_X_mean 70 = .ok (.ladd, 1) := by decide +kernel
theorem d_X_mean_71 : decode b_X_mean 71 = .ok (.lstore_n 3, 1) := by decide +kernel
theorem d_X_mean_72 : decode b_X_mean 72 = .ok (.iinc 5 1, 3) := by decide +kernel
theorem d_X_mean_75 : decode b_X_mean 75 = .ok (.goto (-21), 3) := by decide +kernel
theorem d_X_mean_78 : decode b_X_mean 78 = .ok (.lload_n 3, 1) := by decide +kernel
theorem d_X_mean_79 : decode b_X_mean 79 = .ok (.iload_n 2, 1) := by decide +kernel
theorem d_X_mean_80 : decode b_X_mean 80 = .ok (.i2l, 1) := by decide +kernel
theorem d_X_mean_81 : decode b_X_mean 81 = .ok (.invokestatic 124, 3) := by decide +kernel
theorem d_X_mean_84 : decode b_X_mean 84 = .ok (.l2i, 1) := by decide +kernel
theorem d_X_mean_85 : decode b_X_mean 85 = .ok (.ireturn, 1) := by decide +kernel
theorem d_X_extremes_0 : decode b_X_extremes 0 = .ok (.aload_n 0, 1) := by decide +kernel
theorem d_X_extremes_1 : decode b_X_extremes 1 = .ok (.iload_n 1, 1) := by decide +kernel
theorem d_X_extremes_2 : decode b_X_extremes 2 = .ok (.invokevirtual 130, 3) := by decide +kernel
theorem d_X_extremes_5 : decode b_X_extremes 5 = .ok (.ifCond .ne 13, 3) := by decide +kernel
theorem d_X_extremes_8 : decode b_X_extremes 8 = .ok (.new 63, 3) := by decide +kernel
theorem d_X_extremes_11 : decode b_X_extremes 11 = .ok (.dup, 1) := by decide +kernel
theorem d_X_extremes_12 : decode b_X_extremes 12 = .ok (.ldc 133, 2) := by decide +kernel
theorem d_X_extremes_14 : decode b_X_extremes 14 = .ok (.invokespecial 67, 3) := by decide +kernel
theorem d_X_extremes_17 : decode b_X_extremes 17 = .ok (.athrow, 1) := by decide +kernel
theorem d_X_extremes_18 : decode b_X_extremes 18 = .ok (.aload_n 0, 1) := by decide +kernel
theorem d_X_extremes_19 : decode b_X_extremes 19 = .ok (.iload_n 1, 1) := by decide +kernel
theorem d_X_extremes_20 : decode b_X_extremes 20 = .ok (.invokevirtual 135, 3) := by decide +kernel
theorem d_X_extremes_23 : decode b_X_extremes 23 = .ok (.ireturn, 1) := by decide +kernel
theorem d_X_extreme_0 : decode b_X_extreme 0 = .ok (.aload_n 0, 1) := by decide +kernel
theorem d_X_extreme_1 : decode b_X_extreme 1 = .ok (.iload_n 1, 1) := by decide +kernel
theorem d_X_extreme_2 : decode b_X_extreme 2 = .ok (.iload_n 2, 1) := by decide +kernel
theorem d_X_extreme_3 : decode b_X_extreme 3 = .ok (.invokevirtual 138, 3) := by decide +kernel
theorem d_X_extreme_6 : decode b_X_extreme 6 = .ok (.ifCond .ne 13, 3) := by decide +kernel
theorem d_X_extreme_9 : decode b_X_extreme 9 = .ok (.new 63, 3) := by decide +kernel
theorem d_X_extreme_12 : decode b_X_extreme 12 = .ok (.dup, 1) := by decide +kernel
theorem d_X_extreme_13 : decode b_X_extreme 13 = .ok (.ldc 142, 2) := by decide +kernel
theorem d_X_extreme_15 : decode b_X_extreme 15 = .ok (.invokespecial 67, 3) := by decide +kernel
theorem d_X_extreme_18 : decode b_X_extreme 18 = .ok (.athrow, 1) := by decide +kernel
theorem d_X_extreme_19 : decode b_X_extreme 19 = .ok (.aload_n 0, 1) := by decide +kernel
theorem d_X_extreme_20 : decode b_X_extreme 20 = .ok (.getfield 33, 3) := by decide +kernel
theorem d_X_extreme_23 : decode b_X_extreme 23 = .ok (.iload_n 2, 1) := by decide +kernel
theorem d_X_extreme_24 : decode b_X_extreme 24 = .ok (.iaload, 1) := by decide +kernel
theorem d_X_extreme_25 : decode b_X_extreme 25 = .ok (.istore 4, 2) := by decide +kernel
theorem d_X_extreme_27 : decode b_X_extreme 27 = .ok (.iload_n 3, 1) := by decide +kernel
theorem d_X_extreme_28 : decode b_X_extreme 28 = .ok (.tableswitch 53 0 2 #[28, 31, 38], 28) := by decide +kernel
theorem d_X_extreme_56 : decode b_X_extreme 56 = .ok (.iload 4, 2) := by decide +kernel
theorem d_X_extreme_58 : decode b_X_extreme 58 = .ok (.ireturn, 1) := by decide +kernel
theorem d_X_extreme_59 : decode b_X_extreme 59 = .ok (.aload_n 0, 1) := by decide +kernel
theorem d_X_extreme_60 : decode b_X_extreme 60 = .ok (.iload 4, 2) := by decide +kernel
theorem d_X_extreme_62 : decode b_X_extreme 62 = .ok (.invokevirtual 119, 3) := by decide +kernel
theorem d_X_extreme_65 : decode b_X_extreme 65 = .ok (.ireturn, 1) := by decide +kernel
theorem d_X_extreme_66 : decode b_X_extreme 66 = .ok (.aload_n 0, 1) := by decide +kernel
theorem d_X_extreme_67 : decode b_X_extreme 67 = .ok (.iload 4, 2) := by decide +kernel
theorem d_X_extreme_69 : decode b_X_extreme 69 = .ok (.invokevirtual 144, 3) := by decide +kernel
theorem d_X_extreme_72 : decode b_X_extreme 72 = .ok (.ifCond .eq 7, 3) := by decide +kernel
theorem d_X_extreme_75 : decode b_X_extreme 75 = .ok (.iconst 1, 1) := by decide +kernel
theorem d_X_extreme_76 : decode b_X_extreme 76 = .ok (.goto 4, 3) := by decide +kernel
theorem d_X_extreme_79 : decode b_X_extreme 79 = .ok (.iconst 0, 1) := by decide +kernel
theorem d_X_extreme_80 : decode b_X_extreme 80 = .ok (.ireturn, 1) := by decide +kernel
theorem d_X_extreme_81 : decode b_X_extreme 81 = .ok (.new 49, 3) := by decide +kernel
theorem d_X_extreme_84 : decode b_X_extreme 84 = .ok (.dup, 1) := by decide +kernel
theorem d_X_extreme_85 : decode b_X_extreme 85 = .ok (.ldc 147, 2) := by decide +kernel
theorem d_X_extreme_87 : decode b_X_extreme 87 = .ok (.invokespecial 53, 3) := by decide +kernel
theorem d_X_extreme_90 : decode b_X_extreme 90 = .ok (.athrow, 1) := by decide +kernel
theorem d_X_line_0 : decode b_X_line 0 = .ok (.aload_n 0, 1) := by decide +kernel
theorem d_X_line_1 : decode b_X_line 1 = .ok (.iload_n 1, 1) := by decide +kernel
theorem d_X_line_2 : decode b_X_line 2 = .ok (.iload_n 2, 1) := by decide +kernel
theorem d_X_line_3 : decode b_X_line 3 = .ok (.invokevirtual 138, 3) := by decide +kernel
theorem d_X_line_6 : decode b_X_line 6 = .ok (.ifCond .ne 13, 3) := by decide +kernel
theorem d_X_line_9 : decode b_X_line 9 = .ok (.new 63, 3) := by decide +kernel
theorem d_X_line_12 : decode b_X_line 12 = .ok (.dup, 1) := by decide +kernel
theorem d_X_line_13 : decode b_X_line 13 = .ok (.ldc 142, 2) := by decide +kernel
theorem d_X_line_15 : decode b_X_line 15 = .ok (.invokespecial 67, 3) := by decide +kernel
theorem d_X_line_18 : decode b_X_line 18 = .ok (.athrow, 1) := by decide +kernel
theorem d_X_line_19 : decode b_X_line 19 = .ok (.aload_n 0, 1) := by decide +kernel
theorem d_X_line_20 : decode b_X_line 20 = .ok (.aload_n 0, 1) := by decide +kernel
theorem d_X_line_21 : decode b_X_line 21 = .ok (.getfield 33, 3) := by decide +kernel
theorem d_X_line_24 : decode b_X_line 24 = .ok (.iload_n 2, 1) := by decide +kernel
theorem d_X_line_25 : decode b_X_line 25 = .ok (.iaload, 1) := by decide +kernel
theorem d_X_line_26 : decode b_X_line 26 = .ok (.invokevirtual 149, 3) := by decide +kernel
theorem d_X_line_29 : decode b_X_line 29 = .ok (.invokevirtual 153, 3) := by decide +kernel
theorem d_X_line_32 : decode b_X_line 32 = .ok (.ireturn, 1) := by decide +kernel
theorem d_X_sign_0 : decode b_X_sign 0 = .ok (.aload_n 0, 1) := by decide +kernel
theorem d_X_sign_1 : decode b_X_sign 1 = .ok (.iload_n 1, 1) := by decide +kernel
theorem d_X_sign_2 : decode b_X_sign 2 = .ok (.iload_n 2, 1) := by decide +kernel
theorem d_X_sign_3 : decode b_X_sign 3 = .ok (.invokevirtual 138, 3) := by decide +kernel
theorem d_X_sign_6 : decode b_X_sign 6 = .ok (.ifCond .ne 13, 3) := by decide +kernel
theorem d_X_sign_9 : decode b_X_sign 9 = .ok (.new 63, 3) := by decide +kernel
theorem d_X_sign_12 : decode b_X_sign 12 = .ok (.dup, 1) := by decide +kernel
theorem d_X_sign_13 : decode b_X_sign 13 = .ok (.ldc 142, 2) := by decide +kernel
theorem d_X_sign_15 : decode b_X_sign 15 = .ok (.invokespecial 67, 3) := by decide +kernel
theorem d_X_sign_18 : decode b_X_sign 18 = .ok (.athrow, 1) := by decide +kernel
theorem d_X_sign_19 : decode b_X_sign 19 = .ok (.aload_n 0, 1) := by decide +kernel
theorem d_X_sign_20 : decode b_X_sign 20 = .ok (.aload_n 0, 1) := by decide +kernel
theorem d_X_sign_21 : decode b_X_sign 21 = .ok (.getfield 33, 3) := by decide +kernel
theorem d_X_sign_24 : decode b_X_sign 24 = .ok (.iload_n 2, 1) := by decide +kernel
theorem d_X_sign_25 : decode b_X_sign 25 = .ok (.iaload, 1) := by decide +kernel
theorem d_X_sign_26 : decode b_X_sign 26 = .ok (.invokevirtual 149, 3) := by decide +kernel
theorem d_X_sign_29 : decode b_X_sign 29 = .ok (.astore 4, 2) := by decide +kernel
theorem d_X_sign_31 : decode b_X_sign 31 = .ok (.iload_n 3, 1) := by decide +kernel
theorem d_X_sign_32 : decode b_X_sign 32 = .ok (.ifCond .lt 12, 3) := by decide +kernel
theorem d_X_sign_35 : decode b_X_sign 35 = .ok (.iload_n 3, 1) := by decide +kernel
theorem d_X_sign_36 : decode b_X_sign 36 = .ok (.aload 4, 2) := by decide +kernel
theorem d_X_sign_38 : decode b_X_sign 38 = .ok (.invokevirtual 153, 3) := by decide +kernel
theorem d_X_sign_41 : decode b_X_sign 41 = .ok (.if_icmp .lt 13, 3) := by decide +kernel
theorem d_X_sign_44 : decode b_X_sign 44 = .ok (.new 63, 3) := by decide +kernel
theorem d_X_sign_47 : decode b_X_sign 47 = .ok (.dup, 1) := by decide +kernel
theorem d_X_sign_48 : decode b_X_sign 48 = .ok (.ldc 159, 2) := by decide +kernel
theorem d_X_sign_50 : decode b_X_sign 50 = .ok (.invokespecial 67, 3) := by decide +kernel
theorem d_X_sign_53 : decode b_X_sign 53 = .ok (.athrow, 1) := by decide +kernel
theorem d_X_sign_54 : decode b_X_sign 54 = .ok (.aload 4, 2) := by decide +kernel
theorem d_X_sign_56 : decode b_X_sign 56 = .ok (.iload_n 3, 1) := by decide +kernel
theorem d_X_sign_57 : decode b_X_sign 57 = .ok (.invokevirtual 161, 3) := by decide +kernel
theorem d_X_sign_60 : decode b_X_sign 60 = .ok (.ireturn, 1) := by decide +kernel
theorem d_X_above_0 : decode b_X_above 0 = .ok (.iload_n 3, 1) := by decide +kernel
theorem d_X_above_1 : decode b_X_above 1 = .ok (.iconst 1, 1) := by decide +kernel
theorem d_X_above_2 : decode b_X_above 2 = .ok (.if_icmp .lt 10, 3) := by decide +kernel
theorem d_X_above_5 : decode b_X_above 5 = .ok (.iload_n 3, 1) := by decide +kernel
theorem d_X_above_6 : decode b_X_above 6 = .ok (.sipush 1000, 3) := by decide +kernel
theorem d_X_above_9 : decode b_X_above 9 = .ok (.if_icmp .le 13, 3) := by decide +kernel
theorem d_X_above_12 : decode b_X_above 12 = .ok (.new 49, 3) := by decide +kernel
theorem d_X_above_15 : decode b_X_above 15 = .ok (.dup, 1) := by decide +kernel
theorem d_X_above_16 : decode b_X_above 16 = .ok (.ldc 165, 2) := by decide +kernel
theorem d_X_above_18 : decode b_X_above 18 = .ok (.invokespecial 53, 3) := by decide +kernel
theorem d_X_above_21 : decode b_X_above 21 = .ok (.athrow, 1) := by decide +kernel
theorem d_X_above_22 : decode b_X_above 22 = .ok (.aload_n 0, 1) := by decide +kernel
theorem d_X_above_23 : decode b_X_above 23 = .ok (.iload_n 1, 1) := by decide +kernel
theorem d_X_above_24 : decode b_X_above 24 = .ok (.invokevirtual 98, 3) := by decide +kernel
theorem d_X_above_27 : decode b_X_above 27 = .ok (.ifCond .ne 13, 3) := by decide +kernel
theorem d_X_above_30 : decode b_X_above 30 = .ok (.new 63, 3) := by decide +kernel
theorem d_X_above_33 : decode b_X_above 33 = .ok (.dup, 1) := by decide +kernel
theorem d_X_above_34 : decode b_X_above 34 = .ok (.ldc 101, 2) := by decide +kernel
theorem d_X_above_36 : decode b_X_above 36 = .ok (.invokespecial 67, 3) := by decide +kernel
theorem d_X_above_39 : decode b_X_above 39 = .ok (.athrow, 1) := by decide +kernel
theorem d_X_above_40 : decode b_X_above 40 = .ok (.aload_n 0, 1) := by decide +kernel
theorem d_X_above_41 : decode b_X_above 41 = .ok (.getfield 30, 3) := by decide +kernel
theorem d_X_above_44 : decode b_X_above 44 = .ok (.bipush 10, 2) := by decide +kernel
theorem d_X_above_46 : decode b_X_above 46 = .ok (.iaload, 1) := by decide +kernel
theorem d_X_above_47 : decode b_X_above 47 = .ok (.iload_n 1, 1) := by decide +kernel
theorem d_X_above_48 : decode b_X_above 48 = .ok (.sipush 3000, 3) := by decide +kernel
theorem d_X_above_51 : decode b_X_above 51 = .ok (.iadd, 1) := by decide +kernel
theorem d_X_above_52 : decode b_X_above 52 = .ok (.iload_n 3, 1) := by decide +kernel
theorem d_X_above_53 : decode b_X_above 53 = .ok (.iadd, 1) := by decide +kernel
theorem d_X_above_54 : decode b_X_above 54 = .ok (.iconst 1, 1) := by decide +kernel
theorem d_X_above_55 : decode b_X_above 55 = .ok (.isub, 1) := by decide +kernel
theorem d_X_above_56 : decode b_X_above 56 = .ok (.invokestatic 167, 3) := by decide +kernel
theorem d_X_above_59 : decode b_X_above 59 = .ok (.istore 4, 2) := by decide +kernel
theorem d_X_above_61 : decode b_X_above 61 = .ok (.iconst 0, 1) := by decide +kernel
theorem d_X_above_62 : decode b_X_above 62 = .ok (.istore 5, 2) := by decide +kernel
theorem d_X_above_64 : decode b_X_above 64 = .ok (.iload_n 1, 1) := by decide +kernel
theorem d_X_above_65 : decode b_X_above 65 = .ok (.istore 6, 2) := by decide +kernel
theorem d_X_above_67 : decode b_X_above 67 = .ok (.iload 6, 2) := by decide +kernel
theorem d_X_above_69 : decode b_X_above 69 = .ok (.iload 4, 2) := by decide +kernel
theorem d_X_above_71 : decode b_X_above 71 = .ok (.if_icmp .ge 42, 3) := by decide +kernel
theorem d_X_above_74 : decode b_X_above 74 = .ok (.aload_n 0, 1) := by decide +kernel
theorem d_X_above_75 : decode b_X_above 75 = .ok (.iload 6, 2) := by decide +kernel
theorem d_X_above_77 : decode b_X_above 77 = .ok (.invokevirtual 119, 3) := by decide +kernel
theorem d_X_above_80 : decode b_X_above 80 = .ok (.iload_n 2, 1) := by decide +kernel
theorem d_X_above_81 : decode b_X_above 81 = .ok (.if_icmp .lt 10, 3) := by decide +kernel
theorem d_X_above_84 : decode b_X_above 84 = .ok (.iload 5, 2) := by decide +kernel
theorem d_X_above_86 : decode b_X_above 86 = .ok (.iconst 1, 1) := by decide +kernel
theorem d_X_above_87 : decode b_X_above 87 = .ok (.iadd, 1) := by decide +kernel
theorem d_X_above_88 : decode b_X_above 88 = .ok (.goto 4, 3) := by decide +kernel
theorem d_X_above_91 : decode b_X_above 91 = .ok (.iconst 0, 1) := by decide +kernel
theorem d_X_above_92 : decode b_X_above 92 = .ok (.istore 5, 2) := by decide +kernel
theorem d_X_above_94 : decode b_X_above 94 = .ok (.iload 5, 2) := by decide +kernel
theorem d_X_above_96 : decode b_X_above 96 = .ok (.iload_n 3, 1) := by decide +kernel
theorem d_X_above_97 : decode b_X_above 97 = .ok (.if_icmp .ne 10, 3) := by decide +kernel
theorem d_X_above_100 : decode b_X_above 100 = .ok (.iload 6, 2) := by decide +kernel
theorem d_X_above_102 : decode b_X_above 102 = .ok (.iload_n 3, 1) := by decide +kernel
theorem d_X_above_103 : decode b_X_above 103 = .ok (.isub, 1) := by decide +kernel
theorem d_X_above_104 : decode b_X_above 104 = .ok (.iconst 1, 1) := by decide +kernel
theorem d_X_above_105 : decode b_X_above 105 = .ok (.iadd, 1) := by decide +kernel
theorem d_X_above_106 : decode b_X_above 106 = .ok (.ireturn, 1) := by decide +kernel
theorem d_X_above_107 : decode b_X_above 107 = .ok (.iinc 6 1, 3) := by decide +kernel
theorem d_X_above_110 : decode b_X_above 110 = .ok (.goto (-43), 3) := by decide +kernel
theorem d_X_above_113 : decode b_X_above 113 = .ok (.iconst (-1), 1) := by decide +kernel
theorem d_X_above_114 : decode b_X_above 114 = .ok (.ireturn, 1) := by decide +kernel
theorem d_X_isConstituent_0 : decode b_X_isConstituent 0 = .ok (.iload_n 0, 1) := by decide +kernel
theorem d_X_isConstituent_1 : decode b_X_isConstituent 1 = .ok (.ifCond .lt 13, 3) := by decide +kernel
theorem d_X_isConstituent_4 : decode b_X_isConstituent 4 = .ok (.iload_n 0, 1) := by decide +kernel
theorem d_X_isConstituent_5 : decode b_X_isConstituent 5 = .ok (.bipush 8, 2) := by decide +kernel
theorem d_X_isConstituent_7 : decode b_X_isConstituent 7 = .ok (.if_icmp .ge 7, 3) := by decide +kernel
theorem d_X_isConstituent_10 : decode b_X_isConstituent 10 = .ok (.iconst 1, 1) := by decide +kernel
theorem d_X_isConstituent_11 : decode b_X_isConstituent 11 = .ok (.goto 4, 3) := by decide +kernel
theorem d_X_isConstituent_14 : decode b_X_isConstituent 14 = .ok (.iconst 0, 1) := by decide +kernel
theorem d_X_isConstituent_15 : decode b_X_isConstituent 15 = .ok (.ireturn, 1) := by decide +kernel
theorem d_X_isYear_0 : decode b_X_isYear 0 = .ok (.iload_n 0, 1) := by decide +kernel
theorem d_X_isYear_1 : decode b_X_isYear 1 = .ok (.ifCond .lt 13, 3) := by decide +kernel
theorem d_X_isYear_4 : decode b_X_isYear 4 = .ok (.iload_n 0, 1) := by decide +kernel
theorem d_X_isYear_5 : decode b_X_isYear 5 = .ok (.bipush 10, 2) := by decide +kernel
theorem d_X_isYear_7 : decode b_X_isYear 7 = .ok (.if_icmp .ge 7, 3) := by decide +kernel
theorem d_X_isYear_10 : decode b_X_isYear 10 = .ok (.iconst 1, 1) := by decide +kernel
theorem d_X_isYear_11 : decode b_X_isYear 11 = .ok (.goto 4, 3) := by decide +kernel
theorem d_X_isYear_14 : decode b_X_isYear 14 = .ok (.iconst 0, 1) := by decide +kernel
theorem d_X_isYear_15 : decode b_X_isYear 15 = .ok (.ireturn, 1) := by decide +kernel
theorem d_X_isPosition_0 : decode b_X_isPosition 0 = .ok (.lload_n 0, 1) := by decide +kernel
theorem d_X_isPosition_1 : decode b_X_isPosition 1 = .ok (.lconst 0, 1) := by decide +kernel
theorem d_X_isPosition_2 : decode b_X_isPosition 2 = .ok (.lcmp, 1) := by decide +kernel
theorem d_X_isPosition_3 : decode b_X_isPosition 3 = .ok (.ifCond .lt 15, 3) := by decide +kernel
theorem d_X_isPosition_6 : decode b_X_isPosition 6 = .ok (.lload_n 0, 1) := by decide +kernel
theorem d_X_isPosition_7 : decode b_X_isPosition 7 = .ok (.ldc2_w 171, 3) := by decide +kernel
theorem d_X_isPosition_10 : decode b_X_isPosition 10 = .ok (.lcmp, 1) := by decide +kernel
theorem d_X_isPosition_11 : decode b_X_isPosition 11 = .ok (.ifCond .ge 7, 3) := by decide +kernel
theorem d_X_isPosition_14 : decode b_X_isPosition 14 = .ok (.iconst 1, 1) := by decide +kernel
theorem d_X_isPosition_15 : decode b_X_isPosition 15 = .ok (.goto 4, 3) := by decide +kernel
theorem d_X_isPosition_18 : decode b_X_isPosition 18 = .ok (.iconst 0, 1) := by decide +kernel
theorem d_X_isPosition_19 : decode b_X_isPosition 19 = .ok (.ireturn, 1) := by decide +kernel
theorem d_X_isMinute_0 : decode b_X_isMinute 0 = .ok (.iload_n 1, 1) := by decide +kernel
theorem d_X_isMinute_1 : decode b_X_isMinute 1 = .ok (.ifCond .lt 18, 3) := by decide +kernel
theorem d_X_isMinute_4 : decode b_X_isMinute 4 = .ok (.iload_n 1, 1) := by decide +kernel
theorem d_X_isMinute_5 : decode b_X_isMinute 5 = .ok (.aload_n 0, 1) := by decide +kernel
theorem d_X_isMinute_6 : decode b_X_isMinute 6 = .ok (.getfield 30, 3) := by decide +kernel
theorem d_X_isMinute_9 : decode b_X_isMinute 9 = .ok (.bipush 10, 2) := by decide +kernel
theorem d_X_isMinute_11 : decode b_X_isMinute 11 = .ok (.iaload, 1) := by decide +kernel
theorem d_X_isMinute_12 : decode b_X_isMinute 12 = .ok (.if_icmp .ge 7, 3) := by decide +kernel
theorem d_X_isMinute_15 : decode b_X_isMinute 15 = .ok (.iconst 1, 1) := by decide +kernel
theorem d_X_isMinute_16 : decode b_X_isMinute 16 = .ok (.goto 4, 3) := by decide +kernel
theorem d_X_isMinute_19 : decode b_X_isMinute 19 = .ok (.iconst 0, 1) := by decide +kernel
theorem d_X_isMinute_20 : decode b_X_isMinute 20 = .ok (.ireturn, 1) := by decide +kernel
theorem d_X_isDay_0 : decode b_X_isDay 0 = .ok (.iload_n 1, 1) := by decide +kernel
theorem d_X_isDay_1 : decode b_X_isDay 1 = .ok (.ifCond .lt 22, 3) := by decide +kernel
theorem d_X_isDay_4 : decode b_X_isDay 4 = .ok (.iload_n 1, 1) := by decide +kernel
theorem d_X_isDay_5 : decode b_X_isDay 5 = .ok (.aload_n 0, 1) := by decide +kernel
theorem d_X_isDay_6 : decode b_X_isDay 6 = .ok (.getfield 30, 3) := by decide +kernel
theorem d_X_isDay_9 : decode b_X_isDay 9 = .ok (.bipush 10, 2) := by decide +kernel
theorem d_X_isDay_11 : decode b_X_isDay 11 = .ok (.iaload, 1) := by decide +kernel
theorem d_X_isDay_12 : decode b_X_isDay 12 = .ok (.sipush 1440, 3) := by decide +kernel
theorem d_X_isDay_15 : decode b_X_isDay 15 = .ok (.idiv, 1) := by decide +kernel
theorem d_X_isDay_16 : decode b_X_isDay 16 = .ok (.if_icmp .ge 7, 3) := by decide +kernel
theorem d_X_isDay_19 : decode b_X_isDay 19 = .ok (.iconst 1, 1) := by decide +kernel
theorem d_X_isDay_20 : decode b_X_isDay 20 = .ok (.goto 4, 3) := by decide +kernel
theorem d_X_isDay_23 : decode b_X_isDay 23 = .ok (.iconst 0, 1) := by decide +kernel
theorem d_X_isDay_24 : decode b_X_isDay 24 = .ok (.ireturn, 1) := by decide +kernel
theorem d_X_isExtreme_0 : decode b_X_isExtreme 0 = .ok (.aload_n 0, 1) := by decide +kernel
theorem d_X_isExtreme_1 : decode b_X_isExtreme 1 = .ok (.iload_n 1, 1) := by decide +kernel
theorem d_X_isExtreme_2 : decode b_X_isExtreme 2 = .ok (.invokevirtual 130, 3) := by decide +kernel
theorem d_X_isExtreme_5 : decode b_X_isExtreme 5 = .ok (.ifCond .eq 20, 3) := by decide +kernel
theorem d_X_isExtreme_8 : decode b_X_isExtreme 8 = .ok (.iload_n 2, 1) := by decide +kernel
theorem d_X_isExtreme_9 : decode b_X_isExtreme 9 = .ok (.ifCond .lt 16, 3) := by decide +kernel
theorem d_X_isExtreme_12 : decode b_X_isExtreme 12 = .ok (.iload_n 2, 1) := by decide +kernel
theorem d_X_isExtreme_13 : decode b_X_isExtreme 13 = .ok (.aload_n 0, 1) := by decide +kernel
theorem d_X_isExtreme_14 : decode b_X_isExtreme 14 = .ok (.iload_n 1, 1) := by decide +kernel
theorem d_X_isExtreme_15 : decode b_X_isExtreme 15 = .ok (.invokevirtual 135, 3) := by decide +kernel
theorem d_X_isExtreme_18 : decode b_X_isExtreme 18 = .ok (.if_icmp .ge 7, 3) := by decide +kernel
theorem d_X_isExtreme_21 : decode b_X_isExtreme 21 = .ok (.iconst 1, 1) := by decide +kernel
theorem d_X_isExtreme_22 : decode b_X_isExtreme 22 = .ok (.goto 4, 3) := by decide +kernel
theorem d_X_isExtreme_25 : decode b_X_isExtreme 25 = .ok (.iconst 0, 1) := by decide +kernel
theorem d_X_isExtreme_26 : decode b_X_isExtreme 26 = .ok (.ireturn, 1) := by decide +kernel
theorem d_X_yearOf_0 : decode b_X_yearOf 0 = .ok (.iconst 0, 1) := by decide +kernel
theorem d_X_yearOf_1 : decode b_X_yearOf 1 = .ok (.istore_n 2, 1) := by decide +kernel
theorem d_X_yearOf_2 : decode b_X_yearOf 2 = .ok (.iload_n 2, 1) := by decide +kernel
theorem d_X_yearOf_3 : decode b_X_yearOf 3 = .ok (.bipush 9, 2) := by decide +kernel
theorem d_X_yearOf_5 : decode b_X_yearOf 5 = .ok (.if_icmp .ge 21, 3) := by decide +kernel
theorem d_X_yearOf_8 : decode b_X_yearOf 8 = .ok (.iload_n 1, 1) := by decide +kernel
theorem d_X_yearOf_9 : decode b_X_yearOf 9 = .ok (.aload_n 0, 1) := by decide +kernel
theorem d_X_yearOf_10 : decode b_X_yearOf 10 = .ok (.getfield 30, 3) := by decide +kernel
theorem d_X_yearOf_13 : decode b_X_yearOf 13 = .ok (.iload_n 2, 1) := by decide +kernel
theorem d_X_yearOf_14 : decode b_X_yearOf 14 = .ok (.iconst 1, 1) := by decide +kernel
theorem d_X_yearOf_15 : decode b_X_yearOf 15 = .ok (.iadd, 1) := by decide +kernel
theorem d_X_yearOf_16 : decode b_X_yearOf 16 = .ok (.iaload, 1) := by decide +kernel
theorem d_X_yearOf_17 : decode b_X_yearOf 17 = .ok (.if_icmp .lt 9, 3) := by decide +kernel
theorem d_X_yearOf_20 : decode b_X_yearOf 20 = .ok (.iinc 2 1, 3) := by decide +kernel
theorem d_X_yearOf_23 : decode b_X_yearOf 23 = .ok (.goto (-21), 3) := by decide +kernel
theorem d_X_yearOf_26 : decode b_X_yearOf 26 = .ok (.iload_n 2, 1) := by decide +kernel
theorem d_X_yearOf_27 : decode b_X_yearOf 27 = .ok (.ireturn, 1) := by decide +kernel
theorem d_X_positionAt_0 : decode b_X_positionAt 0 = .ok (.aload_n 0, 1) := by decide +kernel
theorem d_X_positionAt_1 : decode b_X_positionAt 1 = .ok (.getfield 17, 3) := by decide +kernel
theorem d_X_positionAt_4 : decode b_X_positionAt 4 = .ok (.iload_n 1, 1) := by decide +kernel
theorem d_X_positionAt_5 : decode b_X_positionAt 5 = .ok (.laload, 1) := by decide +kernel
theorem d_X_positionAt_6 : decode b_X_positionAt 6 = .ok (.aload_n 0, 1) := by decide +kernel
theorem d_X_positionAt_7 : decode b_X_positionAt 7 = .ok (.getfield 13, 3) := by decide +kernel
theorem d_X_positionAt_10 : decode b_X_positionAt 10 = .ok (.iload_n 1, 1) := by decide +kernel
theorem d_X_positionAt_11 : decode b_X_positionAt 11 = .ok (.laload, 1) := by decide +kernel
theorem d_X_positionAt_12 : decode b_X_positionAt 12 = .ok (.iload_n 2, 1) := by decide +kernel
theorem d_X_positionAt_13 : decode b_X_positionAt 13 = .ok (.i2l, 1) := by decide +kernel
theorem d_X_positionAt_14 : decode b_X_positionAt 14 = .ok (.lmul, 1) := by decide +kernel
theorem d_X_positionAt_15 : decode b_X_positionAt 15 = .ok (.ladd, 1) := by decide +kernel
theorem d_X_positionAt_16 : decode b_X_positionAt 16 = .ok (.aload_n 0, 1) := by decide +kernel
theorem d_X_positionAt_17 : decode b_X_positionAt 17 = .ok (.getfield 27, 3) := by decide +kernel
theorem d_X_positionAt_20 : decode b_X_positionAt 20 = .ok (.iload_n 1, 1) := by decide +kernel
theorem d_X_positionAt_21 : decode b_X_positionAt 21 = .ok (.aaload, 1) := by decide +kernel
theorem d_X_positionAt_22 : decode b_X_positionAt 22 = .ok (.iload_n 3, 1) := by decide +kernel
theorem d_X_positionAt_23 : decode b_X_positionAt 23 = .ok (.laload, 1) := by decide +kernel
theorem d_X_positionAt_24 : decode b_X_positionAt 24 = .ok (.ladd, 1) := by decide +kernel
theorem d_X_positionAt_25 : decode b_X_positionAt 25 = .ok (.ldc2_w 173, 3) := by decide +kernel
theorem d_X_positionAt_28 : decode b_X_positionAt 28 = .ok (.land, 1) := by decide +kernel
theorem d_X_positionAt_29 : decode b_X_positionAt 29 = .ok (.lreturn, 1) := by decide +kernel
theorem d_X_cosineOf_0 : decode b_X_cosineOf 0 = .ok (.lload_n 0, 1) := by decide +kernel
theorem d_X_cosineOf_1 : decode b_X_cosineOf 1 = .ok (.bipush 46, 2) := by decide +kernel
theorem d_X_cosineOf_3 : decode b_X_cosineOf 3 = .ok (.lshr, 1) := by decide +kernel
theorem d_X_cosineOf_4 : decode b_X_cosineOf 4 = .ok (.l2i, 1) := by decide +kernel
theorem d_X_cosineOf_5 : decode b_X_cosineOf 5 = .ok (.istore_n 2, 1) := by decide +kernel
theorem d_X_cosineOf_6 : decode b_X_cosineOf 6 = .ok (.lload_n 0, 1) := by decide +kernel
theorem d_X_cosineOf_7 : decode b_X_cosineOf 7 = .ok (.bipush 16, 2) := by decide +kernel
theorem d_X_cosineOf_9 : decode b_X_cosineOf 9 = .ok (.lshr, 1) := by decide +kernel
theorem d_X_cosineOf_10 : decode b_X_cosineOf 10 = .ok (.ldc2_w 175, 3) := by decide +kernel
theorem d_X_cosineOf_13 : decode b_X_cosineOf 13 = .ok (.land, 1) := by decide +kernel
theorem d_X_cosineOf_14 : decode b_X_cosineOf 14 = .ok (.lstore_n 3, 1) := by decide +kernel
theorem d_X_cosineOf_15 : decode b_X_cosineOf 15 = .ok (.iload_n 2, 1) := by decide +kernel
theorem d_X_cosineOf_16 : decode b_X_cosineOf 16 = .ok (.iconst 1, 1) := by decide +kernel
theorem d_X_cosineOf_17 : decode b_X_cosineOf 17 = .ok (.if_icmp .eq 8, 3) := by decide +kernel
theorem d_X_cosineOf_20 : decode b_X_cosineOf 20 = .ok (.iload_n 2, 1) := by decide +kernel
theorem d_X_cosineOf_21 : decode b_X_cosineOf 21 = .ok (.iconst 3, 1) := by decide +kernel
theorem d_X_cosineOf_22 : decode b_X_cosineOf 22 = .ok (.if_icmp .ne 9, 3) := by decide +kernel
theorem d_X_cosineOf_25 : decode b_X_cosineOf 25 = .ok (.ldc2_w 177, 3) := by decide +kernel
theorem d_X_cosineOf_28 : decode b_X_cosineOf 28 = .ok (.lload_n 3, 1) := by decide +kernel
theorem d_X_cosineOf_29 : decode b_X_cosineOf 29 = .ok (.lsub, 1) := by decide +kernel
theorem d_X_cosineOf_30 : decode b_X_cosineOf 30 = .ok (.lstore_n 3, 1) := by decide +kernel
theorem d_X_cosineOf_31 : decode b_X_cosineOf 31 = .ok (.lload_n 3, 1) := by decide +kernel
theorem d_X_cosineOf_32 : decode b_X_cosineOf 32 = .ok (.lload_n 3, 1) := by decide +kernel
theorem d_X_cosineOf_33 : decode b_X_cosineOf 33 = .ok (.lmul, 1) := by decide +kernel
theorem d_X_cosineOf_34 : decode b_X_cosineOf 34 = .ok (.bipush 30, 2) := by decide +kernel
theorem d_X_cosineOf_36 : decode b_X_cosineOf 36 = .ok (.lshr, 1) := by decide +kernel
theorem d_X_cosineOf_37 : decode b_X_cosineOf 37 = .ok (.lstore 5, 2) := by decide +kernel
theorem d_X_cosineOf_39 : decode b_X_cosineOf 39 = .ok (.ldc2_w 179, 3) := by decide +kernel
theorem d_X_cosineOf_42 : decode b_X_cosineOf 42 = .ok (.ldc2_w 181, 3) := by decide +kernel
theorem d_X_cosineOf_45 : decode b_X_cosineOf 45 = .ok (.lload 5, 2) := by decide +kernel
theorem d_X_cosineOf_47 : decode b_X_cosineOf 47 = .ok (.lmul, 1) := by decide +kernel
theorem d_X_cosineOf_48 : decode b_X_cosineOf 48 = .ok (.bipush 30, 2) := by decide +kernel
theorem d_X_cosineOf_50 : decode b_X_cosineOf 50 = .ok (.lshr, 1) := by decide +kernel
theorem d_X_cosineOf_51 : decode b_X_cosineOf 51 = .ok (.lsub, 1) := by decide +kernel
theorem d_X_cosineOf_52 : decode b_X_cosineOf 52 = .ok (.lstore 7, 2) := by decide +kernel
theorem d_X_cosineOf_54 : decode b_X_cosineOf 54 = .ok (.ldc2_w 183, 3) := by decide +kernel
theorem d_X_cosineOf_57 : decode b_X_cosineOf 57 = .ok (.lload 7, 2) := by decide +kernel
theorem d_X_cosineOf_59 : decode b_X_cosineOf 59 = .ok (.lload 5, 2) := by decide +kernel
theorem d_X_cosineOf_61 : decode b_X_cosineOf 61 = .ok (.lmul, 1) := by decide +kernel
theorem d_X_cosineOf_62 : decode b_X_cosineOf 62 = .ok (.bipush 30, 2) := by decide +kernel
theorem d_X_cosineOf_64 : decode b_X_cosineOf 64 = .ok (.lshr, 1) := by decide +kernel
theorem d_X_cosineOf_65 : decode b_X_cosineOf 65 = .ok (.lsub, 1) := by decide +kernel
theorem d_X_cosineOf_66 : decode b_X_cosineOf 66 = .ok (.lstore 9, 2) := by decide +kernel
theorem d_X_cosineOf_68 : decode b_X_cosineOf 68 = .ok (.ldc2_w 185, 3) := by decide +kernel
theorem d_X_cosineOf_71 : decode b_X_cosineOf 71 = .ok (.lload 9, 2) := by decide +kernel
theorem d_X_cosineOf_73 : decode b_X_cosineOf 73 = .ok (.lload 5, 2) := by decide +kernel
theorem d_X_cosineOf_75 : decode b_X_cosineOf 75 = .ok (.lmul, 1) := by decide +kernel
theorem d_X_cosineOf_76 : decode b_X_cosineOf 76 = .ok (.bipush 30, 2) := by decide +kernel
theorem d_X_cosineOf_78 : decode b_X_cosineOf 78 = .ok (.lshr, 1) := by decide +kernel
theorem d_X_cosineOf_79 : decode b_X_cosineOf 79 = .ok (.lsub, 1) := by decide +kernel
theorem d_X_cosineOf_80 : decode b_X_cosineOf 80 = .ok (.lstore 11, 2) := by decide +kernel
theorem d_X_cosineOf_82 : decode b_X_cosineOf 82 = .ok (.ldc2_w 177, 3) := by decide +kernel
theorem d_X_cosineOf_85 : decode b_X_cosineOf 85 = .ok (.lload 11, 2) := by decide +kernel
theorem d_X_cosineOf_87 : decode b_X_cosineOf 87 = .ok (.lload 5, 2) := by decide +kernel
theorem d_X_cosineOf_89 : decode b_X_cosineOf 89 = .ok (.lmul, 1) := by decide +kernel
theorem d_X_cosineOf_90 : decode b_X_cosineOf 90 = .ok (.bipush 30, 2) := by decide +kernel
theorem d_X_cosineOf_92 : decode b_X_cosineOf 92 = .ok (.lshr, 1) := by decide +kernel
theorem d_X_cosineOf_93 : decode b_X_cosineOf 93 = .ok (.lsub, 1) := by decide +kernel
theorem d_X_cosineOf_94 : decode b_X_cosineOf 94 = .ok (.lstore 13, 2) := by decide +kernel
theorem d_X_cosineOf_96 : decode b_X_cosineOf 96 = .ok (.iload_n 2, 1) := by decide +kernel
theorem d_X_cosineOf_97 : decode b_X_cosineOf 97 = .ok (.iconst 1, 1) := by decide +kernel
theorem d_X_cosineOf_98 : decode b_X_cosineOf 98 = .ok (.if_icmp .eq 8, 3) := by decide +kernel
theorem d_X_cosineOf_101 : decode b_X_cosineOf 101 = .ok (.iload_n 2, 1) := by decide +kernel
theorem d_X_cosineOf_102 : decode b_X_cosineOf 102 = .ok (.iconst 2, 1) := by decide +kernel
theorem d_X_cosineOf_103 : decode b_X_cosineOf 103 = .ok (.if_icmp .ne 9, 3) := by decide +kernel
theorem d_X_cosineOf_106 : decode b_X_cosineOf 106 = .ok (.lload 13, 2) := by decide +kernel
theorem d_X_cosineOf_108 : decode b_X_cosineOf 108 = .ok (.lneg, 1) := by decide +kernel
theorem d_X_cosineOf_109 : decode b_X_cosineOf 109 = .ok (.goto 5, 3) := by decide +kernel
theorem d_X_cosineOf_112 : decode b_X_cosineOf 112 = .ok (.lload 13, 2) := by decide +kernel
theorem d_X_cosineOf_114 : decode b_X_cosineOf 114 = .ok (.l2i, 1) := by decide +kernel
theorem d_X_cosineOf_115 : decode b_X_cosineOf 115 = .ok (.ireturn, 1) := by decide +kernel
theorem d_X_heightAt_0 : decode b_X_heightAt 0 = .ok (.aload_n 0, 1) := by decide +kernel
theorem d_X_heightAt_1 : decode b_X_heightAt 1 = .ok (.iload_n 1, 1) := by decide +kernel
theorem d_X_heightAt_2 : decode b_X_heightAt 2 = .ok (.invokevirtual 103, 3) := by decide +kernel
theorem d_X_heightAt_5 : decode b_X_heightAt 5 = .ok (.istore_n 2, 1) := by decide +kernel
theorem d_X_heightAt_6 : decode b_X_heightAt 6 = .ok (.ldc2_w 187, 3) := by decide +kernel
theorem d_X_heightAt_9 : decode b_X_heightAt 9 = .ok (.lstore_n 3, 1) := by decide +kernel
theorem d_X_heightAt_10 : decode b_X_heightAt 10 = .ok (.iconst 0, 1) := by decide +kernel
theorem d_X_heightAt_11 : decode b_X_heightAt 11 = .ok (.istore 5, 2) := by decide +kernel
theorem d_X_heightAt_13 : decode b_X_heightAt 13 = .ok (.iload 5, 2) := by decide +kernel
theorem d_X_heightAt_15 : decode b_X_heightAt 15 = .ok (.bipush 8, 2) := by decide +kernel
theorem d_X_heightAt_17 : decode b_X_heightAt 17 = .ok (.if_icmp .ge 30, 3) := by decide +kernel
theorem d_X_heightAt_20 : decode b_X_heightAt 20 = .ok (.aload_n 0, 1) := by decide +kernel
theorem d_X_heightAt_21 : decode b_X_heightAt 21 = .ok (.getfield 9, 3) := by decide +kernel
theorem d_X_heightAt_24 : decode b_X_heightAt 24 = .ok (.iload 5, 2) := by decide +kernel
theorem d_X_heightAt_26 : decode b_X_heightAt 26 = .ok (.iaload, 1) := by decide +kernel
theorem d_X_heightAt_27 : decode b_X_heightAt 27 = .ok (.ifCond .eq 14, 3) := by decide +kernel
theorem d_X_heightAt_30 : decode b_X_heightAt 30 = .ok (.lload_n 3, 1) := by decide +kernel
theorem d_X_heightAt_31 : decode b_X_heightAt 31 = .ok (.aload_n 0, 1) := by decide +kernel
theorem d_X_heightAt_32 : decode b_X_heightAt 32 = .ok (.iload 5, 2) := by decide +kernel
theorem d_X_heightAt_34 : decode b_X_heightAt 34 = .ok (.iload_n 1, 1) := by decide +kernel
theorem d_X_heightAt_35 : decode b_X_heightAt 35 = .ok (.iload_n 2, 1) := by decide +kernel
theorem d_X_heightAt_36 : decode b_X_heightAt 36 = .ok (.invokevirtual 189, 3) := by decide +kernel
theorem d_X_heightAt_39 : decode b_X_heightAt 39 = .ok (.ladd, 1) := by decide +kernel
theorem d_X_heightAt_40 : decode b_X_heightAt 40 = .ok (.lstore_n 3, 1) := by decide +kernel
theorem d_X_heightAt_41 : decode b_X_heightAt 41 = .ok (.iinc 5 1, 3) := by decide +kernel
theorem d_X_heightAt_44 : decode b_X_heightAt 44 = .ok (.goto (-31), 3) := by decide +kernel
theorem d_X_heightAt_47 : decode b_X_heightAt 47 = .ok (.lload_n 3, 1) := by decide +kernel
theorem d_X_heightAt_48 : decode b_X_heightAt 48 = .ok (.bipush 30, 2) := by decide +kernel
theorem d_X_heightAt_50 : decode b_X_heightAt 50 = .ok (.lshr, 1) := by decide +kernel
theorem d_X_heightAt_51 : decode b_X_heightAt 51 = .ok (.l2i, 1) := by decide +kernel
theorem d_X_heightAt_52 : decode b_X_heightAt 52 = .ok (.aload_n 0, 1) := by decide +kernel
theorem d_X_heightAt_53 : decode b_X_heightAt 53 = .ok (.getfield 56, 3) := by decide +kernel
theorem d_X_heightAt_56 : decode b_X_heightAt 56 = .ok (.iadd, 1) := by decide +kernel
theorem d_X_heightAt_57 : decode b_X_heightAt 57 = .ok (.ireturn, 1) := by decide +kernel
theorem d_X_partAt_0 : decode b_X_partAt 0 = .ok (.aload_n 0, 1) := by decide +kernel
theorem d_X_partAt_1 : decode b_X_partAt 1 = .ok (.getfield 9, 3) := by decide +kernel
theorem d_X_partAt_4 : decode b_X_partAt 4 = .ok (.iload_n 1, 1) := by decide +kernel
theorem d_X_partAt_5 : decode b_X_partAt 5 = .ok (.iaload, 1) := by decide +kernel
theorem d_X_partAt_6 : decode b_X_partAt 6 = .ok (.i2l, 1) := by decide +kernel
theorem d_X_partAt_7 : decode b_X_partAt 7 = .ok (.aload_n 0, 1) := by decide +kernel
theorem d_X_partAt_8 : decode b_X_partAt 8 = .ok (.getfield 22, 3) := by decide +kernel
theorem d_X_partAt_11 : decode b_X_partAt 11 = .ok (.iload_n 1, 1) := by decide +kernel
theorem d_X_partAt_12 : decode b_X_partAt 12 = .ok (.aaload, 1) := by decide +kernel
theorem d_X_partAt_13 : decode b_X_partAt 13 = .ok (.iload_n 3, 1) := by decide +kernel
theorem d_X_partAt_14 : decode b_X_partAt 14 = .ok (.iaload, 1) := by decide +kernel
theorem d_X_partAt_15 : decode b_X_partAt 15 = .ok (.i2l, 1) := by decide +kernel
theorem d_X_partAt_16 : decode b_X_partAt 16 = .ok (.lmul, 1) := by decide +kernel
theorem d_X_partAt_17 : decode b_X_partAt 17 = .ok (.lstore 4, 2) := by decide +kernel
theorem d_X_partAt_19 : decode b_X_partAt 19 = .ok (.lload 4, 2) := by decide +kernel
theorem d_X_partAt_21 : decode b_X_partAt 21 = .ok (.aload_n 0, 1) := by decide +kernel
theorem d_X_partAt_22 : decode b_X_partAt 22 = .ok (.iload_n 1, 1) := by decide +kernel
theorem d_X_partAt_23 : decode b_X_partAt 23 = .ok (.iload_n 2, 1) := by decide +kernel
theorem d_X_partAt_24 : decode b_X_partAt 24 = .ok (.iload_n 3, 1) := by decide +kernel
theorem d_X_partAt_25 : decode b_X_partAt 25 = .ok (.invokevirtual 109, 3) := by decide +kernel
theorem d_X_partAt_28 : decode b_X_partAt 28 = .ok (.invokestatic 115, 3) := by decide +kernel
theorem d_X_partAt_31 : decode b_X_partAt 31 = .ok (.i2l, 1) := by decide +kernel
theorem d_X_partAt_32 : decode b_X_partAt 32 = .ok (.lmul, 1) := by decide +kernel
theorem d_X_partAt_33 : decode b_X_partAt 33 = .ok (.bipush 16, 2) := by decide +kernel
theorem d_X_partAt_35 : decode b_X_partAt 35 = .ok (.lshr, 1) := by decide +kernel
theorem d_X_partAt_36 : decode b_X_partAt 36 = .ok (.lreturn, 1) := by decide +kernel
theorem d_X_forgetTurns_0 : decode b_X_forgetTurns 0 = .ok (.aload_n 0, 1) := by decide +kernel
theorem d_X_forgetTurns_1 : decode b_X_forgetTurns 1 = .ok (.iconst (-1), 1) := by decide +kernel
theorem d_X_forgetTurns_2 : decode b_X_forgetTurns 2 = .ok (.putfield 36, 3) := by decide +kernel
theorem d_X_forgetTurns_5 : decode b_X_forgetTurns 5 = .ok (.return_, 1) := by decide +kernel
theorem d_X_countTurns_0 : decode b_X_countTurns 0 = .ok (.aload_n 0, 1) := by decide +kernel
theorem d_X_countTurns_1 : decode b_X_countTurns 1 = .ok (.getfield 36, 3) := by decide +kernel
theorem d_X_countTurns_4 : decode b_X_countTurns 4 = .ok (.iload_n 1, 1) := by decide +kernel
theorem d_X_countTurns_5 : decode b_X_countTurns 5 = .ok (.if_icmp .eq 17, 3) := by decide +kernel
theorem d_X_countTurns_8 : decode b_X_countTurns 8 = .ok (.aload_n 0, 1) := by decide +kernel
theorem d_X_countTurns_9 : decode b_X_countTurns 9 = .ok (.iload_n 1, 1) := by decide +kernel
theorem d_X_countTurns_10 : decode b_X_countTurns 10 = .ok (.sipush 1440, 3) := by decide +kernel
theorem d_X_countTurns_13 : decode b_X_countTurns 13 = .ok (.imul, 1) := by decide +kernel
theorem d_X_countTurns_14 : decode b_X_countTurns 14 = .ok (.invokevirtual 192, 3) := by decide +kernel
theorem d_X_countTurns_17 : decode b_X_countTurns 17 = .ok (.aload_n 0, 1) := by decide +kernel
theorem d_X_countTurns_18 : decode b_X_countTurns 18 = .ok (.iload_n 1, 1) := by decide +kernel
theorem d_X_countTurns_19 : decode b_X_countTurns 19 = .ok (.putfield 36, 3) := by decide +kernel
theorem d_X_countTurns_22 : decode b_X_countTurns 22 = .ok (.aload_n 0, 1) := by decide +kernel
theorem d_X_countTurns_23 : decode b_X_countTurns 23 = .ok (.getfield 196, 3) := by decide +kernel
theorem d_X_countTurns_26 : decode b_X_countTurns 26 = .ok (.ireturn, 1) := by decide +kernel
theorem d_X_findTurns_0 : decode b_X_findTurns 0 = .ok (.aload_n 0, 1) := by decide +kernel
theorem d_X_findTurns_1 : decode b_X_findTurns 1 = .ok (.iconst 0, 1) := by decide +kernel
theorem d_X_findTurns_2 : decode b_X_findTurns 2 = .ok (.putfield 196, 3) := by decide +kernel
theorem d_X_findTurns_5 : decode b_X_findTurns 5 = .ok (.iload_n 1, 1) := by decide +kernel
theorem d_X_findTurns_6 : decode b_X_findTurns 6 = .ok (.istore_n 2, 1) := by decide +kernel
theorem d_X_findTurns_7 : decode b_X_findTurns 7 = .ok (.aload_n 0, 1) := by decide +kernel
theorem d_X_findTurns_8 : decode b_X_findTurns 8 = .ok (.iload_n 1, 1) := by decide +kernel
theorem d_X_findTurns_9 : decode b_X_findTurns 9 = .ok (.invokevirtual 119, 3) := by decide +kernel
theorem d_X_findTurns_12 : decode b_X_findTurns 12 = .ok (.istore_n 3, 1) := by decide +kernel
theorem d_X_findTurns_13 : decode b_X_findTurns 13 = .ok (.iconst 0, 1) := by decide +kernel
theorem d_X_findTurns_14 : decode b_X_findTurns 14 = .ok (.istore 4, 2) := by decide +kernel
theorem d_X_findTurns_16 : decode b_X_findTurns 16 = .ok (.iload_n 1, 1) := by decide +kernel
theorem d_X_findTurns_17 : decode b_X_findTurns 17 = .ok (.iconst 1, 1) := by decide +kernel
theorem d_X_findTurns_18 : decode b_X_findTurns 18 = .ok (.iadd, 1) := by decide +kernel
theorem d_X_findTurns_19 : decode b_X_findTurns 19 = .ok (.istore 5, 2) := by decide +kernel
theorem d_X_findTurns_21 : decode b_X_findTurns 21 = .ok (.iload 5, 2) := by decide +kernel
theorem d_X_findTurns_23 : decode b_X_findTurns 23 = .ok (.iload_n 1, 1) := by decide +kernel
theorem d_X_findTurns_24 : decode b_X_findTurns 24 = .ok (.sipush 1440, 3) := by decide +kernel
theorem d_X_findTurns_27 : decode b_X_findTurns 27 = .ok (.iadd, 1) := by decide +kernel
theorem d_X_findTurns_28 : decode b_X_findTurns 28 = .ok (.if_icmp .ge 86, 3) := by decide +kernel
theorem d_X_findTurns_31 : decode b_X_findTurns 31 = .ok (.aload_n 0, 1) := by decide +kernel
theorem d_X_findTurns_32 : decode b_X_findTurns 32 = .ok (.iload 5, 2) := by decide +kernel
theorem d_X_findTurns_34 : decode b_X_findTurns 34 = .ok (.invokevirtual 119, 3) := by decide +kernel
theorem d_X_findTurns_37 : decode b_X_findTurns 37 = .ok (.istore 6, 2) := by decide +kernel
theorem d_X_findTurns_39 : decode b_X_findTurns 39 = .ok (.iload 6, 2) := by decide +kernel
theorem d_X_findTurns_41 : decode b_X_findTurns 41 = .ok (.iload_n 3, 1) := by decide +kernel
theorem d_X_findTurns_42 : decode b_X_findTurns 42 = .ok (.if_icmp .eq 66, 3) := by decide +kernel
theorem d_X_findTurns_45 : decode b_X_findTurns 45 = .ok (.iload 6, 2) := by decide +kernel
theorem d_X_findTurns_47 : decode b_X_findTurns 47 = .ok (.iload_n 3, 1) := by decide +kernel
theorem d_X_findTurns_48 : decode b_X_findTurns 48 = .ok (.if_icmp .le 7, 3) := by decide +kernel
theorem d_X_findTurns_51 : decode b_X_findTurns 51 = .ok (.iconst 1, 1) := by decide +kernel
theorem d_X_findTurns_52 : decode b_X_findTurns 52 = .ok (.goto 4, 3) := by decide +kernel
theorem d_X_findTurns_55 : decode b_X_findTurns 55 = .ok (.iconst (-1), 1) := by decide +kernel
theorem d_X_findTurns_56 : decode b_X_findTurns 56 = .ok (.istore 7, 2) := by decide +kernel
theorem d_X_findTurns_58 : decode b_X_findTurns 58 = .ok (.iload 4, 2) := by decide +kernel
theorem d_X_findTurns_60 : decode b_X_findTurns 60 = .ok (.iload 7, 2) := by decide +kernel
theorem d_X_findTurns_62 : decode b_X_findTurns 62 = .ok (.ineg, 1) := by decide +kernel
theorem d_X_findTurns_63 : decode b_X_findTurns 63 = .ok (.if_icmp .ne 35, 3) := by decide +kernel
theorem d_X_findTurns_66 : decode b_X_findTurns 66 = .ok (.aload_n 0, 1) := by decide +kernel
theorem d_X_findTurns_67 : decode b_X_findTurns 67 = .ok (.getfield 196, 3) := by decide +kernel
theorem d_X_findTurns_70 : decode b_X_findTurns 70 = .ok (.aload_n 0, 1) := by decide +kernel
theorem d_X_findTurns_71 : decode b_X_findTurns 71 = .ok (.getfield 33, 3) := by decide +kernel
theorem d_X_findTurns_74 : decode b_X_findTurns 74 = .ok (.arraylength, 1) := by decide +kernel
theorem d_X_findTurns_75 : decode b_X_findTurns 75 = .ok (.if_icmp .ge 23, 3) := by decide +kernel
theorem d_X_findTurns_78 : decode b_X_findTurns 78 = .ok (.aload_n 0, 1) := by decide +kernel
theorem d_X_findTurns_79 : decode b_X_findTurns 79 = .ok (.getfield 33, 3) := by decide +kernel
theorem d_X_findTurns_82 : decode b_X_findTurns 82 = .ok (.aload_n 0, 1) := by decide +kernel
theorem d_X_findTurns_83 : decode b_X_findTurns 83 = .ok (.getfield 196, 3) := by decide +kernel
theorem d_X_findTurns_86 : decode b_X_findTurns 86 = .ok (.iload_n 2, 1) := by decide +kernel
theorem d_X_findTurns_87 : decode b_X_findTurns 87 = .ok (.iastore, 1) := by decide +kernel
theorem d_X_findTurns_88 : decode b_X_findTurns 88 = .ok (.aload_n 0, 1) := by decide +kernel
theorem d_X_findTurns_89 : decode b_X_findTurns 89 = .ok (.dup, 1) := by decide +kernel
theorem d_X_findTurns_90 : decode b_X_findTurns 90 = .ok (.getfield 196, 3) := by decide +kernel
theorem d_X_findTurns_93 : decode b_X_findTurns 93 = .ok (.iconst 1, 1) := by decide +kernel
theorem d_X_findTurns_94 : decode b_X_findTurns 94 = .ok (.iadd, 1) := by decide +kernel
theorem d_X_findTurns_95 : decode b_X_findTurns 95 = .ok (.putfield 196, 3) := by decide +kernel
theorem d_X_findTurns_98 : decode b_X_findTurns 98 = .ok (.iload 7, 2) := by decide +kernel
theorem d_X_findTurns_100 : decode b_X_findTurns 100 = .ok (.istore 4, 2) := by decide +kernel
theorem d_X_findTurns_102 : decode b_X_findTurns 102 = .ok (.iload 5, 2) := by decide +kernel
theorem d_X_findTurns_104 : decode b_X_findTurns 104 = .ok (.istore_n 2, 1) := by decide +kernel
theorem d_X_findTurns_105 : decode b_X_findTurns 105 = .ok (.iload 6, 2) := by decide +kernel
theorem d_X_findTurns_107 : decode b_X_findTurns 107 = .ok (.istore_n 3, 1) := by decide +kernel
theorem d_X_findTurns_108 : decode b_X_findTurns 108 = .ok (.iinc 5 1, 3) := by decide +kernel
theorem d_X_findTurns_111 : decode b_X_findTurns 111 = .ok (.goto (-90), 3) := by decide +kernel
theorem d_X_findTurns_114 : decode b_X_findTurns 114 = .ok (.return_, 1) := by decide +kernel
theorem d_X_isHigh_0 : decode b_X_isHigh 0 = .ok (.aload_n 0, 1) := by decide +kernel
theorem d_X_isHigh_1 : decode b_X_isHigh 1 = .ok (.iload_n 1, 1) := by decide +kernel
theorem d_X_isHigh_2 : decode b_X_isHigh 2 = .ok (.iconst 1, 1) := by decide +kernel
theorem d_X_isHigh_3 : decode b_X_isHigh 3 = .ok (.isub, 1) := by decide +kernel
theorem d_X_isHigh_4 : decode b_X_isHigh 4 = .ok (.invokevirtual 119, 3) := by decide +kernel
theorem d_X_isHigh_7 : decode b_X_isHigh 7 = .ok (.aload_n 0, 1) := by decide +kernel
theorem d_X_isHigh_8 : decode b_X_isHigh 8 = .ok (.iload_n 1, 1) := by decide +kernel
theorem d_X_isHigh_9 : decode b_X_isHigh 9 = .ok (.invokevirtual 119, 3) := by decide +kernel
theorem d_X_isHigh_12 : decode b_X_isHigh 12 = .ok (.if_icmp .ge 7, 3) := by decide +kernel
theorem d_X_isHigh_15 : decode b_X_isHigh 15 = .ok (.iconst 1, 1) := by decide +kernel
theorem d_X_isHigh_16 : decode b_X_isHigh 16 = .ok (.goto 4, 3) := by decide +kernel
theorem d_X_isHigh_19 : decode b_X_isHigh 19 = .ok (.iconst 0, 1) := by decide +kernel
theorem d_X_isHigh_20 : decode b_X_isHigh 20 = .ok (.ireturn, 1) := by decide +kernel
theorem d_X_lineOf_0 : decode b_X_lineOf 0 = .ok (.aload_n 0, 1) := by decide +kernel
theorem d_X_lineOf_1 : decode b_X_lineOf 1 = .ok (.iload_n 1, 1) := by decide +kernel
theorem d_X_lineOf_2 : decode b_X_lineOf 2 = .ok (.invokevirtual 103, 3) := by decide +kernel
theorem d_X_lineOf_5 : decode b_X_lineOf 5 = .ok (.istore_n 2, 1) := by decide +kernel
theorem d_X_lineOf_6 : decode b_X_lineOf 6 = .ok (.iload_n 1, 1) := by decide +kernel
theorem d_X_lineOf_7 : decode b_X_lineOf 7 = .ok (.aload_n 0, 1) := by decide +kernel
theorem d_X_lineOf_8 : decode b_X_lineOf 8 = .ok (.getfield 30, 3) := by decide +kernel
theorem d_X_lineOf_11 : decode b_X_lineOf 11 = .ok (.iload_n 2, 1) := by decide +kernel
theorem d_X_lineOf_12 : decode b_X_lineOf 12 = .ok (.iaload, 1) := by decide +kernel
theorem d_X_lineOf_13 : decode b_X_lineOf 13 = .ok (.isub, 1) := by decide +kernel
theorem d_X_lineOf_14 : decode b_X_lineOf 14 = .ok (.istore_n 3, 1) := by decide +kernel
theorem d_X_lineOf_15 : decode b_X_lineOf 15 = .ok (.iload_n 3, 1) := by decide +kernel
theorem d_X_lineOf_16 : decode b_X_lineOf 16 = .ok (.sipush 1440, 3) := by decide +kernel
theorem d_X_lineOf_19 : decode b_X_lineOf 19 = .ok (.irem, 1) := by decide +kernel
theorem d_X_lineOf_20 : decode b_X_lineOf 20 = .ok (.istore 4, 2) := by decide +kernel
theorem d_X_lineOf_22 : decode b_X_lineOf 22 = .ok (.new 154, 3) := by decide +kernel
theorem d_X_lineOf_25 : decode b_X_lineOf 25 = .ok (.dup, 1) := by decide +kernel
theorem d_X_lineOf_26 : decode b_X_lineOf 26 = .ok (.invokespecial 199, 3) := by decide +kernel
theorem d_X_lineOf_29 : decode b_X_lineOf 29 = .ok (.astore 5, 2) := by decide +kernel
theorem d_X_lineOf_31 : decode b_X_lineOf 31 = .ok (.aload 5, 2) := by decide +kernel
theorem d_X_lineOf_33 : decode b_X_lineOf 33 = .ok (.iload_n 2, 1) := by decide +kernel
theorem d_X_lineOf_34 : decode b_X_lineOf 34 = .ok (.iconst 1, 1) := by decide +kernel
theorem d_X_lineOf_35 : decode b_X_lineOf 35 = .ok (.invokestatic 200, 3) := by decide +kernel
theorem d_X_lineOf_38 : decode b_X_lineOf 38 = .ok (.aload 5, 2) := by decide +kernel
theorem d_X_lineOf_40 : decode b_X_lineOf 40 = .ok (.bipush 32, 2) := by decide +kernel
theorem d_X_lineOf_42 : decode b_X_lineOf 42 = .ok (.invokevirtual 204, 3) := by decide +kernel
theorem d_X_lineOf_45 : decode b_X_lineOf 45 = .ok (.pop, 1) := by decide +kernel
theorem d_X_lineOf_46 : decode b_X_lineOf 46 = .ok (.aload 5, 2) := by decide +kernel
theorem d_X_lineOf_48 : decode b_X_lineOf 48 = .ok (.iload_n 3, 1) := by decide +kernel
theorem d_X_lineOf_49 : decode b_X_lineOf 49 = .ok (.sipush 1440, 3) := by decide +kernel
theorem d_X_lineOf_52 : decode b_X_lineOf 52 = .ok (.idiv, 1) := by decide +kernel
theorem d_X_lineOf_53 : decode b_X_lineOf 53 = .ok (.bipush 100, 2) := by decide +kernel
theorem d_X_lineOf_55 : decode b_X_lineOf 55 = .ok (.invokestatic 200, 3) := by decide +kernel
theorem d_X_lineOf_58 : decode b_X_lineOf 58 = .ok (.aload 5, 2) := by decide +kernel
theorem d_X_lineOf_60 : decode b_X_lineOf 60 = .ok (.bipush 32, 2) := by decide +kernel
theorem d_X_lineOf_62 : decode b_X_lineOf 62 = .ok (.invokevirtual 204, 3) := by decide +kernel
theorem d_X_lineOf_65 : decode b_X_lineOf 65 = .ok (.pop, 1) := by decide +kernel
theorem d_X_lineOf_66 : decode b_X_lineOf 66 = .ok (.aload 5, 2) := by decide +kernel
theorem d_X_lineOf_68 : decode b_X_lineOf 68 = .ok (.iload 4, 2) := by decide +kernel
theorem d_X_lineOf_70 : decode b_X_lineOf 70 = .ok (.bipush 60, 2) := by decide +kernel
theorem d_X_lineOf_72 : decode b_X_lineOf 72 = .ok (.idiv, 1) := by decide +kernel
theorem d_X_lineOf_73 : decode b_X_lineOf 73 = .ok (.bipush 10, 2) := by decide +kernel
theorem d_X_lineOf_75 : decode b_X_lineOf 75 = .ok (.invokestatic 200, 3) := by decide +kernel
theorem d_X_lineOf_78 : decode b_X_lineOf 78 = .ok (.aload 5, 2) := by decide +kernel
theorem d_X_lineOf_80 : decode b_X_lineOf 80 = .ok (.bipush 58, 2) := by decide +kernel
theorem d_X_lineOf_82 : decode b_X_lineOf 82 = .ok (.invokevirtual 204, 3) := by decide +kernel
theorem d_X_lineOf_85 : decode b_X_lineOf 85 = .ok (.pop, 1) := by decide +kernel
theorem d_X_lineOf_86 : decode b_X_lineOf 86 = .ok (.aload 5, 2) := by decide +kernel
theorem d_X_lineOf_88 : decode b_X_lineOf 88 = .ok (.iload 4, 2) := by decide +kernel
theorem d_X_lineOf_90 : decode b_X_lineOf 90 = .ok (.bipush 60, 2) := by decide +kernel
theorem d_X_lineOf_92 : decode b_X_lineOf 92 = .ok (.irem, 1) := by decide +kernel
theorem d_X_lineOf_93 : decode b_X_lineOf 93 = .ok (.bipush 10, 2) := by decide +kernel
theorem d_X_lineOf_95 : decode b_X_lineOf 95 = .ok (.invokestatic 200, 3) := by decide +kernel
theorem d_X_lineOf_98 : decode b_X_lineOf 98 = .ok (.aload 5, 2) := by decide +kernel
theorem d_X_lineOf_100 : decode b_X_lineOf 100 = .ok (.aload_n 0, 1) := by decide +kernel
theorem d_X_lineOf_101 : decode b_X_lineOf 101 = .ok (.iload_n 1, 1) := by decide +kernel
theorem d_X_lineOf_102 : decode b_X_lineOf 102 = .ok (.invokevirtual 144, 3) := by decide +kernel
theorem d_X_lineOf_105 : decode b_X_lineOf 105 = .ok (.ifCond .eq 8, 3) := by decide +kernel
theorem d_X_lineOf_108 : decode b_X_lineOf 108 = .ok (.ldc 208, 2) := by decide +kernel
theorem d_X_lineOf_110 : decode b_X_lineOf 110 = .ok (.goto 5, 3) := by decide +kernel
theorem d_X_lineOf_113 : decode b_X_lineOf 113 = .ok (.ldc 210, 2) := by decide +kernel
theorem d_X_lineOf_115 : decode b_X_lineOf 115 = .ok (.invokevirtual 212, 3) := by decide +kernel
theorem d_X_lineOf_118 : decode b_X_lineOf 118 = .ok (.pop, 1) := by decide +kernel
theorem d_X_lineOf_119 : decode b_X_lineOf 119 = .ok (.aload 5, 2) := by decide +kernel
theorem d_X_lineOf_121 : decode b_X_lineOf 121 = .ok (.aload_n 0, 1) := by decide +kernel
theorem d_X_lineOf_122 : decode b_X_lineOf 122 = .ok (.iload_n 1, 1) := by decide +kernel
theorem d_X_lineOf_123 : decode b_X_lineOf 123 = .ok (.invokevirtual 119, 3) := by decide +kernel
theorem d_X_lineOf_126 : decode b_X_lineOf 126 = .ok (.invokestatic 215, 3) := by decide +kernel
theorem d_X_lineOf_129 : decode b_X_lineOf 129 = .ok (.aload 5, 2) := by decide +kernel
theorem d_X_lineOf_131 : decode b_X_lineOf 131 = .ok (.areturn, 1) := by decide +kernel
theorem d_X_appendHeight_0 : decode b_X_appendHeight 0 = .ok (.iload_n 1, 1) := by decide +kernel
theorem d_X_appendHeight_1 : decode b_X_appendHeight 1 = .ok (.ifCond .ge 10, 3) := by decide +kernel
theorem d_X_appendHeight_4 : decode b_X_appendHeight 4 = .ok (.aload_n 0, 1) := by decide +kernel
theorem d_X_appendHeight_5 : decode b_X_appendHeight 5 = .ok (.bipush 45, 2) := by decide +kernel
theorem d_X_appendHeight_7 : decode b_X_appendHeight 7 = .ok (.invokevirtual 204, 3) := by decide +kernel
theorem d_X_appendHeight_10 : decode b_X_appendHeight 10 = .ok (.pop, 1) := by decide +kernel
theorem d_X_appendHeight_11 : decode b_X_appendHeight 11 = .ok (.iload_n 1, 1) := by decide +kernel
theorem d_X_appendHeight_12 : decode b_X_appendHeight 12 = .ok (.invokestatic 219, 3) := by decide +kernel
theorem d_X_appendHeight_15 : decode b_X_appendHeight 15 = .ok (.istore_n 2, 1) := by decide +kernel
theorem d_X_appendHeight_16 : decode b_X_appendHeight 16 = .ok (.aload_n 0, 1) := by decide +kernel
theorem d_X_appendHeight_17 : decode b_X_appendHeight 17 = .ok (.iload_n 2, 1) := by decide +kernel
theorem d_X_appendHeight_18 : decode b_X_appendHeight 18 = .ok (.sipush 10000, 3) := by decide +kernel
theorem d_X_appendHeight_21 : decode b_X_appendHeight 21 = .ok (.idiv, 1) := by decide +kernel
theorem d_X_appendHeight_22 : decode b_X_appendHeight 22 = .ok (.invokevirtual 222, 3) := by decide +kernel
theorem d_X_appendHeight_25 : decode b_X_appendHeight 25 = .ok (.pop, 1) := by decide +kernel
theorem d_X_appendHeight_26 : decode b_X_appendHeight 26 = .ok (.aload_n 0, 1) := by decide +kernel
theorem d_X_appendHeight_27 : decode b_X_appendHeight 27 = .ok (.bipush 46, 2) := by decide +kernel
theorem d_X_appendHeight_29 : decode b_X_appendHeight 29 = .ok (.invokevirtual 204, 3) := by decide +kernel
theorem d_X_appendHeight_32 : decode b_X_appendHeight 32 = .ok (.pop, 1) := by decide +kernel
theorem d_X_appendHeight_33 : decode b_X_appendHeight 33 = .ok (.aload_n 0, 1) := by decide +kernel
theorem d_X_appendHeight_34 : decode b_X_appendHeight 34 = .ok (.iload_n 2, 1) := by decide +kernel
theorem d_X_appendHeight_35 : decode b_X_appendHeight 35 = .ok (.sipush 10000, 3) := by decide +kernel
theorem d_X_appendHeight_38 : decode b_X_appendHeight 38 = .ok (.irem, 1) := by decide +kernel
theorem d_X_appendHeight_39 : decode b_X_appendHeight 39 = .ok (.sipush 1000, 3) := by decide +kernel
theorem d_X_appendHeight_42 : decode b_X_appendHeight 42 = .ok (.invokestatic 200, 3) := by decide +kernel
theorem d_X_appendHeight_45 : decode b_X_appendHeight 45 = .ok (.return_, 1) := by decide +kernel
theorem d_X_appendDigits_0 : decode b_X_appendDigits 0 = .ok (.iload_n 2, 1) := by decide +kernel
theorem d_X_appendDigits_1 : decode b_X_appendDigits 1 = .ok (.istore_n 3, 1) := by decide +kernel
theorem d_X_appendDigits_2 : decode b_X_appendDigits 2 = .ok (.iload_n 3, 1) := by decide +kernel
theorem d_X_appendDigits_3 : decode b_X_appendDigits 3 = .ok (.ifCond .le 26, 3) := by decide +kernel
theorem d_X_appendDigits_6 : decode b_X_appendDigits 6 = .ok (.aload_n 0, 1) := by decide +kernel
theorem d_X_appendDigits_7 : decode b_X_appendDigits 7 = .ok (.bipush 48, 2) := by decide +kernel
theorem d_X_appendDigits_9 : decode b_X_appendDigits 9 = .ok (.iload_n 1, 1) := by decide +kernel
theorem d_X_appendDigits_10 : decode b_X_appendDigits 10 = .ok (.iload_n 3, 1) := by decide +kernel
theorem d_X_appendDigits_11 : decode b_X_appendDigits 11 = .ok (.idiv, 1) := by decide +kernel
theorem d_X_appendDigits_12 : decode b_X_appendDigits 12 = .ok (.bipush 10, 2) := by decide +kernel
theorem d_X_appendDigits_14 : decode b_X_appendDigits 14 = .ok (.irem, 1) := by decide +kernel
theorem d_X_appendDigits_15 : decode b_X_appendDigits 15 = .ok (.iadd, 1) := by decide +kernel
theorem d_X_appendDigits_16 : decode b_X_appendDigits 16 = .ok (.i2c, 1) := by decide +kernel
theorem d_X_appendDigits_17 : decode b_X_appendDigits 17 = .ok (.invokevirtual 204, 3) := by decide +kernel
theorem d_X_appendDigits_20 : decode b_X_appendDigits 20 = .ok (.pop, 1) := by decide +kernel
theorem d_X_appendDigits_21 : decode b_X_appendDigits 21 = .ok (.iload_n 3, 1) := by decide +kernel
theorem d_X_appendDigits_22 : decode b_X_appendDigits 22 = .ok (.bipush 10, 2) := by decide +kernel
theorem d_X_appendDigits_24 : decode b_X_appendDigits 24 = .ok (.idiv, 1) := by decide +kernel
theorem d_X_appendDigits_25 : decode b_X_appendDigits 25 = .ok (.istore_n 3, 1) := by decide +kernel
theorem d_X_appendDigits_26 : decode b_X_appendDigits 26 = .ok (.goto (-24), 3) := by decide +kernel
theorem d_X_appendDigits_29 : decode b_X_appendDigits 29 = .ok (.return_, 1) := by decide +kernel
end
section
/-! the instructions of TideTablesModel, decoded. Written by wip/whole/names.py -/
theorem d_M_init_0 : decode b_M_init 0 = .ok (.aload_n 0, 1) := by decide +kernel
theorem d_M_init_1 : decode b_M_init 1 = .ok (.invokespecial 1, 3) := by decide +kernel
theorem d_M_init_4 : decode b_M_init 4 = .ok (.aload_n 0, 1) := by decide +kernel
theorem d_M_init_5 : decode b_M_init 5 = .ok (.bipush 10, 2) := by decide +kernel
theorem d_M_init_7 : decode b_M_init 7 = .ok (.newarray .int, 2) := by decide +kernel
theorem d_M_init_9 : decode b_M_init 9 = .ok (.dup, 1) := by decide +kernel
theorem d_M_init_10 : decode b_M_init 10 = .ok (.iconst 0, 1) := by decide +kernel
theorem d_M_init_11 : decode b_M_init 11 = .ok (.sipush 365, 3) := by decide +kernel
theorem d_M_init_14 : decode b_M_init 14 = .ok (.iastore, 1) := by decide +kernel
theorem d_M_init_15 : decode b_M_init 15 = .ok (.dup, 1) := by decide +kernel
theorem d_M_init_16 : decode b_M_init 16 = .ok (.iconst 1, 1) := by decide +kernel
theorem d_M_init_17 : decode b_M_init 17 = .ok (.sipush 365, 3) := by decide +kernel
theorem d_M_init_20 : decode b_M_init 20 = .ok (.iastore, 1) := by decide +kernel
theorem d_M_init_21 : decode b_M_init 21 = .ok (.dup, 1) := by decide +kernel
theorem d_M_init_22 : decode b_M_init 22 = .ok (.iconst 2, 1) := by decide +kernel
theorem d_M_init_23 : decode b_M_init 23 = .ok (.sipush 365, 3) := by decide +kernel
theorem d_M_init_26 : decode b_M_init 26 = .ok (.iastore, 1) := by decide +kernel
theorem d_M_init_27 : decode b_M_init 27 = .ok (.dup, 1) := by decide +kernel
theorem d_M_init_28 : decode b_M_init 28 = .ok (.iconst 3, 1) := by decide +kernel
theorem d_M_init_29 : decode b_M_init 29 = .ok (.sipush 365, 3) := by decide +kernel
theorem d_M_init_32 : decode b_M_init 32 = .ok (.iastore, 1) := by decide +kernel
theorem d_M_init_33 : decode b_M_init 33 = .ok (.dup, 1) := by decide +kernel
theorem d_M_init_34 : decode b_M_init 34 = .ok (.iconst 4, 1) := by decide +kernel
theorem d_M_init_35 : decode b_M_init 35 = .ok (.sipush 365, 3) := by decide +kernel
theorem d_M_init_38 : decode b_M_init 38 = .ok (.iastore, 1) := by decide +kernel
theorem d_M_init_39 : decode b_M_init 39 = .ok (.dup, 1) := by decide +kernel
theorem d_M_init_40 : decode b_M_init 40 = .ok (.iconst 5, 1) := by decide +kernel
theorem d_M_init_41 : decode b_M_init 41 = .ok (.sipush 365, 3) := by decide +kernel
theorem d_M_init_44 : decode b_M_init 44 = .ok (.iastore, 1) := by decide +kernel
theorem d_M_init_45 : decode b_M_init 45 = .ok (.dup, 1) := by decide +kernel
theorem d_M_init_46 : decode b_M_init 46 = .ok (.bipush 6, 2) := by decide +kernel
theorem d_M_init_48 : decode b_M_init 48 = .ok (.sipush 365, 3) := by decide +kernel
theorem d_M_init_51 : decode b_M_init 51 = .ok (.iastore, 1) := by decide +kernel
theorem d_M_init_52 : decode b_M_init 52 = .ok (.dup, 1) := by decide +kernel
theorem d_M_init_53 : decode b_M_init 53 = .ok (.bipush 7, 2) := by decide +kernel
theorem d_M_init_55 : decode b_M_init 55 = .ok (.sipush 365, 3) := by decide +kernel
theorem d_M_init_58 : decode b_M_init 58 = .ok (.iastore, 1) := by decide +kernel
theorem d_M_init_59 : decode b_M_init 59 = .ok (.dup, 1) := by decide +kernel
theorem d_M_init_60 : decode b_M_init 60 = .ok (.bipush 8, 2) := by decide +kernel
theorem d_M_init_62 : decode b_M_init 62 = .ok (.sipush 365, 3) := by decide +kernel
theorem d_M_init_65 : decode b_M_init 65 = .ok (.iastore, 1) := by decide +kernel
theorem d_M_init_66 : decode b_M_init 66 = .ok (.dup, 1) := by decide +kernel
theorem d_M_init_67 : decode b_M_init 67 = .ok (.bipush 9, 2) := by decide +kernel
theorem d_M_init_69 : decode b_M_init 69 = .ok (.sipush 365, 3) := by decide +kernel
theorem d_M_init_72 : decode b_M_init 72 = .ok (.iastore, 1) := by decide +kernel
theorem d_M_init_73 : decode b_M_init 73 = .ok (.putfield 7, 3) := by decide +kernel
theorem d_M_init_76 : decode b_M_init 76 = .ok (.aload_n 0, 1) := by decide +kernel
theorem d_M_init_77 : decode b_M_init 77 = .ok (.bipush 8, 2) := by decide +kernel
theorem d_M_init_79 : decode b_M_init 79 = .ok (.newarray .int, 2) := by decide +kernel
theorem d_M_init_81 : decode b_M_init 81 = .ok (.putfield 13, 3) := by decide +kernel
theorem d_M_init_84 : decode b_M_init 84 = .ok (.aload_n 0, 1) := by decide +kernel
theorem d_M_init_85 : decode b_M_init 85 = .ok (.bipush 8, 2) := by decide +kernel
theorem d_M_init_87 : decode b_M_init 87 = .ok (.newarray .long, 2) := by decide +kernel
theorem d_M_init_89 : decode b_M_init 89 = .ok (.putfield 16, 3) := by decide +kernel
theorem d_M_init_92 : decode b_M_init 92 = .ok (.aload_n 0, 1) := by decide +kernel
theorem d_M_init_93 : decode b_M_init 93 = .ok (.bipush 8, 2) := by decide +kernel
theorem d_M_init_95 : decode b_M_init 95 = .ok (.newarray .long, 2) := by decide +kernel
theorem d_M_init_97 : decode b_M_init 97 = .ok (.putfield 20, 3) := by decide +kernel
theorem d_M_init_100 : decode b_M_init 100 = .ok (.aload_n 0, 1) := by decide +kernel
theorem d_M_init_101 : decode b_M_init 101 = .ok (.bipush 80, 2) := by decide +kernel
theorem d_M_init_103 : decode b_M_init 103 = .ok (.newarray .int, 2) := by decide +kernel
theorem d_M_init_105 : decode b_M_init 105 = .ok (.putfield 23, 3) := by decide +kernel
theorem d_M_init_108 : decode b_M_init 108 = .ok (.aload_n 0, 1) := by decide +kernel
theorem d_M_init_109 : decode b_M_init 109 = .ok (.bipush 80, 2) := by decide +kernel
theorem d_M_init_111 : decode b_M_init 111 = .ok (.newarray .long, 2) := by decide +kernel
theorem d_M_init_113 : decode b_M_init 113 = .ok (.putfield 26, 3) := by decide +kernel
theorem d_M_init_116 : decode b_M_init 116 = .ok (.aload_n 0, 1) := by decide +kernel
theorem d_M_init_117 : decode b_M_init 117 = .ok (.sipush 1440, 3) := by decide +kernel
theorem d_M_init_120 : decode b_M_init 120 = .ok (.newarray .int, 2) := by decide +kernel
theorem d_M_init_122 : decode b_M_init 122 = .ok (.putfield 29, 3) := by decide +kernel
theorem d_M_init_125 : decode b_M_init 125 = .ok (.aload_n 0, 1) := by decide +kernel
theorem d_M_init_126 : decode b_M_init 126 = .ok (.sipush 1440, 3) := by decide +kernel
theorem d_M_init_129 : decode b_M_init 129 = .ok (.newarray .int, 2) := by decide +kernel
theorem d_M_init_131 : decode b_M_init 131 = .ok (.putfield 32, 3) := by decide +kernel
theorem d_M_init_134 : decode b_M_init 134 = .ok (.aload_n 0, 1) := by decide +kernel
theorem d_M_init_135 : decode b_M_init 135 = .ok (.sipush 1440, 3) := by decide +kernel
theorem d_M_init_138 : decode b_M_init 138 = .ok (.newarray .boolean, 2) := by decide +kernel
theorem d_M_init_140 : decode b_M_init 140 = .ok (.putfield 35, 3) := by decide +kernel
theorem d_M_init_143 : decode b_M_init 143 = .ok (.aload_n 0, 1) := by decide +kernel
theorem d_M_init_144 : decode b_M_init 144 = .ok (.bipush 40, 2) := by decide +kernel
theorem d_M_init_146 : decode b_M_init 146 = .ok (.newarray .int, 2) := by decide +kernel
theorem d_M_init_148 : decode b_M_init 148 = .ok (.putfield 39, 3) := by decide +kernel
theorem d_M_init_151 : decode b_M_init 151 = .ok (.iconst 0, 1) := by decide +kernel
theorem d_M_init_152 : decode b_M_init 152 = .ok (.istore_n 1, 1) := by decide +kernel
theorem d_M_init_153 : decode b_M_init 153 = .ok (.iload_n 1, 1) := by decide +kernel
theorem d_M_init_154 : decode b_M_init 154 = .ok (.bipush 80, 2) := by decide +kernel
theorem d_M_init_156 : decode b_M_init 156 = .ok (.if_icmp .ge 17, 3) := by decide +kernel
theorem d_M_init_159 : decode b_M_init 159 = .ok (.aload_n 0, 1) := by decide +kernel
theorem d_M_init_160 : decode b_M_init 160 = .ok (.getfield 23, 3) := by decide +kernel
theorem d_M_init_163 : decode b_M_init 163 = .ok (.iload_n 1, 1) := by decide +kernel
theorem d_M_init_164 : decode b_M_init 164 = .ok (.ldc 42, 2) := by decide +kernel
theorem d_M_init_166 : decode b_M_init 166 = .ok (.iastore, 1) := by decide +kernel
theorem d_M_init_167 : decode b_M_init 167 = .ok (.iinc 1 1, 3) := by decide +kernel
theorem d_M_init_170 : decode b_M_init 170 = .ok (.goto (-17), 3) := by decide +kernel
theorem d_M_init_173 : decode b_M_init 173 = .ok (.return_, 1) := by decide +kernel
theorem d_M_thrown_0 : decode b_M_thrown 0 = .ok (.aload_n 0, 1) := by decide +kernel
theorem d_M_thrown_1 : decode b_M_thrown 1 = .ok (.getfield 43, 3) := by decide +kernel
theorem d_M_thrown_4 : decode b_M_thrown 4 = .ok (.ireturn, 1) := by decide +kernel
theorem d_M_isOne_0 : decode b_M_isOne 0 = .ok (.iload_n 0, 1) := by decide +kernel
theorem d_M_isOne_1 : decode b_M_isOne 1 = .ok (.ifCond .lt 13, 3) := by decide +kernel
theorem d_M_isOne_4 : decode b_M_isOne 4 = .ok (.iload_n 0, 1) := by decide +kernel
theorem d_M_isOne_5 : decode b_M_isOne 5 = .ok (.bipush 8, 2) := by decide +kernel
theorem d_M_isOne_7 : decode b_M_isOne 7 = .ok (.if_icmp .ge 7, 3) := by decide +kernel
theorem d_M_isOne_10 : decode b_M_isOne 10 = .ok (.iconst 1, 1) := by decide +kernel
theorem d_M_isOne_11 : decode b_M_isOne 11 = .ok (.goto 4, 3) := by decide +kernel
theorem d_M_isOne_14 : decode b_M_isOne 14 = .ok (.iconst 0, 1) := by decide +kernel
theorem d_M_isOne_15 : decode b_M_isOne 15 = .ok (.ireturn, 1) := by decide +kernel
theorem d_M_isYear_0 : decode b_M_isYear 0 = .ok (.iload_n 0, 1) := by decide +kernel
theorem d_M_isYear_1 : decode b_M_isYear 1 = .ok (.ifCond .lt 13, 3) := by decide +kernel
theorem d_M_isYear_4 : decode b_M_isYear 4 = .ok (.iload_n 0, 1) := by decide +kernel
theorem d_M_isYear_5 : decode b_M_isYear 5 = .ok (.bipush 10, 2) := by decide +kernel
theorem d_M_isYear_7 : decode b_M_isYear 7 = .ok (.if_icmp .ge 7, 3) := by decide +kernel
theorem d_M_isYear_10 : decode b_M_isYear 10 = .ok (.iconst 1, 1) := by decide +kernel
theorem d_M_isYear_11 : decode b_M_isYear 11 = .ok (.goto 4, 3) := by decide +kernel
theorem d_M_isYear_14 : decode b_M_isYear 14 = .ok (.iconst 0, 1) := by decide +kernel
theorem d_M_isYear_15 : decode b_M_isYear 15 = .ok (.ireturn, 1) := by decide +kernel
theorem d_M_isTurn_0 : decode b_M_isTurn 0 = .ok (.lload_n 0, 1) := by decide +kernel
theorem d_M_isTurn_1 : decode b_M_isTurn 1 = .ok (.lconst 0, 1) := by decide +kernel
theorem d_M_isTurn_2 : decode b_M_isTurn 2 = .ok (.lcmp, 1) := by decide +kernel
theorem d_M_isTurn_3 : decode b_M_isTurn 3 = .ok (.ifCond .lt 15, 3) := by decide +kernel
theorem d_M_isTurn_6 : decode b_M_isTurn 6 = .ok (.lload_n 0, 1) := by decide +kernel
theorem d_M_isTurn_7 : decode b_M_isTurn 7 = .ok (.ldc2_w 47, 3) := by decide +kernel
theorem d_M_isTurn_10 : decode b_M_isTurn 10 = .ok (.lcmp, 1) := by decide +kernel
theorem d_M_isTurn_11 : decode b_M_isTurn 11 = .ok (.ifCond .ge 7, 3) := by decide +kernel
theorem d_M_isTurn_14 : decode b_M_isTurn 14 = .ok (.iconst 1, 1) := by decide +kernel
theorem d_M_isTurn_15 : decode b_M_isTurn 15 = .ok (.goto 4, 3) := by decide +kernel
theorem d_M_isTurn_18 : decode b_M_isTurn 18 = .ok (.iconst 0, 1) := by decide +kernel
theorem d_M_isTurn_19 : decode b_M_isTurn 19 = .ok (.ireturn, 1) := by decide +kernel
theorem d_M_level_0 : decode b_M_level 0 = .ok (.aload_n 0, 1) := by decide +kernel
theorem d_M_level_1 : decode b_M_level 1 = .ok (.iload_n 1, 1) := by decide +kernel
theorem d_M_level_2 : decode b_M_level 2 = .ok (.ldc 49, 2) := by decide +kernel
theorem d_M_level_4 : decode b_M_level 4 = .ok (.if_icmp .lt 9, 3) := by decide +kernel
theorem d_M_level_7 : decode b_M_level 7 = .ok (.iload_n 1, 1) := by decide +kernel
theorem d_M_level_8 : decode b_M_level 8 = .ok (.ldc 50, 2) := by decide +kernel
theorem d_M_level_10 : decode b_M_level 10 = .ok (.if_icmp .le 7, 3) := by decide +kernel
theorem d_M_level_13 : decode b_M_level 13 = .ok (.iconst 1, 1) := by decide +kernel
theorem d_M_level_14 : decode b_M_level 14 = .ok (.goto 4, 3) := by decide +kernel
theorem d_M_level_17 : decode b_M_level 17 = .ok (.iconst 0, 1) := by decide +kernel
theorem d_M_level_18 : decode b_M_level 18 = .ok (.putfield 43, 3) := by decide +kernel
theorem d_M_level_21 : decode b_M_level 21 = .ok (.aload_n 0, 1) := by decide +kernel
theorem d_M_level_22 : decode b_M_level 22 = .ok (.getfield 43, 3) := by decide +kernel
theorem d_M_level_25 : decode b_M_level 25 = .ok (.ifCond .eq 5, 3) := by decide +kernel
theorem d_M_level_28 : decode b_M_level 28 = .ok (.iconst 0, 1) := by decide +kernel
theorem d_M_level_29 : decode b_M_level 29 = .ok (.ireturn, 1) := by decide +kernel
theorem d_M_level_30 : decode b_M_level 30 = .ok (.aload_n 0, 1) := by decide +kernel
theorem d_M_level_31 : decode b_M_level 31 = .ok (.getfield 51, 3) := by decide +kernel
theorem d_M_level_34 : decode b_M_level 34 = .ok (.istore_n 2, 1) := by decide +kernel
theorem d_M_level_35 : decode b_M_level 35 = .ok (.aload_n 0, 1) := by decide +kernel
theorem d_M_level_36 : decode b_M_level 36 = .ok (.iload_n 1, 1) := by decide +kernel
theorem d_M_level_37 : decode b_M_level 37 = .ok (.putfield 51, 3) := by decide +kernel
theorem d_M_level_40 : decode b_M_level 40 = .ok (.iload_n 2, 1) := by decide +kernel
theorem d_M_level_41 : decode b_M_level 41 = .ok (.ireturn, 1) := by decide +kernel
theorem d_M_constituent_0 : decode b_M_constituent 0 = .ok (.iload_n 2, 1) := by decide +kernel
theorem d_M_constituent_1 : decode b_M_constituent 1 = .ok (.ifCond .lt 35, 3) := by decide +kernel
theorem d_M_constituent_4 : decode b_M_constituent 4 = .ok (.iload_n 2, 1) := by decide +kernel
theorem d_M_constituent_5 : decode b_M_constituent 5 = .ok (.ldc 54, 2) := by decide +kernel
theorem d_M_constituent_7 : decode b_M_constituent 7 = .ok (.if_icmp .gt 29, 3) := by decide +kernel
theorem d_M_constituent_10 : decode b_M_constituent 10 = .ok (.lload_n 3, 1) := by decide +kernel
theorem d_M_constituent_11 : decode b_M_constituent 11 = .ok (.lconst 0, 1) := by decide +kernel
theorem d_M_constituent_12 : decode b_M_constituent 12 = .ok (.lcmp, 1) := by decide +kernel
theorem d_M_constituent_13 : decode b_M_constituent 13 = .ok (.ifCond .lt 23, 3) := by decide +kernel
theorem d_M_constituent_16 : decode b_M_constituent 16 = .ok (.lload_n 3, 1) := by decide +kernel
theorem d_M_constituent_17 : decode b_M_constituent 17 = .ok (.ldc2_w 55, 3) := by decide +kernel
theorem d_M_constituent_20 : decode b_M_constituent 20 = .ok (.lcmp, 1) := by decide +kernel
theorem d_M_constituent_21 : decode b_M_constituent 21 = .ok (.ifCond .ge 15, 3) := by decide +kernel
theorem d_M_constituent_24 : decode b_M_constituent 24 = .ok (.lload 5, 2) := by decide +kernel
theorem d_M_constituent_26 : decode b_M_constituent 26 = .ok (.invokestatic 57, 3) := by decide +kernel
theorem d_M_constituent_29 : decode b_M_constituent 29 = .ok (.ifCond .eq 7, 3) := by decide +kernel
theorem d_M_constituent_32 : decode b_M_constituent 32 = .ok (.iconst 1, 1) := by decide +kernel
theorem d_M_constituent_33 : decode b_M_constituent 33 = .ok (.goto 4, 3) := by decide +kernel
theorem d_M_constituent_36 : decode b_M_constituent 36 = .ok (.iconst 0, 1) := by decide +kernel
theorem d_M_constituent_37 : decode b_M_constituent 37 = .ok (.istore 7, 2) := by decide +kernel
theorem d_M_constituent_39 : decode b_M_constituent 39 = .ok (.aload_n 0, 1) := by decide +kernel
theorem d_M_constituent_40 : decode b_M_constituent 40 = .ok (.iload_n 1, 1) := by decide +kernel
theorem d_M_constituent_41 : decode b_M_constituent 41 = .ok (.invokestatic 61, 3) := by decide +kernel
theorem d_M_constituent_44 : decode b_M_constituent 44 = .ok (.ifCond .ne 7, 3) := by decide +kernel
theorem d_M_constituent_47 : decode b_M_constituent 47 = .ok (.iconst 1, 1) := by decide +kernel
theorem d_M_constituent_48 : decode b_M_constituent 48 = .ok (.goto 13, 3) := by decide +kernel
theorem d_M_constituent_51 : decode b_M_constituent 51 = .ok (.iload 7, 2) := by decide +kernel
theorem d_M_constituent_53 : decode b_M_constituent 53 = .ok (.ifCond .ne 7, 3) := by decide +kernel
theorem d_M_constituent_56 : decode b_M_constituent 56 = .ok (.iconst 2, 1) := by decide +kernel
theorem d_M_constituent_57 : decode b_M_constituent 57 = .ok (.goto 4, 3) := by decide +kernel
theorem d_M_constituent_60 : decode b_M_constituent 60 = .ok (.iconst 0, 1) := by decide +kernel
theorem d_M_constituent_61 : decode b_M_constituent 61 = .ok (.putfield 43, 3) := by decide +kernel
theorem d_M_constituent_64 : decode b_M_constituent 64 = .ok (.aload_n 0, 1) := by decide +kernel
theorem d_M_constituent_65 : decode b_M_constituent 65 = .ok (.getfield 43, 3) := by decide +kernel
theorem d_M_constituent_68 : decode b_M_constituent 68 = .ok (.ifCond .eq 4, 3) := by decide +kernel
theorem d_M_constituent_71 : decode b_M_constituent 71 = .ok (.return_, 1) := by decide +kernel
theorem d_M_constituent_72 : decode b_M_constituent 72 = .ok (.aload_n 0, 1) := by decide +kernel
theorem d_M_constituent_73 : decode b_M_constituent 73 = .ok (.getfield 13, 3) := by decide +kernel
theorem d_M_constituent_76 : decode b_M_constituent 76 = .ok (.iload_n 1, 1) := by decide +kernel
theorem d_M_constituent_77 : decode b_M_constituent 77 = .ok (.iload_n 2, 1) := by decide +kernel
theorem d_M_constituent_78 : decode b_M_constituent 78 = .ok (.iastore, 1) := by decide +kernel
theorem d_M_constituent_79 : decode b_M_constituent 79 = .ok (.aload_n 0, 1) := by decide +kernel
theorem d_M_constituent_80 : decode b_M_constituent 80 = .ok (.getfield 16, 3) := by decide +kernel
theorem d_M_constituent_83 : decode b_M_constituent 83 = .ok (.iload_n 1, 1) := by decide +kernel
theorem d_M_constituent_84 : decode b_M_constituent 84 = .ok (.lload_n 3, 1) := by decide +kernel
theorem d_M_constituent_85 : decode b_M_constituent 85 = .ok (.lastore, 1) := by decide +kernel
theorem d_M_constituent_86 : decode b_M_constituent 86 = .ok (.aload_n 0, 1) := by decide +kernel
theorem d_M_constituent_87 : decode b_M_constituent 87 = .ok (.getfield 20, 3) := by decide +kernel
theorem d_M_constituent_90 : decode b_M_constituent 90 = .ok (.iload_n 1, 1) := by decide +kernel
theorem d_M_constituent_91 : decode b_M_constituent 91 = .ok (.lload 5, 2) := by decide +kernel
theorem d_M_constituent_93 : decode b_M_constituent 93 = .ok (.lastore, 1) := by decide +kernel
theorem d_M_constituent_94 : decode b_M_constituent 94 = .ok (.return_, 1) := by decide +kernel
theorem d_M_node_0 : decode b_M_node 0 = .ok (.aload_n 0, 1) := by decide +kernel
theorem d_M_node_1 : decode b_M_node 1 = .ok (.iload_n 1, 1) := by decide +kernel
theorem d_M_node_2 : decode b_M_node 2 = .ok (.invokestatic 61, 3) := by decide +kernel
theorem d_M_node_5 : decode b_M_node 5 = .ok (.ifCond .eq 10, 3) := by decide +kernel
theorem d_M_node_8 : decode b_M_node 8 = .ok (.iload_n 2, 1) := by decide +kernel
theorem d_M_node_9 : decode b_M_node 9 = .ok (.invokestatic 65, 3) := by decide +kernel
theorem d_M_node_12 : decode b_M_node 12 = .ok (.ifCond .ne 7, 3) := by decide +kernel
theorem d_M_node_15 : decode b_M_node 15 = .ok (.iconst 1, 1) := by decide +kernel
theorem d_M_node_16 : decode b_M_node 16 = .ok (.goto 26, 3) := by decide +kernel
theorem d_M_node_19 : decode b_M_node 19 = .ok (.iload_n 3, 1) := by decide +kernel
theorem d_M_node_20 : decode b_M_node 20 = .ok (.ifCond .lt 17, 3) := by decide +kernel
theorem d_M_node_23 : decode b_M_node 23 = .ok (.iload_n 3, 1) := by decide +kernel
theorem d_M_node_24 : decode b_M_node 24 = .ok (.ldc 68, 2) := by decide +kernel
theorem d_M_node_26 : decode b_M_node 26 = .ok (.if_icmp .gt 11, 3) := by decide +kernel
theorem d_M_node_29 : decode b_M_node 29 = .ok (.lload 4, 2) := by decide +kernel
theorem d_M_node_31 : decode b_M_node 31 = .ok (.invokestatic 57, 3) := by decide +kernel
theorem d_M_node_34 : decode b_M_node 34 = .ok (.ifCond .ne 7, 3) := by decide +kernel
theorem d_M_node_37 : decode b_M_node 37 = .ok (.iconst 2, 1) := by decide +kernel
theorem d_M_node_38 : decode b_M_node 38 = .ok (.goto 4, 3) := by decide +kernel
theorem d_M_node_41 : decode b_M_node 41 = .ok (.iconst 0, 1) := by decide +kernel
theorem d_M_node_42 : decode b_M_node 42 = .ok (.putfield 43, 3) := by decide +kernel
theorem d_M_node_45 : decode b_M_node 45 = .ok (.aload_n 0, 1) := by decide +kernel
theorem d_M_node_46 : decode b_M_node 46 = .ok (.getfield 43, 3) := by decide +kernel
theorem d_M_node_49 : decode b_M_node 49 = .ok (.ifCond .eq 4, 3) := by decide +kernel
theorem d_M_node_52 : decode b_M_node 52 = .ok (.return_, 1) := by decide +kernel
theorem d_M_node_53 : decode b_M_node 53 = .ok (.aload_n 0, 1) := by decide +kernel
theorem d_M_node_54 : decode b_M_node 54 = .ok (.getfield 23, 3) := by decide +kernel
theorem d_M_node_57 : decode b_M_node 57 = .ok (.bipush 10, 2) := by decide +kernel
theorem d_M_node_59 : decode b_M_node 59 = .ok (.iload_n 1, 1) := by decide +kernel
theorem d_M_node_60 : decode b_M_node 60 = .ok (.imul, 1) := by decide +kernel
theorem d_M_node_61 : decode b_M_node 61 = .ok (.iload_n 2, 1) := by decide +kernel
theorem d_M_node_62 : decode b_M_node 62 = .ok (.iadd, 1) := by decide +kernel
theorem d_M_node_63 : decode b_M_node 63 = .ok (.iload_n 3, 1) := by decide +kernel
theorem d_M_node_64 : decode b_M_node 64 = .ok (.iastore, 1) := by decide +kernel
theorem d_M_node_65 : decode b_M_node 65 = .ok (.aload_n 0, 1) := by decide +kernel
theorem d_M_node_66 : decode b_M_node 66 = .ok (.getfield 26, 3) := by decide +kernel
theorem d_M_node_69 : decode b_M_node 69 = .ok (.bipush 10, 2) := by decide +kernel
theorem d_M_node_71 : decode b_M_node 71 = .ok (.iload_n 1, 1) := by decide +kernel
theorem d_M_node_72 : decode b_M_node 72 = .ok (.imul, 1) := by decide +kernel
theorem d_M_node_73 : decode b_M_node 73 = .ok (.iload_n 2, 1) := by decide +kernel
theorem d_M_node_74 : decode b_M_node 74 = .ok (.iadd, 1) := by decide +kernel
theorem d_M_node_75 : decode b_M_node 75 = .ok (.lload 4, 2) := by decide +kernel
theorem d_M_node_77 : decode b_M_node 77 = .ok (.lastore, 1) := by decide +kernel
theorem d_M_node_78 : decode b_M_node 78 = .ok (.return_, 1) := by decide +kernel
theorem d_M_days_0 : decode b_M_days 0 = .ok (.aload_n 0, 1) := by decide +kernel
theorem d_M_days_1 : decode b_M_days 1 = .ok (.iload_n 1, 1) := by decide +kernel
theorem d_M_days_2 : decode b_M_days 2 = .ok (.invokestatic 65, 3) := by decide +kernel
theorem d_M_days_5 : decode b_M_days 5 = .ok (.ifCond .ne 7, 3) := by decide +kernel
theorem d_M_days_8 : decode b_M_days 8 = .ok (.iconst 1, 1) := by decide +kernel
theorem d_M_days_9 : decode b_M_days 9 = .ok (.goto 22, 3) := by decide +kernel
theorem d_M_days_12 : decode b_M_days 12 = .ok (.iload_n 2, 1) := by decide +kernel
theorem d_M_days_13 : decode b_M_days 13 = .ok (.sipush 365, 3) := by decide +kernel
theorem d_M_days_16 : decode b_M_days 16 = .ok (.if_icmp .eq 14, 3) := by decide +kernel
theorem d_M_days_19 : decode b_M_days 19 = .ok (.iload_n 2, 1) := by decide +kernel
theorem d_M_days_20 : decode b_M_days 20 = .ok (.sipush 366, 3) := by decide +kernel
theorem d_M_days_23 : decode b_M_days 23 = .ok (.if_icmp .eq 7, 3) := by decide +kernel
theorem d_M_days_26 : decode b_M_days 26 = .ok (.iconst 2, 1) := by decide +kernel
theorem d_M_days_27 : decode b_M_days 27 = .ok (.goto 4, 3) := by decide +kernel
theorem d_M_days_30 : decode b_M_days 30 = .ok (.iconst 0, 1) := by decide +kernel
theorem d_M_days_31 : decode b_M_days 31 = .ok (.putfield 43, 3) := by decide +kernel
theorem d_M_days_34 : decode b_M_days 34 = .ok (.aload_n 0, 1) := by decide +kernel
theorem d_M_days_35 : decode b_M_days 35 = .ok (.getfield 43, 3) := by decide +kernel
theorem d_M_days_38 : decode b_M_days 38 = .ok (.ifCond .eq 5, 3) := by decide +kernel
theorem d_M_days_41 : decode b_M_days 41 = .ok (.iconst 0, 1) := by decide +kernel
theorem d_M_days_42 : decode b_M_days 42 = .ok (.ireturn, 1) := by decide +kernel
theorem d_M_days_43 : decode b_M_days 43 = .ok (.aload_n 0, 1) := by decide +kernel
theorem d_M_days_44 : decode b_M_days 44 = .ok (.getfield 7, 3) := by decide +kernel
theorem d_M_days_47 : decode b_M_days 47 = .ok (.iload_n 1, 1) := by decide +kernel
theorem d_M_days_48 : decode b_M_days 48 = .ok (.iaload, 1) := by decide +kernel
theorem d_M_days_49 : decode b_M_days 49 = .ok (.istore_n 3, 1) := by decide +kernel
theorem d_M_days_50 : decode b_M_days 50 = .ok (.aload_n 0, 1) := by decide +kernel
theorem d_M_days_51 : decode b_M_days 51 = .ok (.getfield 7, 3) := by decide +kernel
theorem d_M_days_54 : decode b_M_days 54 = .ok (.iload_n 1, 1) := by decide +kernel
theorem d_M_days_55 : decode b_M_days 55 = .ok (.iload_n 2, 1) := by decide +kernel
theorem d_M_days_56 : decode b_M_days 56 = .ok (.iastore, 1) := by decide +kernel
theorem d_M_days_57 : decode b_M_days 57 = .ok (.iload_n 3, 1) := by decide +kernel
theorem d_M_days_58 : decode b_M_days 58 = .ok (.ireturn, 1) := by decide +kernel
theorem d_M_daysBefore_0 : decode b_M_daysBefore 0 = .ok (.iconst 0, 1) := by decide +kernel
theorem d_M_daysBefore_1 : decode b_M_daysBefore 1 = .ok (.istore_n 2, 1) := by decide +kernel
theorem d_M_daysBefore_2 : decode b_M_daysBefore 2 = .ok (.iconst 0, 1) := by decide +kernel
theorem d_M_daysBefore_3 : decode b_M_daysBefore 3 = .ok (.istore_n 3, 1) := by decide +kernel
theorem d_M_daysBefore_4 : decode b_M_daysBefore 4 = .ok (.iload_n 3, 1) := by decide +kernel
theorem d_M_daysBefore_5 : decode b_M_daysBefore 5 = .ok (.iload_n 1, 1) := by decide +kernel
theorem d_M_daysBefore_6 : decode b_M_daysBefore 6 = .ok (.if_icmp .ge 18, 3) := by decide +kernel
theorem d_M_daysBefore_9 : decode b_M_daysBefore 9 = .ok (.iload_n 2, 1) := by decide +kernel
theorem d_M_daysBefore_10 : decode b_M_daysBefore 10 = .ok (.aload_n 0, 1) := by decide +kernel
theorem d_M_daysBefore_11 : decode b_M_daysBefore 11 = .ok (.getfield 7, 3) := by decide +kernel
theorem d_M_daysBefore_14 : decode b_M_daysBefore 14 = .ok (.iload_n 3, 1) := by decide +kernel
theorem d_M_daysBefore_15 : decode b_M_daysBefore 15 = .ok (.iaload, 1) := by decide +kernel
theorem d_M_daysBefore_16 : decode b_M_daysBefore 16 = .ok (.iadd, 1) := by decide +kernel
theorem d_M_daysBefore_17 : decode b_M_daysBefore 17 = .ok (.istore_n 2, 1) := by decide +kernel
theorem d_M_daysBefore_18 : decode b_M_daysBefore 18 = .ok (.iinc 3 1, 3) := by decide +kernel
theorem d_M_daysBefore_21 : decode b_M_daysBefore 21 = .ok (.goto (-17), 3) := by decide +kernel
theorem d_M_daysBefore_24 : decode b_M_daysBefore 24 = .ok (.iload_n 2, 1) := by decide +kernel
theorem d_M_daysBefore_25 : decode b_M_daysBefore 25 = .ok (.ireturn, 1) := by decide +kernel
theorem d_M_isMinute_0 : decode b_M_isMinute 0 = .ok (.iload_n 1, 1) := by decide +kernel
theorem d_M_isMinute_1 : decode b_M_isMinute 1 = .ok (.ifCond .lt 21, 3) := by decide +kernel
theorem d_M_isMinute_4 : decode b_M_isMinute 4 = .ok (.iload_n 1, 1) := by decide +kernel
theorem d_M_isMinute_5 : decode b_M_isMinute 5 = .ok (.sipush 1440, 3) := by decide +kernel
theorem d_M_isMinute_8 : decode b_M_isMinute 8 = .ok (.aload_n 0, 1) := by decide +kernel
theorem d_M_isMinute_9 : decode b_M_isMinute 9 = .ok (.bipush 10, 2) := by decide +kernel
theorem d_M_isMinute_11 : decode b_M_isMinute 11 = .ok (.invokevirtual 69, 3) := by decide +kernel
theorem d_M_isMinute_14 : decode b_M_isMinute 14 = .ok (.imul, 1) := by decide +kernel
theorem d_M_isMinute_15 : decode b_M_isMinute 15 = .ok (.if_icmp .ge 7, 3) := by decide +kernel
theorem d_M_isMinute_18 : decode b_M_isMinute 18 = .ok (.iconst 1, 1) := by decide +kernel
theorem d_M_isMinute_19 : decode b_M_isMinute 19 = .ok (.goto 4, 3) := by decide +kernel
theorem d_M_isMinute_22 : decode b_M_isMinute 22 = .ok (.iconst 0, 1) := by decide +kernel
theorem d_M_isMinute_23 : decode b_M_isMinute 23 = .ok (.ireturn, 1) := by decide +kernel
theorem d_M_isDay_0 : decode b_M_isDay 0 = .ok (.iload_n 1, 1) := by decide +kernel
theorem d_M_isDay_1 : decode b_M_isDay 1 = .ok (.ifCond .lt 17, 3) := by decide +kernel
theorem d_M_isDay_4 : decode b_M_isDay 4 = .ok (.iload_n 1, 1) := by decide +kernel
theorem d_M_isDay_5 : decode b_M_isDay 5 = .ok (.aload_n 0, 1) := by decide +kernel
theorem d_M_isDay_6 : decode b_M_isDay 6 = .ok (.bipush 10, 2) := by decide +kernel
theorem d_M_isDay_8 : decode b_M_isDay 8 = .ok (.invokevirtual 69, 3) := by decide +kernel
theorem d_M_isDay_11 : decode b_M_isDay 11 = .ok (.if_icmp .ge 7, 3) := by decide +kernel
theorem d_M_isDay_14 : decode b_M_isDay 14 = .ok (.iconst 1, 1) := by decide +kernel
theorem d_M_isDay_15 : decode b_M_isDay 15 = .ok (.goto 4, 3) := by decide +kernel
theorem d_M_isDay_18 : decode b_M_isDay 18 = .ok (.iconst 0, 1) := by decide +kernel
theorem d_M_isDay_19 : decode b_M_isDay 19 = .ok (.ireturn, 1) := by decide +kernel
theorem d_M_yearOfDay_0 : decode b_M_yearOfDay 0 = .ok (.bipush 9, 2) := by decide +kernel
theorem d_M_yearOfDay_2 : decode b_M_yearOfDay 2 = .ok (.istore_n 2, 1) := by decide +kernel
theorem d_M_yearOfDay_3 : decode b_M_yearOfDay 3 = .ok (.aload_n 0, 1) := by decide +kernel
theorem d_M_yearOfDay_4 : decode b_M_yearOfDay 4 = .ok (.iload_n 2, 1) := by decide +kernel
theorem d_M_yearOfDay_5 : decode b_M_yearOfDay 5 = .ok (.invokevirtual 69, 3) := by decide +kernel
theorem d_M_yearOfDay_8 : decode b_M_yearOfDay 8 = .ok (.iload_n 1, 1) := by decide +kernel
theorem d_M_yearOfDay_9 : decode b_M_yearOfDay 9 = .ok (.if_icmp .le 9, 3) := by decide +kernel
theorem d_M_yearOfDay_12 : decode b_M_yearOfDay 12 = .ok (.iinc 2 (-1), 3) := by decide +kernel
theorem d_M_yearOfDay_15 : decode b_M_yearOfDay 15 = .ok (.goto (-12), 3) := by decide +kernel
theorem d_M_yearOfDay_18 : decode b_M_yearOfDay 18 = .ok (.iload_n 2, 1) := by decide +kernel
theorem d_M_yearOfDay_19 : decode b_M_yearOfDay 19 = .ok (.ireturn, 1) := by decide +kernel
theorem d_M_first_0 : decode b_M_first 0 = .ok (.aload_n 0, 1) := by decide +kernel
theorem d_M_first_1 : decode b_M_first 1 = .ok (.iload_n 1, 1) := by decide +kernel
theorem d_M_first_2 : decode b_M_first 2 = .ok (.ifCond .lt 9, 3) := by decide +kernel
theorem d_M_first_5 : decode b_M_first 5 = .ok (.iload_n 1, 1) := by decide +kernel
theorem d_M_first_6 : decode b_M_first 6 = .ok (.bipush 10, 2) := by decide +kernel
theorem d_M_first_8 : decode b_M_first 8 = .ok (.if_icmp .le 7, 3) := by decide +kernel
theorem d_M_first_11 : decode b_M_first 11 = .ok (.iconst 1, 1) := by decide +kernel
theorem d_M_first_12 : decode b_M_first 12 = .ok (.goto 4, 3) := by decide +kernel
theorem d_M_first_15 : decode b_M_first 15 = .ok (.iconst 0, 1) := by decide +kernel
theorem d_M_first_16 : decode b_M_first 16 = .ok (.putfield 43, 3) := by decide +kernel
theorem d_M_first_19 : decode b_M_first 19 = .ok (.aload_n 0, 1) := by decide +kernel
theorem d_M_first_20 : decode b_M_first 20 = .ok (.getfield 43, 3) := by decide +kernel
theorem d_M_first_23 : decode b_M_first 23 = .ok (.ifCond .ne 15, 3) := by decide +kernel
theorem d_M_first_26 : decode b_M_first 26 = .ok (.sipush 1440, 3) := by decide +kernel
theorem d_M_first_29 : decode b_M_first 29 = .ok (.aload_n 0, 1) := by decide +kernel
theorem d_M_first_30 : decode b_M_first 30 = .ok (.iload_n 1, 1) := by decide +kernel
theorem d_M_first_31 : decode b_M_first 31 = .ok (.invokevirtual 69, 3) := by decide +kernel
theorem d_M_first_34 : decode b_M_first 34 = .ok (.imul, 1) := by decide +kernel
theorem d_M_first_35 : decode b_M_first 35 = .ok (.goto 4, 3) := by decide +kernel
theorem d_M_first_38 : decode b_M_first 38 = .ok (.iconst 0, 1) := by decide +kernel
theorem d_M_first_39 : decode b_M_first 39 = .ok (.ireturn, 1) := by decide +kernel
theorem d_M_year_0 : decode b_M_year 0 = .ok (.aload_n 0, 1) := by decide +kernel
theorem d_M_year_1 : decode b_M_year 1 = .ok (.aload_n 0, 1) := by decide +kernel
theorem d_M_year_2 : decode b_M_year 2 = .ok (.iload_n 1, 1) := by decide +kernel
theorem d_M_year_3 : decode b_M_year 3 = .ok (.invokevirtual 73, 3) := by decide +kernel
theorem d_M_year_6 : decode b_M_year 6 = .ok (.ifCond .eq 7, 3) := by decide +kernel
theorem d_M_year_9 : decode b_M_year 9 = .ok (.iconst 0, 1) := by decide +kernel
theorem d_M_year_10 : decode b_M_year 10 = .ok (.goto 4, 3) := by decide +kernel
theorem d_M_year_13 : decode b_M_year 13 = .ok (.iconst 1, 1) := by decide +kernel
theorem d_M_year_14 : decode b_M_year 14 = .ok (.putfield 43, 3) := by decide +kernel
theorem d_M_year_17 : decode b_M_year 17 = .ok (.aload_n 0, 1) := by decide +kernel
theorem d_M_year_18 : decode b_M_year 18 = .ok (.getfield 43, 3) := by decide +kernel
theorem d_M_year_21 : decode b_M_year 21 = .ok (.ifCond .ne 15, 3) := by decide +kernel
theorem d_M_year_24 : decode b_M_year 24 = .ok (.aload_n 0, 1) := by decide +kernel
theorem d_M_year_25 : decode b_M_year 25 = .ok (.iload_n 1, 1) := by decide +kernel
theorem d_M_year_26 : decode b_M_year 26 = .ok (.sipush 1440, 3) := by decide +kernel
theorem d_M_year_29 : decode b_M_year 29 = .ok (.idiv, 1) := by decide +kernel
theorem d_M_year_30 : decode b_M_year 30 = .ok (.invokevirtual 76, 3) := by decide +kernel
theorem d_M_year_33 : decode b_M_year 33 = .ok (.goto 4, 3) := by decide +kernel
theorem d_M_year_36 : decode b_M_year 36 = .ok (.iconst 0, 1) := by decide +kernel
theorem d_M_year_37 : decode b_M_year 37 = .ok (.ireturn, 1) := by decide +kernel
theorem d_M_positionOf_0 : decode b_M_positionOf 0 = .ok (.aload_n 0, 1) := by decide +kernel
theorem d_M_positionOf_1 : decode b_M_positionOf 1 = .ok (.getfield 20, 3) := by decide +kernel
theorem d_M_positionOf_4 : decode b_M_positionOf 4 = .ok (.iload_n 1, 1) := by decide +kernel
theorem d_M_positionOf_5 : decode b_M_positionOf 5 = .ok (.laload, 1) := by decide +kernel
theorem d_M_positionOf_6 : decode b_M_positionOf 6 = .ok (.aload_n 0, 1) := by decide +kernel
theorem d_M_positionOf_7 : decode b_M_positionOf 7 = .ok (.getfield 16, 3) := by decide +kernel
theorem d_M_positionOf_10 : decode b_M_positionOf 10 = .ok (.iload_n 1, 1) := by decide +kernel
theorem d_M_positionOf_11 : decode b_M_positionOf 11 = .ok (.laload, 1) := by decide +kernel
theorem d_M_positionOf_12 : decode b_M_positionOf 12 = .ok (.iload_n 2, 1) := by decide +kernel
theorem d_M_positionOf_13 : decode b_M_positionOf 13 = .ok (.i2l, 1) := by decide +kernel
theorem d_M_positionOf_14 : decode b_M_positionOf 14 = .ok (.lmul, 1) := by decide +kernel
theorem d_M_positionOf_15 : decode b_M_positionOf 15 = .ok (.ldc2_w 47, 3) := by decide +kernel
theorem d_M_positionOf_18 : decode b_M_positionOf 18 = .ok (.lrem, 1) := by decide +kernel
theorem d_M_positionOf_19 : decode b_M_positionOf 19 = .ok (.ladd, 1) := by decide +kernel
theorem d_M_positionOf_20 : decode b_M_positionOf 20 = .ok (.aload_n 0, 1) := by decide +kernel
theorem d_M_positionOf_21 : decode b_M_positionOf 21 = .ok (.getfield 26, 3) := by decide +kernel
theorem d_M_positionOf_24 : decode b_M_positionOf 24 = .ok (.bipush 10, 2) := by decide +kernel
theorem d_M_positionOf_26 : decode b_M_positionOf 26 = .ok (.iload_n 1, 1) := by decide +kernel
theorem d_M_positionOf_27 : decode b_M_positionOf 27 = .ok (.imul, 1) := by decide +kernel
theorem d_M_positionOf_28 : decode b_M_positionOf 28 = .ok (.iload_n 3, 1) := by decide +kernel
theorem d_M_positionOf_29 : decode b_M_positionOf 29 = .ok (.iadd, 1) := by decide +kernel
theorem d_M_positionOf_30 : decode b_M_positionOf 30 = .ok (.laload, 1) := by decide +kernel
theorem d_M_positionOf_31 : decode b_M_positionOf 31 = .ok (.ladd, 1) := by decide +kernel
theorem d_M_positionOf_32 : decode b_M_positionOf 32 = .ok (.lstore 4, 2) := by decide +kernel
theorem d_M_positionOf_34 : decode b_M_positionOf 34 = .ok (.lload 4, 2) := by decide +kernel
theorem d_M_positionOf_36 : decode b_M_positionOf 36 = .ok (.ldc2_w 47, 3) := by decide +kernel
theorem d_M_positionOf_39 : decode b_M_positionOf 39 = .ok (.lrem, 1) := by decide +kernel
theorem d_M_positionOf_40 : decode b_M_positionOf 40 = .ok (.lreturn, 1) := by decide +kernel
theorem d_M_position_0 : decode b_M_position 0 = .ok (.aload_n 0, 1) := by decide +kernel
theorem d_M_position_1 : decode b_M_position 1 = .ok (.iload_n 1, 1) := by decide +kernel
theorem d_M_position_2 : decode b_M_position 2 = .ok (.invokestatic 61, 3) := by decide +kernel
theorem d_M_position_5 : decode b_M_position 5 = .ok (.ifCond .eq 15, 3) := by decide +kernel
theorem d_M_position_8 : decode b_M_position 8 = .ok (.aload_n 0, 1) := by decide +kernel
theorem d_M_position_9 : decode b_M_position 9 = .ok (.iload_n 2, 1) := by decide +kernel
theorem d_M_position_10 : decode b_M_position 10 = .ok (.invokevirtual 73, 3) := by decide +kernel
theorem d_M_position_13 : decode b_M_position 13 = .ok (.ifCond .eq 7, 3) := by decide +kernel
theorem d_M_position_16 : decode b_M_position 16 = .ok (.iconst 0, 1) := by decide +kernel
theorem d_M_position_17 : decode b_M_position 17 = .ok (.goto 4, 3) := by decide +kernel
theorem d_M_position_20 : decode b_M_position 20 = .ok (.iconst 1, 1) := by decide +kernel
theorem d_M_position_21 : decode b_M_position 21 = .ok (.putfield 43, 3) := by decide +kernel
theorem d_M_position_24 : decode b_M_position 24 = .ok (.aload_n 0, 1) := by decide +kernel
theorem d_M_position_25 : decode b_M_position 25 = .ok (.getfield 43, 3) := by decide +kernel
theorem d_M_position_28 : decode b_M_position 28 = .ok (.ifCond .ne 21, 3) := by decide +kernel
theorem d_M_position_31 : decode b_M_position 31 = .ok (.aload_n 0, 1) := by decide +kernel
theorem d_M_position_32 : decode b_M_position 32 = .ok (.iload_n 1, 1) := by decide +kernel
theorem d_M_position_33 : decode b_M_position 33 = .ok (.iload_n 2, 1) := by decide +kernel
theorem d_M_position_34 : decode b_M_position 34 = .ok (.aload_n 0, 1) := by decide +kernel
theorem d_M_position_35 : decode b_M_position 35 = .ok (.iload_n 2, 1) := by decide +kernel
theorem d_M_position_36 : decode b_M_position 36 = .ok (.sipush 1440, 3) := by decide +kernel
theorem d_M_position_39 : decode b_M_position 39 = .ok (.idiv, 1) := by decide +kernel
theorem d_M_position_40 : decode b_M_position 40 = .ok (.invokevirtual 76, 3) := by decide +kernel
theorem d_M_position_43 : decode b_M_position 43 = .ok (.invokevirtual 79, 3) := by decide +kernel
theorem d_M_position_46 : decode b_M_position 46 = .ok (.goto 4, 3) := by decide +kernel
theorem d_M_position_49 : decode b_M_position 49 = .ok (.lconst 0, 1) := by decide +kernel
theorem d_M_position_50 : decode b_M_position 50 = .ok (.lreturn, 1) := by decide +kernel
theorem d_M_cosineOf_0 : decode b_M_cosineOf 0 = .ok (.lload_n 0, 1) := by decide +kernel
theorem d_M_cosineOf_1 : decode b_M_cosineOf 1 = .ok (.ldc2_w 83, 3) := by decide +kernel
theorem d_M_cosineOf_4 : decode b_M_cosineOf 4 = .ok (.ldiv, 1) := by decide +kernel
theorem d_M_cosineOf_5 : decode b_M_cosineOf 5 = .ok (.lstore_n 2, 1) := by decide +kernel
theorem d_M_cosineOf_6 : decode b_M_cosineOf 6 = .ok (.lload_n 0, 1) := by decide +kernel
theorem d_M_cosineOf_7 : decode b_M_cosineOf 7 = .ok (.ldc2_w 85, 3) := by decide +kernel
theorem d_M_cosineOf_10 : decode b_M_cosineOf 10 = .ok (.ldiv, 1) := by decide +kernel
theorem d_M_cosineOf_11 : decode b_M_cosineOf 11 = .ok (.ldc2_w 87, 3) := by decide +kernel
theorem d_M_cosineOf_14 : decode b_M_cosineOf 14 = .ok (.lrem, 1) := by decide +kernel
theorem d_M_cosineOf_15 : decode b_M_cosineOf 15 = .ok (.lstore 4, 2) := by decide +kernel
theorem d_M_cosineOf_17 : decode b_M_cosineOf 17 = .ok (.lload_n 2, 1) := by decide +kernel
theorem d_M_cosineOf_18 : decode b_M_cosineOf 18 = .ok (.ldc2_w 89, 3) := by decide +kernel
theorem d_M_cosineOf_21 : decode b_M_cosineOf 21 = .ok (.lrem, 1) := by decide +kernel
theorem d_M_cosineOf_22 : decode b_M_cosineOf 22 = .ok (.lconst 1, 1) := by decide +kernel
theorem d_M_cosineOf_23 : decode b_M_cosineOf 23 = .ok (.lcmp, 1) := by decide +kernel
theorem d_M_cosineOf_24 : decode b_M_cosineOf 24 = .ok (.ifCond .ne 11, 3) := by decide +kernel
theorem d_M_cosineOf_27 : decode b_M_cosineOf 27 = .ok (.ldc2_w 87, 3) := by decide +kernel
theorem d_M_cosineOf_30 : decode b_M_cosineOf 30 = .ok (.lload 4, 2) := by decide +kernel
theorem d_M_cosineOf_32 : decode b_M_cosineOf 32 = .ok (.lsub, 1) := by decide +kernel
theorem d_M_cosineOf_33 : decode b_M_cosineOf 33 = .ok (.lstore 4, 2) := by decide +kernel
theorem d_M_cosineOf_35 : decode b_M_cosineOf 35 = .ok (.lload 4, 2) := by decide +kernel
theorem d_M_cosineOf_37 : decode b_M_cosineOf 37 = .ok (.lload 4, 2) := by decide +kernel
theorem d_M_cosineOf_39 : decode b_M_cosineOf 39 = .ok (.lmul, 1) := by decide +kernel
theorem d_M_cosineOf_40 : decode b_M_cosineOf 40 = .ok (.ldc2_w 87, 3) := by decide +kernel
theorem d_M_cosineOf_43 : decode b_M_cosineOf 43 = .ok (.ldiv, 1) := by decide +kernel
theorem d_M_cosineOf_44 : decode b_M_cosineOf 44 = .ok (.lstore 6, 2) := by decide +kernel
theorem d_M_cosineOf_46 : decode b_M_cosineOf 46 = .ok (.ldc2_w 91, 3) := by decide +kernel
theorem d_M_cosineOf_49 : decode b_M_cosineOf 49 = .ok (.ldc2_w 93, 3) := by decide +kernel
theorem d_M_cosineOf_52 : decode b_M_cosineOf 52 = .ok (.lload 6, 2) := by decide +kernel
theorem d_M_cosineOf_54 : decode b_M_cosineOf 54 = .ok (.lmul, 1) := by decide +kernel
theorem d_M_cosineOf_55 : decode b_M_cosineOf 55 = .ok (.ldc2_w 87, 3) := by decide +kernel
theorem d_M_cosineOf_58 : decode b_M_cosineOf 58 = .ok (.ldiv, 1) := by decide +kernel
theorem d_M_cosineOf_59 : decode b_M_cosineOf 59 = .ok (.lsub, 1) := by decide +kernel
theorem d_M_cosineOf_60 : decode b_M_cosineOf 60 = .ok (.lstore 8, 2) := by decide +kernel
theorem d_M_cosineOf_62 : decode b_M_cosineOf 62 = .ok (.ldc2_w 95, 3) := by decide +kernel
theorem d_M_cosineOf_65 : decode b_M_cosineOf 65 = .ok (.lload 8, 2) := by decide +kernel
theorem d_M_cosineOf_67 : decode b_M_cosineOf 67 = .ok (.lload 6, 2) := by decide +kernel
theorem d_M_cosineOf_69 : decode b_M_cosineOf 69 = .ok (.lmul, 1) := by decide +kernel
theorem d_M_cosineOf_70 : decode b_M_cosineOf 70 = .ok (.ldc2_w 87, 3) := by decide +kernel
theorem d_M_cosineOf_73 : decode b_M_cosineOf 73 = .ok (.ldiv, 1) := by decide +kernel
theorem d_M_cosineOf_74 : decode b_M_cosineOf 74 = .ok (.lsub, 1) := by decide +kernel
theorem d_M_cosineOf_75 : decode b_M_cosineOf 75 = .ok (.lstore 10, 2) := by decide +kernel
theorem d_M_cosineOf_77 : decode b_M_cosineOf 77 = .ok (.ldc2_w 97, 3) := by decide +kernel
theorem d_M_cosineOf_80 : decode b_M_cosineOf 80 = .ok (.lload 10, 2) := by decide +kernel
theorem d_M_cosineOf_82 : decode b_M_cosineOf 82 = .ok (.lload 6, 2) := by decide +kernel
theorem d_M_cosineOf_84 : decode b_M_cosineOf 84 = .ok (.lmul, 1) := by decide +kernel
theorem d_M_cosineOf_85 : decode b_M_cosineOf 85 = .ok (.ldc2_w 87, 3) := by decide +kernel
theorem d_M_cosineOf_88 : decode b_M_cosineOf 88 = .ok (.ldiv, 1) := by decide +kernel
theorem d_M_cosineOf_89 : decode b_M_cosineOf 89 = .ok (.lsub, 1) := by decide +kernel
theorem d_M_cosineOf_90 : decode b_M_cosineOf 90 = .ok (.lstore 12, 2) := by decide +kernel
theorem d_M_cosineOf_92 : decode b_M_cosineOf 92 = .ok (.ldc2_w 87, 3) := by decide +kernel
theorem d_M_cosineOf_95 : decode b_M_cosineOf 95 = .ok (.lload 12, 2) := by decide +kernel
theorem d_M_cosineOf_97 : decode b_M_cosineOf 97 = .ok (.lload 6, 2) := by decide +kernel
theorem d_M_cosineOf_99 : decode b_M_cosineOf 99 = .ok (.lmul, 1) := by decide +kernel
theorem d_M_cosineOf_100 : decode b_M_cosineOf 100 = .ok (.ldc2_w 87, 3) := by decide +kernel
theorem d_M_cosineOf_103 : decode b_M_cosineOf 103 = .ok (.ldiv, 1) := by decide +kernel
theorem d_M_cosineOf_104 : decode b_M_cosineOf 104 = .ok (.lsub, 1) := by decide +kernel
theorem d_M_cosineOf_105 : decode b_M_cosineOf 105 = .ok (.lstore 14, 2) := by decide +kernel
theorem d_M_cosineOf_107 : decode b_M_cosineOf 107 = .ok (.lload_n 2, 1) := by decide +kernel
theorem d_M_cosineOf_108 : decode b_M_cosineOf 108 = .ok (.lconst 1, 1) := by decide +kernel
theorem d_M_cosineOf_109 : decode b_M_cosineOf 109 = .ok (.lcmp, 1) := by decide +kernel
theorem d_M_cosineOf_110 : decode b_M_cosineOf 110 = .ok (.ifCond .eq 11, 3) := by decide +kernel
theorem d_M_cosineOf_113 : decode b_M_cosineOf 113 = .ok (.lload_n 2, 1) := by decide +kernel
theorem d_M_cosineOf_114 : decode b_M_cosineOf 114 = .ok (.ldc2_w 89, 3) := by decide +kernel
theorem d_M_cosineOf_117 : decode b_M_cosineOf 117 = .ok (.lcmp, 1) := by decide +kernel
theorem d_M_cosineOf_118 : decode b_M_cosineOf 118 = .ok (.ifCond .ne 9, 3) := by decide +kernel
theorem d_M_cosineOf_121 : decode b_M_cosineOf 121 = .ok (.lload 14, 2) := by decide +kernel
theorem d_M_cosineOf_123 : decode b_M_cosineOf 123 = .ok (.lneg, 1) := by decide +kernel
theorem d_M_cosineOf_124 : decode b_M_cosineOf 124 = .ok (.goto 5, 3) := by decide +kernel
theorem d_M_cosineOf_127 : decode b_M_cosineOf 127 = .ok (.lload 14, 2) := by decide +kernel
theorem d_M_cosineOf_129 : decode b_M_cosineOf 129 = .ok (.lreturn, 1) := by decide +kernel
theorem d_M_cosine_0 : decode b_M_cosine 0 = .ok (.aload_n 0, 1) := by decide +kernel
theorem d_M_cosine_1 : decode b_M_cosine 1 = .ok (.lload_n 1, 1) := by decide +kernel
theorem d_M_cosine_2 : decode b_M_cosine 2 = .ok (.invokestatic 57, 3) := by decide +kernel
theorem d_M_cosine_5 : decode b_M_cosine 5 = .ok (.ifCond .eq 7, 3) := by decide +kernel
theorem d_M_cosine_8 : decode b_M_cosine 8 = .ok (.iconst 0, 1) := by decide +kernel
theorem d_M_cosine_9 : decode b_M_cosine 9 = .ok (.goto 4, 3) := by decide +kernel
theorem d_M_cosine_12 : decode b_M_cosine 12 = .ok (.iconst 1, 1) := by decide +kernel
theorem d_M_cosine_13 : decode b_M_cosine 13 = .ok (.putfield 43, 3) := by decide +kernel
theorem d_M_cosine_16 : decode b_M_cosine 16 = .ok (.aload_n 0, 1) := by decide +kernel
theorem d_M_cosine_17 : decode b_M_cosine 17 = .ok (.getfield 43, 3) := by decide +kernel
theorem d_M_cosine_20 : decode b_M_cosine 20 = .ok (.ifCond .ne 11, 3) := by decide +kernel
theorem d_M_cosine_23 : decode b_M_cosine 23 = .ok (.lload_n 1, 1) := by decide +kernel
theorem d_M_cosine_24 : decode b_M_cosine 24 = .ok (.invokestatic 99, 3) := by decide +kernel
theorem d_M_cosine_27 : decode b_M_cosine 27 = .ok (.l2i, 1) := by decide +kernel
theorem d_M_cosine_28 : decode b_M_cosine 28 = .ok (.goto 4, 3) := by decide +kernel
theorem d_M_cosine_31 : decode b_M_cosine 31 = .ok (.iconst 0, 1) := by decide +kernel
theorem d_M_cosine_32 : decode b_M_cosine 32 = .ok (.ireturn, 1) := by decide +kernel
theorem d_M_floor_0 : decode b_M_floor 0 = .ok (.lload_n 0, 1) := by decide +kernel
theorem d_M_floor_1 : decode b_M_floor 1 = .ok (.lload_n 2, 1) := by decide +kernel
theorem d_M_floor_2 : decode b_M_floor 2 = .ok (.ldiv, 1) := by decide +kernel
theorem d_M_floor_3 : decode b_M_floor 3 = .ok (.lstore 4, 2) := by decide +kernel
theorem d_M_floor_5 : decode b_M_floor 5 = .ok (.lload 4, 2) := by decide +kernel
theorem d_M_floor_7 : decode b_M_floor 7 = .ok (.lload_n 2, 1) := by decide +kernel
theorem d_M_floor_8 : decode b_M_floor 8 = .ok (.lmul, 1) := by decide +kernel
theorem d_M_floor_9 : decode b_M_floor 9 = .ok (.lload_n 0, 1) := by decide +kernel
theorem d_M_floor_10 : decode b_M_floor 10 = .ok (.lcmp, 1) := by decide +kernel
theorem d_M_floor_11 : decode b_M_floor 11 = .ok (.ifCond .le 10, 3) := by decide +kernel
theorem d_M_floor_14 : decode b_M_floor 14 = .ok (.lload 4, 2) := by decide +kernel
theorem d_M_floor_16 : decode b_M_floor 16 = .ok (.lconst 1, 1) := by decide +kernel
theorem d_M_floor_17 : decode b_M_floor 17 = .ok (.lsub, 1) := by decide +kernel
theorem d_M_floor_18 : decode b_M_floor 18 = .ok (.goto 5, 3) := by decide +kernel
theorem d_M_floor_21 : decode b_M_floor 21 = .ok (.lload 4, 2) := by decide +kernel
theorem d_M_floor_23 : decode b_M_floor 23 = .ok (.lreturn, 1) := by decide +kernel
theorem d_M_heightAt_0 : decode b_M_heightAt 0 = .ok (.aload_n 0, 1) := by decide +kernel
theorem d_M_heightAt_1 : decode b_M_heightAt 1 = .ok (.iload_n 1, 1) := by decide +kernel
theorem d_M_heightAt_2 : decode b_M_heightAt 2 = .ok (.sipush 1440, 3) := by decide +kernel
theorem d_M_heightAt_5 : decode b_M_heightAt 5 = .ok (.idiv, 1) := by decide +kernel
theorem d_M_heightAt_6 : decode b_M_heightAt 6 = .ok (.invokevirtual 76, 3) := by decide +kernel
theorem d_M_heightAt_9 : decode b_M_heightAt 9 = .ok (.istore_n 2, 1) := by decide +kernel
theorem d_M_heightAt_10 : decode b_M_heightAt 10 = .ok (.ldc2_w 103, 3) := by decide +kernel
theorem d_M_heightAt_13 : decode b_M_heightAt 13 = .ok (.lstore_n 3, 1) := by decide +kernel
theorem d_M_heightAt_14 : decode b_M_heightAt 14 = .ok (.iconst 0, 1) := by decide +kernel
theorem d_M_heightAt_15 : decode b_M_heightAt 15 = .ok (.istore 5, 2) := by decide +kernel
theorem d_M_heightAt_17 : decode b_M_heightAt 17 = .ok (.iload 5, 2) := by decide +kernel
theorem d_M_heightAt_19 : decode b_M_heightAt 19 = .ok (.bipush 8, 2) := by decide +kernel
theorem d_M_heightAt_21 : decode b_M_heightAt 21 = .ok (.if_icmp .ge 52, 3) := by decide +kernel
theorem d_M_heightAt_24 : decode b_M_heightAt 24 = .ok (.lload_n 3, 1) := by decide +kernel
theorem d_M_heightAt_25 : decode b_M_heightAt 25 = .ok (.aload_n 0, 1) := by decide +kernel
theorem d_M_heightAt_26 : decode b_M_heightAt 26 = .ok (.getfield 13, 3) := by decide +kernel
theorem d_M_heightAt_29 : decode b_M_heightAt 29 = .ok (.iload 5, 2) := by decide +kernel
theorem d_M_heightAt_31 : decode b_M_heightAt 31 = .ok (.iaload, 1) := by decide +kernel
theorem d_M_heightAt_32 : decode b_M_heightAt 32 = .ok (.i2l, 1) := by decide +kernel
theorem d_M_heightAt_33 : decode b_M_heightAt 33 = .ok (.aload_n 0, 1) := by decide +kernel
theorem d_M_heightAt_34 : decode b_M_heightAt 34 = .ok (.getfield 23, 3) := by decide +kernel
theorem d_M_heightAt_37 : decode b_M_heightAt 37 = .ok (.bipush 10, 2) := by decide +kernel
theorem d_M_heightAt_39 : decode b_M_heightAt 39 = .ok (.iload 5, 2) := by decide +kernel
theorem d_M_heightAt_41 : decode b_M_heightAt 41 = .ok (.imul, 1) := by decide +kernel
theorem d_M_heightAt_42 : decode b_M_heightAt 42 = .ok (.iload_n 2, 1) := by decide +kernel
theorem d_M_heightAt_43 : decode b_M_heightAt 43 = .ok (.iadd, 1) := by decide +kernel
theorem d_M_heightAt_44 : decode b_M_heightAt 44 = .ok (.iaload, 1) := by decide +kernel
theorem d_M_heightAt_45 : decode b_M_heightAt 45 = .ok (.i2l, 1) := by decide +kernel
theorem d_M_heightAt_46 : decode b_M_heightAt 46 = .ok (.lmul, 1) := by decide +kernel
theorem d_M_heightAt_47 : decode b_M_heightAt 47 = .ok (.aload_n 0, 1) := by decide +kernel
theorem d_M_heightAt_48 : decode b_M_heightAt 48 = .ok (.iload 5, 2) := by decide +kernel
theorem d_M_heightAt_50 : decode b_M_heightAt 50 = .ok (.iload_n 1, 1) := by decide +kernel
theorem d_M_heightAt_51 : decode b_M_heightAt 51 = .ok (.iload_n 2, 1) := by decide +kernel
theorem d_M_heightAt_52 : decode b_M_heightAt 52 = .ok (.invokevirtual 79, 3) := by decide +kernel
theorem d_M_heightAt_55 : decode b_M_heightAt 55 = .ok (.invokestatic 99, 3) := by decide +kernel
theorem d_M_heightAt_58 : decode b_M_heightAt 58 = .ok (.lmul, 1) := by decide +kernel
theorem d_M_heightAt_59 : decode b_M_heightAt 59 = .ok (.ldc2_w 85, 3) := by decide +kernel
theorem d_M_heightAt_62 : decode b_M_heightAt 62 = .ok (.invokestatic 105, 3) := by decide +kernel
theorem d_M_heightAt_65 : decode b_M_heightAt 65 = .ok (.ladd, 1) := by decide +kernel
theorem d_M_heightAt_66 : decode b_M_heightAt 66 = .ok (.lstore_n 3, 1) := by decide +kernel
theorem d_M_heightAt_67 : decode b_M_heightAt 67 = .ok (.iinc 5 1, 3) := by decide +kernel
theorem d_M_heightAt_70 : decode b_M_heightAt 70 = .ok (.goto (-53), 3) := by decide +kernel
theorem d_M_heightAt_73 : decode b_M_heightAt 73 = .ok (.lload_n 3, 1) := by decide +kernel
theorem d_M_heightAt_74 : decode b_M_heightAt 74 = .ok (.ldc2_w 87, 3) := by decide +kernel
theorem d_M_heightAt_77 : decode b_M_heightAt 77 = .ok (.invokestatic 105, 3) := by decide +kernel
theorem d_M_heightAt_80 : decode b_M_heightAt 80 = .ok (.l2i, 1) := by decide +kernel
theorem d_M_heightAt_81 : decode b_M_heightAt 81 = .ok (.aload_n 0, 1) := by decide +kernel
theorem d_M_heightAt_82 : decode b_M_heightAt 82 = .ok (.getfield 51, 3) := by decide +kernel
theorem d_M_heightAt_85 : decode b_M_heightAt 85 = .ok (.iadd, 1) := by decide +kernel
theorem d_M_heightAt_86 : decode b_M_heightAt 86 = .ok (.ireturn, 1) := by decide +kernel
theorem d_M_height_0 : decode b_M_height 0 = .ok (.aload_n 0, 1) := by decide +kernel
theorem d_M_height_1 : decode b_M_height 1 = .ok (.aload_n 0, 1) := by decide +kernel
theorem d_M_height_2 : decode b_M_height 2 = .ok (.iload_n 1, 1) := by decide +kernel
theorem d_M_height_3 : decode b_M_height 3 = .ok (.invokevirtual 73, 3) := by decide +kernel
theorem d_M_height_6 : decode b_M_height 6 = .ok (.ifCond .eq 7, 3) := by decide +kernel
theorem d_M_height_9 : decode b_M_height 9 = .ok (.iconst 0, 1) := by decide +kernel
theorem d_M_height_10 : decode b_M_height 10 = .ok (.goto 4, 3) := by decide +kernel
theorem d_M_height_13 : decode b_M_height 13 = .ok (.iconst 1, 1) := by decide +kernel
theorem d_M_height_14 : decode b_M_height 14 = .ok (.putfield 43, 3) := by decide +kernel
theorem d_M_height_17 : decode b_M_height 17 = .ok (.aload_n 0, 1) := by decide +kernel
theorem d_M_height_18 : decode b_M_height 18 = .ok (.getfield 43, 3) := by decide +kernel
theorem d_M_height_21 : decode b_M_height 21 = .ok (.ifCond .ne 11, 3) := by decide +kernel
theorem d_M_height_24 : decode b_M_height 24 = .ok (.aload_n 0, 1) := by decide +kernel
theorem d_M_height_25 : decode b_M_height 25 = .ok (.iload_n 1, 1) := by decide +kernel
theorem d_M_height_26 : decode b_M_height 26 = .ok (.invokevirtual 109, 3) := by decide +kernel
theorem d_M_height_29 : decode b_M_height 29 = .ok (.goto 4, 3) := by decide +kernel
theorem d_M_height_32 : decode b_M_height 32 = .ok (.iconst 0, 1) := by decide +kernel
theorem d_M_height_33 : decode b_M_height 33 = .ok (.ireturn, 1) := by decide +kernel
theorem d_M_mean_0 : decode b_M_mean 0 = .ok (.aload_n 0, 1) := by decide +kernel
theorem d_M_mean_1 : decode b_M_mean 1 = .ok (.iload_n 2, 1) := by decide +kernel
theorem d_M_mean_2 : decode b_M_mean 2 = .ok (.iconst 1, 1) := by decide +kernel
theorem d_M_mean_3 : decode b_M_mean 3 = .ok (.if_icmp .lt 10, 3) := by decide +kernel
theorem d_M_mean_6 : decode b_M_mean 6 = .ok (.iload_n 2, 1) := by decide +kernel
theorem d_M_mean_7 : decode b_M_mean 7 = .ok (.sipush 2000, 3) := by decide +kernel
theorem d_M_mean_10 : decode b_M_mean 10 = .ok (.if_icmp .le 7, 3) := by decide +kernel
theorem d_M_mean_13 : decode b_M_mean 13 = .ok (.iconst 1, 1) := by decide +kernel
theorem d_M_mean_14 : decode b_M_mean 14 = .ok (.goto 28, 3) := by decide +kernel
theorem d_M_mean_17 : decode b_M_mean 17 = .ok (.aload_n 0, 1) := by decide +kernel
theorem d_M_mean_18 : decode b_M_mean 18 = .ok (.iload_n 1, 1) := by decide +kernel
theorem d_M_mean_19 : decode b_M_mean 19 = .ok (.invokevirtual 73, 3) := by decide +kernel
theorem d_M_mean_22 : decode b_M_mean 22 = .ok (.ifCond .eq 15, 3) := by decide +kernel
theorem d_M_mean_25 : decode b_M_mean 25 = .ok (.aload_n 0, 1) := by decide +kernel
theorem d_M_mean_26 : decode b_M_mean 26 = .ok (.iload_n 1, 1) := by decide +kernel
theorem d_M_mean_27 : decode b_M_mean 27 = .ok (.iload_n 2, 1) := by decide +kernel
theorem d_M_mean_28 : decode b_M_mean 28 = .ok (.iadd, 1) := by decide +kernel
theorem d_M_mean_29 : decode b_M_mean 29 = .ok (.iconst 1, 1) := by decide +kernel
theorem d_M_mean_30 : decode b_M_mean 30 = .ok (.isub, 1) := by decide +kernel
theorem d_M_mean_31 : decode b_M_mean 31 = .ok (.invokevirtual 73, 3) := by decide +kernel
theorem d_M_mean_34 : decode b_M_mean 34 = .ok (.ifCond .ne 7, 3) := by decide +kernel
theorem d_M_mean_37 : decode b_M_mean 37 = .ok (.iconst 2, 1) := by decide +kernel
theorem d_M_mean_38 : decode b_M_mean 38 = .ok (.goto 4, 3) := by decide +kernel
theorem d_M_mean_41 : decode b_M_mean 41 = .ok (.iconst 0, 1) := by decide +kernel
theorem d_M_mean_42 : decode b_M_mean 42 = .ok (.putfield 43, 3) := by decide +kernel
theorem d_M_mean_45 : decode b_M_mean 45 = .ok (.aload_n 0, 1) := by decide +kernel
theorem d_M_mean_46 : decode b_M_mean 46 = .ok (.getfield 43, 3) := by decide +kernel
theorem d_M_mean_49 : decode b_M_mean 49 = .ok (.ifCond .eq 5, 3) := by decide +kernel
theorem d_M_mean_52 : decode b_M_mean 52 = .ok (.iconst 0, 1) := by decide +kernel
theorem d_M_mean_53 : decode b_M_mean 53 = .ok (.ireturn, 1) := by decide +kernel
theorem d_M_mean_54 : decode b_M_mean 54 = .ok (.lconst 0, 1) := by decide +kernel
theorem d_M_mean_55 : decode b_M_mean 55 = .ok (.lstore_n 3, 1) := by decide +kernel
theorem d_M_mean_56 : decode b_M_mean 56 = .ok (.iconst 0, 1) := by decide +kernel
theorem d_M_mean_57 : decode b_M_mean 57 = .ok (.istore 5, 2) := by decide +kernel
theorem d_M_mean_59 : decode b_M_mean 59 = .ok (.iload 5, 2) := by decide +kernel
theorem d_M_mean_61 : decode b_M_mean 61 = .ok (.iload_n 2, 1) := by decide +kernel
theorem d_M_mean_62 : decode b_M_mean 62 = .ok (.if_icmp .ge 21, 3) := by decide +kernel
theorem d_M_mean_65 : decode b_M_mean 65 = .ok (.lload_n 3, 1) := by decide +kernel
theorem d_M_mean_66 : decode b_M_mean 66 = .ok (.aload_n 0, 1) := by decide +kernel
theorem d_M_mean_67 : decode b_M_mean 67 = .ok (.iload_n 1, 1) := by decide +kernel
theorem d_M_mean_68 : decode b_M_mean 68 = .ok (.iload 5, 2) := by decide +kernel
theorem d_M_mean_70 : decode b_M_mean 70 = .ok (.iadd, 1) := by decide +kernel
theorem d_M_mean_71 : decode b_M_mean 71 = .ok (.invokevirtual 109, 3) := by decide +kernel
theorem d_M_mean_74 : decode b_M_mean 74 = .ok (.i2l, 1) := by decide +kernel
theorem d_M_mean_75 : decode b_M_mean 75 = .ok (.ladd, 1) := by decide +kernel
theorem d_M_mean_76 : decode b_M_mean 76 = .ok (.lstore_n 3, 1) := by decide +kernel
theorem d_M_mean_77 : decode b_M_mean 77 = .ok (.iinc 5 1, 3) := by decide +kernel
theorem d_M_mean_80 : decode b_M_mean 80 = .ok (.goto (-21), 3) := by decide +kernel
theorem d_M_mean_83 : decode b_M_mean 83 = .ok (.lload_n 3, 1) := by decide +kernel
theorem d_M_mean_84 : decode b_M_mean 84 = .ok (.iload_n 2, 1) := by decide +kernel
theorem d_M_mean_85 : decode b_M_mean 85 = .ok (.i2l, 1) := by decide +kernel
theorem d_M_mean_86 : decode b_M_mean 86 = .ok (.invokestatic 105, 3) := by decide +kernel
theorem d_M_mean_89 : decode b_M_mean 89 = .ok (.l2i, 1) := by decide +kernel
theorem d_M_mean_90 : decode b_M_mean 90 = .ok (.ireturn, 1) := by decide +kernel
theorem d_M_look_0 : decode b_M_look 0 = .ok (.iconst 0, 1) := by decide +kernel
theorem d_M_look_1 : decode b_M_look 1 = .ok (.istore_n 2, 1) := by decide +kernel
theorem d_M_look_2 : decode b_M_look 2 = .ok (.iload_n 2, 1) := by decide +kernel
theorem d_M_look_3 : decode b_M_look 3 = .ok (.sipush 1440, 3) := by decide +kernel
theorem d_M_look_6 : decode b_M_look 6 = .ok (.if_icmp .ge 26, 3) := by decide +kernel
theorem d_M_look_9 : decode b_M_look 9 = .ok (.aload_n 0, 1) := by decide +kernel
theorem d_M_look_10 : decode b_M_look 10 = .ok (.getfield 29, 3) := by decide +kernel
theorem d_M_look_13 : decode b_M_look 13 = .ok (.iload_n 2, 1) := by decide +kernel
theorem d_M_look_14 : decode b_M_look 14 = .ok (.aload_n 0, 1) := by decide +kernel
theorem d_M_look_15 : decode b_M_look 15 = .ok (.sipush 1440, 3) := by decide +kernel
theorem d_M_look_18 : decode b_M_look 18 = .ok (.iload_n 1, 1) := by decide +kernel
theorem d_M_look_19 : decode b_M_look 19 = .ok (.imul, 1) := by decide +kernel
theorem d_M_look_20 : decode b_M_look 20 = .ok (.iload_n 2, 1) := by decide +kernel
theorem d_M_look_21 : decode b_M_look 21 = .ok (.iadd, 1) := by decide +kernel
theorem d_M_look_22 : decode b_M_look 22 = .ok (.invokevirtual 109, 3) := by decide +kernel
theorem d_M_look_25 : decode b_M_look 25 = .ok (.iastore, 1) := by decide +kernel
theorem d_M_look_26 : decode b_M_look 26 = .ok (.iinc 2 1, 3) := by decide +kernel
theorem d_M_look_29 : decode b_M_look 29 = .ok (.goto (-27), 3) := by decide +kernel
theorem d_M_look_32 : decode b_M_look 32 = .ok (.aload_n 0, 1) := by decide +kernel
theorem d_M_look_33 : decode b_M_look 33 = .ok (.iconst 0, 1) := by decide +kernel
theorem d_M_look_34 : decode b_M_look 34 = .ok (.putfield 112, 3) := by decide +kernel
theorem d_M_look_37 : decode b_M_look 37 = .ok (.iconst 1, 1) := by decide +kernel
theorem d_M_look_38 : decode b_M_look 38 = .ok (.istore_n 2, 1) := by decide +kernel
theorem d_M_look_39 : decode b_M_look 39 = .ok (.iload_n 2, 1) := by decide +kernel
theorem d_M_look_40 : decode b_M_look 40 = .ok (.sipush 1440, 3) := by decide +kernel
theorem d_M_look_43 : decode b_M_look 43 = .ok (.if_icmp .ge 188, 3) := by decide +kernel
theorem d_M_look_46 : decode b_M_look 46 = .ok (.iload_n 2, 1) := by decide +kernel
theorem d_M_look_47 : decode b_M_look 47 = .ok (.iconst 1, 1) := by decide +kernel
theorem d_M_look_48 : decode b_M_look 48 = .ok (.iadd, 1) := by decide +kernel
theorem d_M_look_49 : decode b_M_look 49 = .ok (.istore_n 3, 1) := by decide +kernel
theorem d_M_look_50 : decode b_M_look 50 = .ok (.iload_n 3, 1) := by decide +kernel
theorem d_M_look_51 : decode b_M_look 51 = .ok (.sipush 1440, 3) := by decide +kernel
theorem d_M_look_54 : decode b_M_look 54 = .ok (.if_icmp .ge 41, 3) := by decide +kernel
theorem d_M_look_57 : decode b_M_look 57 = .ok (.aload_n 0, 1) := by decide +kernel
theorem d_M_look_58 : decode b_M_look 58 = .ok (.getfield 29, 3) := by decide +kernel
theorem d_M_look_61 : decode b_M_look 61 = .ok (.iload_n 2, 1) := by decide +kernel
theorem d_M_look_62 : decode b_M_look 62 = .ok (.iconst 1, 1) := by decide +kernel
theorem d_M_look_63 : decode b_M_look 63 = .ok (.isub, 1) := by decide +kernel
theorem d_M_look_64 : decode b_M_look 64 = .ok (.iaload, 1) := by decide +kernel
theorem d_M_look_65 : decode b_M_look 65 = .ok (.aload_n 0, 1) := by decide +kernel
theorem d_M_look_66 : decode b_M_look 66 = .ok (.getfield 29, 3) := by decide +kernel
theorem d_M_look_69 : decode b_M_look 69 = .ok (.iload_n 2, 1) := by decide +kernel
theorem d_M_look_70 : decode b_M_look 70 = .ok (.iaload, 1) := by decide +kernel
theorem d_M_look_71 : decode b_M_look 71 = .ok (.if_icmp .eq 24, 3) := by decide +kernel
theorem d_M_look_74 : decode b_M_look 74 = .ok (.aload_n 0, 1) := by decide +kernel
theorem d_M_look_75 : decode b_M_look 75 = .ok (.getfield 29, 3) := by decide +kernel
theorem d_M_look_78 : decode b_M_look 78 = .ok (.iload_n 3, 1) := by decide +kernel
theorem d_M_look_79 : decode b_M_look 79 = .ok (.iaload, 1) := by decide +kernel
theorem d_M_look_80 : decode b_M_look 80 = .ok (.aload_n 0, 1) := by decide +kernel
theorem d_M_look_81 : decode b_M_look 81 = .ok (.getfield 29, 3) := by decide +kernel
theorem d_M_look_84 : decode b_M_look 84 = .ok (.iload_n 2, 1) := by decide +kernel
theorem d_M_look_85 : decode b_M_look 85 = .ok (.iaload, 1) := by decide +kernel
theorem d_M_look_86 : decode b_M_look 86 = .ok (.if_icmp .ne 9, 3) := by decide +kernel
theorem d_M_look_89 : decode b_M_look 89 = .ok (.iinc 3 1, 3) := by decide +kernel
theorem d_M_look_92 : decode b_M_look 92 = .ok (.goto (-42), 3) := by decide +kernel
theorem d_M_look_95 : decode b_M_look 95 = .ok (.aload_n 0, 1) := by decide +kernel
theorem d_M_look_96 : decode b_M_look 96 = .ok (.getfield 29, 3) := by decide +kernel
theorem d_M_look_99 : decode b_M_look 99 = .ok (.iload_n 2, 1) := by decide +kernel
theorem d_M_look_100 : decode b_M_look 100 = .ok (.iconst 1, 1) := by decide +kernel
theorem d_M_look_101 : decode b_M_look 101 = .ok (.isub, 1) := by decide +kernel
theorem d_M_look_102 : decode b_M_look 102 = .ok (.iaload, 1) := by decide +kernel
theorem d_M_look_103 : decode b_M_look 103 = .ok (.aload_n 0, 1) := by decide +kernel
theorem d_M_look_104 : decode b_M_look 104 = .ok (.getfield 29, 3) := by decide +kernel
theorem d_M_look_107 : decode b_M_look 107 = .ok (.iload_n 2, 1) := by decide +kernel
theorem d_M_look_108 : decode b_M_look 108 = .ok (.iaload, 1) := by decide +kernel
theorem d_M_look_109 : decode b_M_look 109 = .ok (.if_icmp .eq 14, 3) := by decide +kernel
theorem d_M_look_112 : decode b_M_look 112 = .ok (.iload_n 3, 1) := by decide +kernel
theorem d_M_look_113 : decode b_M_look 113 = .ok (.sipush 1440, 3) := by decide +kernel
theorem d_M_look_116 : decode b_M_look 116 = .ok (.if_icmp .ge 7, 3) := by decide +kernel
theorem d_M_look_119 : decode b_M_look 119 = .ok (.iconst 1, 1) := by decide +kernel
theorem d_M_look_120 : decode b_M_look 120 = .ok (.goto 4, 3) := by decide +kernel
theorem d_M_look_123 : decode b_M_look 123 = .ok (.iconst 0, 1) := by decide +kernel
theorem d_M_look_124 : decode b_M_look 124 = .ok (.istore 4, 2) := by decide +kernel
theorem d_M_look_126 : decode b_M_look 126 = .ok (.iload 4, 2) := by decide +kernel
theorem d_M_look_128 : decode b_M_look 128 = .ok (.ifCond .eq 97, 3) := by decide +kernel
theorem d_M_look_131 : decode b_M_look 131 = .ok (.aload_n 0, 1) := by decide +kernel
theorem d_M_look_132 : decode b_M_look 132 = .ok (.getfield 29, 3) := by decide +kernel
theorem d_M_look_135 : decode b_M_look 135 = .ok (.iload_n 2, 1) := by decide +kernel
theorem d_M_look_136 : decode b_M_look 136 = .ok (.iconst 1, 1) := by decide +kernel
theorem d_M_look_137 : decode b_M_look 137 = .ok (.isub, 1) := by decide +kernel
theorem d_M_look_138 : decode b_M_look 138 = .ok (.iaload, 1) := by decide +kernel
theorem d_M_look_139 : decode b_M_look 139 = .ok (.aload_n 0, 1) := by decide +kernel
theorem d_M_look_140 : decode b_M_look 140 = .ok (.getfield 29, 3) := by decide +kernel
theorem d_M_look_143 : decode b_M_look 143 = .ok (.iload_n 2, 1) := by decide +kernel
theorem d_M_look_144 : decode b_M_look 144 = .ok (.iaload, 1) := by decide +kernel
theorem d_M_look_145 : decode b_M_look 145 = .ok (.if_icmp .ge 7, 3) := by decide +kernel
theorem d_M_look_148 : decode b_M_look 148 = .ok (.iconst 1, 1) := by decide +kernel
theorem d_M_look_149 : decode b_M_look 149 = .ok (.goto 4, 3) := by decide +kernel
theorem d_M_look_152 : decode b_M_look 152 = .ok (.iconst 0, 1) := by decide +kernel
theorem d_M_look_153 : decode b_M_look 153 = .ok (.aload_n 0, 1) := by decide +kernel
theorem d_M_look_154 : decode b_M_look 154 = .ok (.getfield 29, 3) := by decide +kernel
theorem d_M_look_157 : decode b_M_look 157 = .ok (.iload_n 3, 1) := by decide +kernel
theorem d_M_look_158 : decode b_M_look 158 = .ok (.iaload, 1) := by decide +kernel
theorem d_M_look_159 : decode b_M_look 159 = .ok (.aload_n 0, 1) := by decide +kernel
theorem d_M_look_160 : decode b_M_look 160 = .ok (.getfield 29, 3) := by decide +kernel
theorem d_M_look_163 : decode b_M_look 163 = .ok (.iload_n 2, 1) := by decide +kernel
theorem d_M_look_164 : decode b_M_look 164 = .ok (.iaload, 1) := by decide +kernel
theorem d_M_look_165 : decode b_M_look 165 = .ok (.if_icmp .ge 7, 3) := by decide +kernel
theorem d_M_look_168 : decode b_M_look 168 = .ok (.iconst 1, 1) := by decide +kernel
theorem d_M_look_169 : decode b_M_look 169 = .ok (.goto 4, 3) := by decide +kernel
theorem d_M_look_172 : decode b_M_look 172 = .ok (.iconst 0, 1) := by decide +kernel
theorem d_M_look_173 : decode b_M_look 173 = .ok (.if_icmp .ne 52, 3) := by decide +kernel
theorem d_M_look_176 : decode b_M_look 176 = .ok (.aload_n 0, 1) := by decide +kernel
theorem d_M_look_177 : decode b_M_look 177 = .ok (.getfield 32, 3) := by decide +kernel
theorem d_M_look_180 : decode b_M_look 180 = .ok (.aload_n 0, 1) := by decide +kernel
theorem d_M_look_181 : decode b_M_look 181 = .ok (.getfield 112, 3) := by decide +kernel
theorem d_M_look_184 : decode b_M_look 184 = .ok (.iload_n 2, 1) := by decide +kernel
theorem d_M_look_185 : decode b_M_look 185 = .ok (.iastore, 1) := by decide +kernel
theorem d_M_look_186 : decode b_M_look 186 = .ok (.aload_n 0, 1) := by decide +kernel
theorem d_M_look_187 : decode b_M_look 187 = .ok (.getfield 35, 3) := by decide +kernel
theorem d_M_look_190 : decode b_M_look 190 = .ok (.aload_n 0, 1) := by decide +kernel
theorem d_M_look_191 : decode b_M_look 191 = .ok (.getfield 112, 3) := by decide +kernel
theorem d_M_look_194 : decode b_M_look 194 = .ok (.aload_n 0, 1) := by decide +kernel
theorem d_M_look_195 : decode b_M_look 195 = .ok (.getfield 29, 3) := by decide +kernel
theorem d_M_look_198 : decode b_M_look 198 = .ok (.iload_n 3, 1) := by decide +kernel
theorem d_M_look_199 : decode b_M_look 199 = .ok (.iaload, 1) := by decide +kernel
theorem d_M_look_200 : decode b_M_look 200 = .ok (.aload_n 0, 1) := by decide +kernel
theorem d_M_look_201 : decode b_M_look 201 = .ok (.getfield 29, 3) := by decide +kernel
theorem d_M_look_204 : decode b_M_look 204 = .ok (.iload_n 2, 1) := by decide +kernel
theorem d_M_look_205 : decode b_M_look 205 = .ok (.iaload, 1) := by decide +kernel
theorem d_M_look_206 : decode b_M_look 206 = .ok (.if_icmp .ge 7, 3) := by decide +kernel
theorem d_M_look_209 : decode b_M_look 209 = .ok (.iconst 1, 1) := by decide +kernel
theorem d_M_look_210 : decode b_M_look 210 = .ok (.goto 4, 3) := by decide +kernel
theorem d_M_look_213 : decode b_M_look 213 = .ok (.iconst 0, 1) := by decide +kernel
theorem d_M_look_214 : decode b_M_look 214 = .ok (.bastore, 1) := by decide +kernel
theorem d_M_look_215 : decode b_M_look 215 = .ok (.aload_n 0, 1) := by decide +kernel
theorem d_M_look_216 : decode b_M_look 216 = .ok (.dup, 1) := by decide +kernel
theorem d_M_look_217 : decode b_M_look 217 = .ok (.getfield 112, 3) := by decide +kernel
theorem d_M_look_220 : decode b_M_look 220 = .ok (.iconst 1, 1) := by decide +kernel
theorem d_M_look_221 : decode b_M_look 221 = .ok (.iadd, 1) := by decide +kernel
theorem d_M_look_222 : decode b_M_look 222 = .ok (.putfield 112, 3) := by decide +kernel
theorem d_M_look_225 : decode b_M_look 225 = .ok (.iinc 2 1, 3) := by decide +kernel
theorem d_M_look_228 : decode b_M_look 228 = .ok (.goto (-189), 3) := by decide +kernel
theorem d_M_look_231 : decode b_M_look 231 = .ok (.return_, 1) := by decide +kernel
theorem d_M_extremes_0 : decode b_M_extremes 0 = .ok (.aload_n 0, 1) := by decide +kernel
theorem d_M_extremes_1 : decode b_M_extremes 1 = .ok (.aload_n 0, 1) := by decide +kernel
theorem d_M_extremes_2 : decode b_M_extremes 2 = .ok (.iload_n 1, 1) := by decide +kernel
theorem d_M_extremes_3 : decode b_M_extremes 3 = .ok (.invokevirtual 115, 3) := by decide +kernel
theorem d_M_extremes_6 : decode b_M_extremes 6 = .ok (.ifCond .eq 7, 3) := by decide +kernel
theorem d_M_extremes_9 : decode b_M_extremes 9 = .ok (.iconst 0, 1) := by decide +kernel
theorem d_M_extremes_10 : decode b_M_extremes 10 = .ok (.goto 4, 3) := by decide +kernel
theorem d_M_extremes_13 : decode b_M_extremes 13 = .ok (.iconst 1, 1) := by decide +kernel
theorem d_M_extremes_14 : decode b_M_extremes 14 = .ok (.putfield 43, 3) := by decide +kernel
theorem d_M_extremes_17 : decode b_M_extremes 17 = .ok (.aload_n 0, 1) := by decide +kernel
theorem d_M_extremes_18 : decode b_M_extremes 18 = .ok (.getfield 43, 3) := by decide +kernel
theorem d_M_extremes_21 : decode b_M_extremes 21 = .ok (.ifCond .eq 5, 3) := by decide +kernel
theorem d_M_extremes_24 : decode b_M_extremes 24 = .ok (.iconst 0, 1) := by decide +kernel
theorem d_M_extremes_25 : decode b_M_extremes 25 = .ok (.ireturn, 1) := by decide +kernel
theorem d_M_extremes_26 : decode b_M_extremes 26 = .ok (.aload_n 0, 1) := by decide +kernel
theorem d_M_extremes_27 : decode b_M_extremes 27 = .ok (.iload_n 1, 1) := by decide +kernel
theorem d_M_extremes_28 : decode b_M_extremes 28 = .ok (.invokevirtual 118, 3) := by decide +kernel
theorem d_M_extremes_31 : decode b_M_extremes 31 = .ok (.aload_n 0, 1) := by decide +kernel
theorem d_M_extremes_32 : decode b_M_extremes 32 = .ok (.getfield 112, 3) := by decide +kernel
theorem d_M_extremes_35 : decode b_M_extremes 35 = .ok (.ireturn, 1) := by decide +kernel
theorem d_M_isExtreme_0 : decode b_M_isExtreme 0 = .ok (.aload_n 0, 1) := by decide +kernel
theorem d_M_isExtreme_1 : decode b_M_isExtreme 1 = .ok (.iload_n 1, 1) := by decide +kernel
theorem d_M_isExtreme_2 : decode b_M_isExtreme 2 = .ok (.invokevirtual 115, 3) := by decide +kernel
theorem d_M_isExtreme_5 : decode b_M_isExtreme 5 = .ok (.ifCond .ne 5, 3) := by decide +kernel
theorem d_M_isExtreme_8 : decode b_M_isExtreme 8 = .ok (.iconst 0, 1) := by decide +kernel
theorem d_M_isExtreme_9 : decode b_M_isExtreme 9 = .ok (.ireturn, 1) := by decide +kernel
theorem d_M_isExtreme_10 : decode b_M_isExtreme 10 = .ok (.aload_n 0, 1) := by decide +kernel
theorem d_M_isExtreme_11 : decode b_M_isExtreme 11 = .ok (.iload_n 1, 1) := by decide +kernel
theorem d_M_isExtreme_12 : decode b_M_isExtreme 12 = .ok (.invokevirtual 118, 3) := by decide +kernel
theorem d_M_isExtreme_15 : decode b_M_isExtreme 15 = .ok (.iload_n 2, 1) := by decide +kernel
theorem d_M_isExtreme_16 : decode b_M_isExtreme 16 = .ok (.ifCond .lt 15, 3) := by decide +kernel
theorem d_M_isExtreme_19 : decode b_M_isExtreme 19 = .ok (.iload_n 2, 1) := by decide +kernel
theorem d_M_isExtreme_20 : decode b_M_isExtreme 20 = .ok (.aload_n 0, 1) := by decide +kernel
theorem d_M_isExtreme_21 : decode b_M_isExtreme 21 = .ok (.getfield 112, 3) := by decide +kernel
theorem d_M_isExtreme_24 : decode b_M_isExtreme 24 = .ok (.if_icmp .ge 7, 3) := by decide +kernel
theorem d_M_isExtreme_27 : decode b_M_isExtreme 27 = .ok (.iconst 1, 1) := by decide +kernel
theorem d_M_isExtreme_28 : decode b_M_isExtreme 28 = .ok (.goto 4, 3) := by decide +kernel
theorem d_M_isExtreme_31 : decode b_M_isExtreme 31 = .ok (.iconst 0, 1) := by decide +kernel
theorem d_M_isExtreme_32 : decode b_M_isExtreme 32 = .ok (.ireturn, 1) := by decide +kernel
theorem d_M_extreme_0 : decode b_M_extreme 0 = .ok (.aload_n 0, 1) := by decide +kernel
theorem d_M_extreme_1 : decode b_M_extreme 1 = .ok (.aload_n 0, 1) := by decide +kernel
theorem d_M_extreme_2 : decode b_M_extreme 2 = .ok (.iload_n 1, 1) := by decide +kernel
theorem d_M_extreme_3 : decode b_M_extreme 3 = .ok (.iload_n 2, 1) := by decide +kernel
theorem d_M_extreme_4 : decode b_M_extreme 4 = .ok (.invokevirtual 122, 3) := by decide +kernel
theorem d_M_extreme_7 : decode b_M_extreme 7 = .ok (.ifCond .ne 7, 3) := by decide +kernel
theorem d_M_extreme_10 : decode b_M_extreme 10 = .ok (.iconst 1, 1) := by decide +kernel
theorem d_M_extreme_11 : decode b_M_extreme 11 = .ok (.goto 17, 3) := by decide +kernel
theorem d_M_extreme_14 : decode b_M_extreme 14 = .ok (.iload_n 3, 1) := by decide +kernel
theorem d_M_extreme_15 : decode b_M_extreme 15 = .ok (.ifCond .lt 8, 3) := by decide +kernel
theorem d_M_extreme_18 : decode b_M_extreme 18 = .ok (.iload_n 3, 1) := by decide +kernel
theorem d_M_extreme_19 : decode b_M_extreme 19 = .ok (.iconst 2, 1) := by decide +kernel
theorem d_M_extreme_20 : decode b_M_extreme 20 = .ok (.if_icmp .le 7, 3) := by decide +kernel
theorem d_M_extreme_23 : decode b_M_extreme 23 = .ok (.iconst 2, 1) := by decide +kernel
theorem d_M_extreme_24 : decode b_M_extreme 24 = .ok (.goto 4, 3) := by decide +kernel
theorem d_M_extreme_27 : decode b_M_extreme 27 = .ok (.iconst 0, 1) := by decide +kernel
theorem d_M_extreme_28 : decode b_M_extreme 28 = .ok (.putfield 43, 3) := by decide +kernel
theorem d_M_extreme_31 : decode b_M_extreme 31 = .ok (.aload_n 0, 1) := by decide +kernel
theorem d_M_extreme_32 : decode b_M_extreme 32 = .ok (.getfield 43, 3) := by decide +kernel
theorem d_M_extreme_35 : decode b_M_extreme 35 = .ok (.ifCond .eq 5, 3) := by decide +kernel
theorem d_M_extreme_38 : decode b_M_extreme 38 = .ok (.iconst 0, 1) := by decide +kernel
theorem d_M_extreme_39 : decode b_M_extreme 39 = .ok (.ireturn, 1) := by decide +kernel
theorem d_M_extreme_40 : decode b_M_extreme 40 = .ok (.iload_n 3, 1) := by decide +kernel
theorem d_M_extreme_41 : decode b_M_extreme 41 = .ok (.ifCond .ne 18, 3) := by decide +kernel
theorem d_M_extreme_44 : decode b_M_extreme 44 = .ok (.sipush 1440, 3) := by decide +kernel
theorem d_M_extreme_47 : decode b_M_extreme 47 = .ok (.iload_n 1, 1) := by decide +kernel
theorem d_M_extreme_48 : decode b_M_extreme 48 = .ok (.imul, 1) := by decide +kernel
theorem d_M_extreme_49 : decode b_M_extreme 49 = .ok (.aload_n 0, 1) := by decide +kernel
theorem d_M_extreme_50 : decode b_M_extreme 50 = .ok (.getfield 32, 3) := by decide +kernel
theorem d_M_extreme_53 : decode b_M_extreme 53 = .ok (.iload_n 2, 1) := by decide +kernel
theorem d_M_extreme_54 : decode b_M_extreme 54 = .ok (.iaload, 1) := by decide +kernel
theorem d_M_extreme_55 : decode b_M_extreme 55 = .ok (.iadd, 1) := by decide +kernel
theorem d_M_extreme_56 : decode b_M_extreme 56 = .ok (.goto 36, 3) := by decide +kernel
theorem d_M_extreme_59 : decode b_M_extreme 59 = .ok (.iload_n 3, 1) := by decide +kernel
theorem d_M_extreme_60 : decode b_M_extreme 60 = .ok (.iconst 1, 1) := by decide +kernel
theorem d_M_extreme_61 : decode b_M_extreme 61 = .ok (.if_icmp .ne 17, 3) := by decide +kernel
theorem d_M_extreme_64 : decode b_M_extreme 64 = .ok (.aload_n 0, 1) := by decide +kernel
theorem d_M_extreme_65 : decode b_M_extreme 65 = .ok (.getfield 29, 3) := by decide +kernel
theorem d_M_extreme_68 : decode b_M_extreme 68 = .ok (.aload_n 0, 1) := by decide +kernel
theorem d_M_extreme_69 : decode b_M_extreme 69 = .ok (.getfield 32, 3) := by decide +kernel
theorem d_M_extreme_72 : decode b_M_extreme 72 = .ok (.iload_n 2, 1) := by decide +kernel
theorem d_M_extreme_73 : decode b_M_extreme 73 = .ok (.iaload, 1) := by decide +kernel
theorem d_M_extreme_74 : decode b_M_extreme 74 = .ok (.iaload, 1) := by decide +kernel
theorem d_M_extreme_75 : decode b_M_extreme 75 = .ok (.goto 17, 3) := by decide +kernel
theorem d_M_extreme_78 : decode b_M_extreme 78 = .ok (.aload_n 0, 1) := by decide +kernel
theorem d_M_extreme_79 : decode b_M_extreme 79 = .ok (.getfield 35, 3) := by decide +kernel
theorem d_M_extreme_82 : decode b_M_extreme 82 = .ok (.iload_n 2, 1) := by decide +kernel
theorem d_M_extreme_83 : decode b_M_extreme 83 = .ok (.baload, 1) := by decide +kernel
theorem d_M_extreme_84 : decode b_M_extreme 84 = .ok (.ifCond .eq 7, 3) := by decide +kernel
theorem d_M_extreme_87 : decode b_M_extreme 87 = .ok (.iconst 1, 1) := by decide +kernel
theorem d_M_extreme_88 : decode b_M_extreme 88 = .ok (.goto 4, 3) := by decide +kernel
theorem d_M_extreme_91 : decode b_M_extreme 91 = .ok (.iconst 0, 1) := by decide +kernel
theorem d_M_extreme_92 : decode b_M_extreme 92 = .ok (.ireturn, 1) := by decide +kernel
theorem d_M_put_0 : decode b_M_put 0 = .ok (.aload_n 0, 1) := by decide +kernel
theorem d_M_put_1 : decode b_M_put 1 = .ok (.getfield 39, 3) := by decide +kernel
theorem d_M_put_4 : decode b_M_put 4 = .ok (.aload_n 0, 1) := by decide +kernel
theorem d_M_put_5 : decode b_M_put 5 = .ok (.getfield 126, 3) := by decide +kernel
theorem d_M_put_8 : decode b_M_put 8 = .ok (.iload_n 1, 1) := by decide +kernel
theorem d_M_put_9 : decode b_M_put 9 = .ok (.iastore, 1) := by decide +kernel
theorem d_M_put_10 : decode b_M_put 10 = .ok (.aload_n 0, 1) := by decide +kernel
theorem d_M_put_11 : decode b_M_put 11 = .ok (.dup, 1) := by decide +kernel
theorem d_M_put_12 : decode b_M_put 12 = .ok (.getfield 126, 3) := by decide +kernel
theorem d_M_put_15 : decode b_M_put 15 = .ok (.iconst 1, 1) := by decide +kernel
theorem d_M_put_16 : decode b_M_put 16 = .ok (.iadd, 1) := by decide +kernel
theorem d_M_put_17 : decode b_M_put 17 = .ok (.putfield 126, 3) := by decide +kernel
theorem d_M_put_20 : decode b_M_put 20 = .ok (.return_, 1) := by decide +kernel
theorem d_M_putDigits_0 : decode b_M_putDigits 0 = .ok (.iconst 1, 1) := by decide +kernel
theorem d_M_putDigits_1 : decode b_M_putDigits 1 = .ok (.istore_n 3, 1) := by decide +kernel
theorem d_M_putDigits_2 : decode b_M_putDigits 2 = .ok (.iconst 1, 1) := by decide +kernel
theorem d_M_putDigits_3 : decode b_M_putDigits 3 = .ok (.istore 4, 2) := by decide +kernel
theorem d_M_putDigits_5 : decode b_M_putDigits 5 = .ok (.iload 4, 2) := by decide +kernel
theorem d_M_putDigits_7 : decode b_M_putDigits 7 = .ok (.iload_n 2, 1) := by decide +kernel
theorem d_M_putDigits_8 : decode b_M_putDigits 8 = .ok (.if_icmp .ge 14, 3) := by decide +kernel
theorem d_M_putDigits_11 : decode b_M_putDigits 11 = .ok (.bipush 10, 2) := by decide +kernel
theorem d_M_putDigits_13 : decode b_M_putDigits 13 = .ok (.iload_n 3, 1) := by decide +kernel
theorem d_M_putDigits_14 : decode b_M_putDigits 14 = .ok (.imul, 1) := by decide +kernel
theorem d_M_putDigits_15 : decode b_M_putDigits 15 = .ok (.istore_n 3, 1) := by decide +kernel
theorem d_M_putDigits_16 : decode b_M_putDigits 16 = .ok (.iinc 4 1, 3) := by decide +kernel
theorem d_M_putDigits_19 : decode b_M_putDigits 19 = .ok (.goto (-14), 3) := by decide +kernel
theorem d_M_putDigits_22 : decode b_M_putDigits 22 = .ok (.iload_n 3, 1) := by decide +kernel
theorem d_M_putDigits_23 : decode b_M_putDigits 23 = .ok (.istore 4, 2) := by decide +kernel
theorem d_M_putDigits_25 : decode b_M_putDigits 25 = .ok (.iload 4, 2) := by decide +kernel
theorem d_M_putDigits_27 : decode b_M_putDigits 27 = .ok (.ifCond .le 27, 3) := by decide +kernel
theorem d_M_putDigits_30 : decode b_M_putDigits 30 = .ok (.aload_n 0, 1) := by decide +kernel
theorem d_M_putDigits_31 : decode b_M_putDigits 31 = .ok (.bipush 48, 2) := by decide +kernel
theorem d_M_putDigits_33 : decode b_M_putDigits 33 = .ok (.iload_n 1, 1) := by decide +kernel
theorem d_M_putDigits_34 : decode b_M_putDigits 34 = .ok (.iload 4, 2) := by decide +kernel
theorem d_M_putDigits_36 : decode b_M_putDigits 36 = .ok (.idiv, 1) := by decide +kernel
theorem d_M_putDigits_37 : decode b_M_putDigits 37 = .ok (.bipush 10, 2) := by decide +kernel
theorem d_M_putDigits_39 : decode b_M_putDigits 39 = .ok (.irem, 1) := by decide +kernel
theorem d_M_putDigits_40 : decode b_M_putDigits 40 = .ok (.iadd, 1) := by decide +kernel
theorem d_M_putDigits_41 : decode b_M_putDigits 41 = .ok (.invokevirtual 129, 3) := by decide +kernel
theorem d_M_putDigits_44 : decode b_M_putDigits 44 = .ok (.iload 4, 2) := by decide +kernel
theorem d_M_putDigits_46 : decode b_M_putDigits 46 = .ok (.bipush 10, 2) := by decide +kernel
theorem d_M_putDigits_48 : decode b_M_putDigits 48 = .ok (.idiv, 1) := by decide +kernel
theorem d_M_putDigits_49 : decode b_M_putDigits 49 = .ok (.istore 4, 2) := by decide +kernel
theorem d_M_putDigits_51 : decode b_M_putDigits 51 = .ok (.goto (-26), 3) := by decide +kernel
theorem d_M_putDigits_54 : decode b_M_putDigits 54 = .ok (.return_, 1) := by decide +kernel
theorem d_M_write_0 : decode b_M_write 0 = .ok (.aload_n 0, 1) := by decide +kernel
theorem d_M_write_1 : decode b_M_write 1 = .ok (.iload_n 1, 1) := by decide +kernel
theorem d_M_write_2 : decode b_M_write 2 = .ok (.invokevirtual 76, 3) := by decide +kernel
theorem d_M_write_5 : decode b_M_write 5 = .ok (.istore_n 3, 1) := by decide +kernel
theorem d_M_write_6 : decode b_M_write 6 = .ok (.aload_n 0, 1) := by decide +kernel
theorem d_M_write_7 : decode b_M_write 7 = .ok (.iconst 0, 1) := by decide +kernel
theorem d_M_write_8 : decode b_M_write 8 = .ok (.putfield 126, 3) := by decide +kernel
theorem d_M_write_11 : decode b_M_write 11 = .ok (.aload_n 0, 1) := by decide +kernel
theorem d_M_write_12 : decode b_M_write 12 = .ok (.iload_n 3, 1) := by decide +kernel
theorem d_M_write_13 : decode b_M_write 13 = .ok (.iconst 1, 1) := by decide +kernel
theorem d_M_write_14 : decode b_M_write 14 = .ok (.invokevirtual 132, 3) := by decide +kernel
theorem d_M_write_17 : decode b_M_write 17 = .ok (.aload_n 0, 1) := by decide +kernel
theorem d_M_write_18 : decode b_M_write 18 = .ok (.bipush 32, 2) := by decide +kernel
theorem d_M_write_20 : decode b_M_write 20 = .ok (.invokevirtual 129, 3) := by decide +kernel
theorem d_M_write_23 : decode b_M_write 23 = .ok (.aload_n 0, 1) := by decide +kernel
theorem d_M_write_24 : decode b_M_write 24 = .ok (.iload_n 1, 1) := by decide +kernel
theorem d_M_write_25 : decode b_M_write 25 = .ok (.aload_n 0, 1) := by decide +kernel
theorem d_M_write_26 : decode b_M_write 26 = .ok (.iload_n 3, 1) := by decide +kernel
theorem d_M_write_27 : decode b_M_write 27 = .ok (.invokevirtual 69, 3) := by decide +kernel
theorem d_M_write_30 : decode b_M_write 30 = .ok (.isub, 1) := by decide +kernel
theorem d_M_write_31 : decode b_M_write 31 = .ok (.iconst 3, 1) := by decide +kernel
theorem d_M_write_32 : decode b_M_write 32 = .ok (.invokevirtual 132, 3) := by decide +kernel
theorem d_M_write_35 : decode b_M_write 35 = .ok (.aload_n 0, 1) := by decide +kernel
theorem d_M_write_36 : decode b_M_write 36 = .ok (.bipush 32, 2) := by decide +kernel
theorem d_M_write_38 : decode b_M_write 38 = .ok (.invokevirtual 129, 3) := by decide +kernel
theorem d_M_write_41 : decode b_M_write 41 = .ok (.aload_n 0, 1) := by decide +kernel
theorem d_M_write_42 : decode b_M_write 42 = .ok (.aload_n 0, 1) := by decide +kernel
theorem d_M_write_43 : decode b_M_write 43 = .ok (.getfield 32, 3) := by decide +kernel
theorem d_M_write_46 : decode b_M_write 46 = .ok (.iload_n 2, 1) := by decide +kernel
theorem d_M_write_47 : decode b_M_write 47 = .ok (.iaload, 1) := by decide +kernel
theorem d_M_write_48 : decode b_M_write 48 = .ok (.bipush 60, 2) := by decide +kernel
theorem d_M_write_50 : decode b_M_write 50 = .ok (.idiv, 1) := by decide +kernel
theorem d_M_write_51 : decode b_M_write 51 = .ok (.iconst 2, 1) := by decide +kernel
theorem d_M_write_52 : decode b_M_write 52 = .ok (.invokevirtual 132, 3) := by decide +kernel
theorem d_M_write_55 : decode b_M_write 55 = .ok (.aload_n 0, 1) := by decide +kernel
theorem d_M_write_56 : decode b_M_write 56 = .ok (.bipush 58, 2) := by decide +kernel
theorem d_M_write_58 : decode b_M_write 58 = .ok (.invokevirtual 129, 3) := by decide +kernel
theorem d_M_write_61 : decode b_M_write 61 = .ok (.aload_n 0, 1) := by decide +kernel
theorem d_M_write_62 : decode b_M_write 62 = .ok (.aload_n 0, 1) := by decide +kernel
theorem d_M_write_63 : decode b_M_write 63 = .ok (.getfield 32, 3) := by decide +kernel
theorem d_M_write_66 : decode b_M_write 66 = .ok (.iload_n 2, 1) := by decide +kernel
theorem d_M_write_67 : decode b_M_write 67 = .ok (.iaload, 1) := by decide +kernel
theorem d_M_write_68 : decode b_M_write 68 = .ok (.bipush 60, 2) := by decide +kernel
theorem d_M_write_70 : decode b_M_write 70 = .ok (.irem, 1) := by decide +kernel
theorem d_M_write_71 : decode b_M_write 71 = .ok (.iconst 2, 1) := by decide +kernel
theorem d_M_write_72 : decode b_M_write 72 = .ok (.invokevirtual 132, 3) := by decide +kernel
theorem d_M_write_75 : decode b_M_write 75 = .ok (.aload_n 0, 1) := by decide +kernel
theorem d_M_write_76 : decode b_M_write 76 = .ok (.bipush 32, 2) := by decide +kernel
theorem d_M_write_78 : decode b_M_write 78 = .ok (.invokevirtual 129, 3) := by decide +kernel
theorem d_M_write_81 : decode b_M_write 81 = .ok (.aload_n 0, 1) := by decide +kernel
theorem d_M_write_82 : decode b_M_write 82 = .ok (.aload_n 0, 1) := by decide +kernel
theorem d_M_write_83 : decode b_M_write 83 = .ok (.getfield 35, 3) := by decide +kernel
theorem d_M_write_86 : decode b_M_write 86 = .ok (.iload_n 2, 1) := by decide +kernel
theorem d_M_write_87 : decode b_M_write 87 = .ok (.baload, 1) := by decide +kernel
theorem d_M_write_88 : decode b_M_write 88 = .ok (.ifCond .eq 8, 3) := by decide +kernel
theorem d_M_write_91 : decode b_M_write 91 = .ok (.bipush 72, 2) := by decide +kernel
theorem d_M_write_93 : decode b_M_write 93 = .ok (.goto 5, 3) := by decide +kernel
theorem d_M_write_96 : decode b_M_write 96 = .ok (.bipush 76, 2) := by decide +kernel
theorem d_M_write_98 : decode b_M_write 98 = .ok (.invokevirtual 129, 3) := by decide +kernel
theorem d_M_write_101 : decode b_M_write 101 = .ok (.aload_n 0, 1) := by decide +kernel
theorem d_M_write_102 : decode b_M_write 102 = .ok (.aload_n 0, 1) := by decide +kernel
theorem d_M_write_103 : decode b_M_write 103 = .ok (.getfield 35, 3) := by decide +kernel
theorem d_M_write_106 : decode b_M_write 106 = .ok (.iload_n 2, 1) := by decide +kernel
theorem d_M_write_107 : decode b_M_write 107 = .ok (.baload, 1) := by decide +kernel
theorem d_M_write_108 : decode b_M_write 108 = .ok (.ifCond .eq 8, 3) := by decide +kernel
theorem d_M_write_111 : decode b_M_write 111 = .ok (.bipush 73, 2) := by decide +kernel
theorem d_M_write_113 : decode b_M_write 113 = .ok (.goto 5, 3) := by decide +kernel
theorem d_M_write_116 : decode b_M_write 116 = .ok (.bipush 79, 2) := by decide +kernel
theorem d_M_write_118 : decode b_M_write 118 = .ok (.invokevirtual 129, 3) := by decide +kernel
theorem d_M_write_121 : decode b_M_write 121 = .ok (.aload_n 0, 1) := by decide +kernel
theorem d_M_write_122 : decode b_M_write 122 = .ok (.aload_n 0, 1) := by decide +kernel
theorem d_M_write_123 : decode b_M_write 123 = .ok (.getfield 35, 3) := by decide +kernel
theorem d_M_write_126 : decode b_M_write 126 = .ok (.iload_n 2, 1) := by decide +kernel
theorem d_M_write_127 : decode b_M_write 127 = .ok (.baload, 1) := by decide +kernel
theorem d_M_write_128 : decode b_M_write 128 = .ok (.ifCond .eq 8, 3) := by decide +kernel
theorem d_M_write_131 : decode b_M_write 131 = .ok (.bipush 71, 2) := by decide +kernel
theorem d_M_write_133 : decode b_M_write 133 = .ok (.goto 5, 3) := by decide +kernel
theorem d_M_write_136 : decode b_M_write 136 = .ok (.bipush 87, 2) := by decide +kernel
theorem d_M_write_138 : decode b_M_write 138 = .ok (.invokevirtual 129, 3) := by decide +kernel
theorem d_M_write_141 : decode b_M_write 141 = .ok (.aload_n 0, 1) := by decide +kernel
theorem d_M_write_142 : decode b_M_write 142 = .ok (.getfield 35, 3) := by decide +kernel
theorem d_M_write_145 : decode b_M_write 145 = .ok (.iload_n 2, 1) := by decide +kernel
theorem d_M_write_146 : decode b_M_write 146 = .ok (.baload, 1) := by decide +kernel
theorem d_M_write_147 : decode b_M_write 147 = .ok (.ifCond .eq 9, 3) := by decide +kernel
theorem d_M_write_150 : decode b_M_write 150 = .ok (.aload_n 0, 1) := by decide +kernel
theorem d_M_write_151 : decode b_M_write 151 = .ok (.bipush 72, 2) := by decide +kernel
theorem d_M_write_153 : decode b_M_write 153 = .ok (.invokevirtual 129, 3) := by decide +kernel
theorem d_M_write_156 : decode b_M_write 156 = .ok (.aload_n 0, 1) := by decide +kernel
theorem d_M_write_157 : decode b_M_write 157 = .ok (.bipush 32, 2) := by decide +kernel
theorem d_M_write_159 : decode b_M_write 159 = .ok (.invokevirtual 129, 3) := by decide +kernel
theorem d_M_write_162 : decode b_M_write 162 = .ok (.aload_n 0, 1) := by decide +kernel
theorem d_M_write_163 : decode b_M_write 163 = .ok (.getfield 29, 3) := by decide +kernel
theorem d_M_write_166 : decode b_M_write 166 = .ok (.aload_n 0, 1) := by decide +kernel
theorem d_M_write_167 : decode b_M_write 167 = .ok (.getfield 32, 3) := by decide +kernel
theorem d_M_write_170 : decode b_M_write 170 = .ok (.iload_n 2, 1) := by decide +kernel
theorem d_M_write_171 : decode b_M_write 171 = .ok (.iaload, 1) := by decide +kernel
theorem d_M_write_172 : decode b_M_write 172 = .ok (.iaload, 1) := by decide +kernel
theorem d_M_write_173 : decode b_M_write 173 = .ok (.istore 4, 2) := by decide +kernel
theorem d_M_write_175 : decode b_M_write 175 = .ok (.iload 4, 2) := by decide +kernel
theorem d_M_write_177 : decode b_M_write 177 = .ok (.ifCond .ge 9, 3) := by decide +kernel
theorem d_M_write_180 : decode b_M_write 180 = .ok (.aload_n 0, 1) := by decide +kernel
theorem d_M_write_181 : decode b_M_write 181 = .ok (.bipush 45, 2) := by decide +kernel
theorem d_M_write_183 : decode b_M_write 183 = .ok (.invokevirtual 129, 3) := by decide +kernel
theorem d_M_write_186 : decode b_M_write 186 = .ok (.iload 4, 2) := by decide +kernel
theorem d_M_write_188 : decode b_M_write 188 = .ok (.ifCond .ge 9, 3) := by decide +kernel
theorem d_M_write_191 : decode b_M_write 191 = .ok (.iload 4, 2) := by decide +kernel
theorem d_M_write_193 : decode b_M_write 193 = .ok (.ineg, 1) := by decide +kernel
theorem d_M_write_194 : decode b_M_write 194 = .ok (.goto 5, 3) := by decide +kernel
theorem d_M_write_197 : decode b_M_write 197 = .ok (.iload 4, 2) := by decide +kernel
theorem d_M_write_199 : decode b_M_write 199 = .ok (.istore 4, 2) := by decide +kernel
theorem d_M_write_201 : decode b_M_write 201 = .ok (.iload 4, 2) := by decide +kernel
theorem d_M_write_203 : decode b_M_write 203 = .ok (.sipush 10000, 3) := by decide +kernel
theorem d_M_write_206 : decode b_M_write 206 = .ok (.idiv, 1) := by decide +kernel
theorem d_M_write_207 : decode b_M_write 207 = .ok (.istore 5, 2) := by decide +kernel
theorem d_M_write_209 : decode b_M_write 209 = .ok (.aload_n 0, 1) := by decide +kernel
theorem d_M_write_210 : decode b_M_write 210 = .ok (.iload 5, 2) := by decide +kernel
theorem d_M_write_212 : decode b_M_write 212 = .ok (.iload 5, 2) := by decide +kernel
theorem d_M_write_214 : decode b_M_write 214 = .ok (.bipush 10, 2) := by decide +kernel
theorem d_M_write_216 : decode b_M_write 216 = .ok (.if_icmp .ge 7, 3) := by decide +kernel
theorem d_M_write_219 : decode b_M_write 219 = .ok (.iconst 1, 1) := by decide +kernel
theorem d_M_write_220 : decode b_M_write 220 = .ok (.goto 15, 3) := by decide +kernel
theorem d_M_write_223 : decode b_M_write 223 = .ok (.iload 5, 2) := by decide +kernel
theorem d_M_write_225 : decode b_M_write 225 = .ok (.bipush 100, 2) := by decide +kernel
theorem d_M_write_227 : decode b_M_write 227 = .ok (.if_icmp .ge 7, 3) := by decide +kernel
theorem d_M_write_230 : decode b_M_write 230 = .ok (.iconst 2, 1) := by decide +kernel
theorem d_M_write_231 : decode b_M_write 231 = .ok (.goto 4, 3) := by decide +kernel
theorem d_M_write_234 : decode b_M_write 234 = .ok (.iconst 3, 1) := by decide +kernel
theorem d_M_write_235 : decode b_M_write 235 = .ok (.invokevirtual 132, 3) := by decide +kernel
theorem d_M_write_238 : decode b_M_write 238 = .ok (.aload_n 0, 1) := by decide +kernel
theorem d_M_write_239 : decode b_M_write 239 = .ok (.bipush 46, 2) := by decide +kernel
theorem d_M_write_241 : decode b_M_write 241 = .ok (.invokevirtual 129, 3) := by decide +kernel
theorem d_M_write_244 : decode b_M_write 244 = .ok (.aload_n 0, 1) := by decide +kernel
theorem d_M_write_245 : decode b_M_write 245 = .ok (.iload 4, 2) := by decide +kernel
theorem d_M_write_247 : decode b_M_write 247 = .ok (.sipush 10000, 3) := by decide +kernel
theorem d_M_write_250 : decode b_M_write 250 = .ok (.irem, 1) := by decide +kernel
theorem d_M_write_251 : decode b_M_write 251 = .ok (.iconst 4, 1) := by decide +kernel
theorem d_M_write_252 : decode b_M_write 252 = .ok (.invokevirtual 132, 3) := by decide +kernel
theorem d_M_write_255 : decode b_M_write 255 = .ok (.return_, 1) := by decide +kernel
theorem d_M_line_0 : decode b_M_line 0 = .ok (.aload_n 0, 1) := by decide +kernel
theorem d_M_line_1 : decode b_M_line 1 = .ok (.aload_n 0, 1) := by decide +kernel
theorem d_M_line_2 : decode b_M_line 2 = .ok (.iload_n 1, 1) := by decide +kernel
theorem d_M_line_3 : decode b_M_line 3 = .ok (.iload_n 2, 1) := by decide +kernel
theorem d_M_line_4 : decode b_M_line 4 = .ok (.invokevirtual 122, 3) := by decide +kernel
theorem d_M_line_7 : decode b_M_line 7 = .ok (.ifCond .eq 7, 3) := by decide +kernel
theorem d_M_line_10 : decode b_M_line 10 = .ok (.iconst 0, 1) := by decide +kernel
theorem d_M_line_11 : decode b_M_line 11 = .ok (.goto 4, 3) := by decide +kernel
theorem d_M_line_14 : decode b_M_line 14 = .ok (.iconst 1, 1) := by decide +kernel
theorem d_M_line_15 : decode b_M_line 15 = .ok (.putfield 43, 3) := by decide +kernel
theorem d_M_line_18 : decode b_M_line 18 = .ok (.aload_n 0, 1) := by decide +kernel
theorem d_M_line_19 : decode b_M_line 19 = .ok (.getfield 43, 3) := by decide +kernel
theorem d_M_line_22 : decode b_M_line 22 = .ok (.ifCond .eq 5, 3) := by decide +kernel
theorem d_M_line_25 : decode b_M_line 25 = .ok (.iconst 0, 1) := by decide +kernel
theorem d_M_line_26 : decode b_M_line 26 = .ok (.ireturn, 1) := by decide +kernel
theorem d_M_line_27 : decode b_M_line 27 = .ok (.aload_n 0, 1) := by decide +kernel
theorem d_M_line_28 : decode b_M_line 28 = .ok (.iload_n 1, 1) := by decide +kernel
theorem d_M_line_29 : decode b_M_line 29 = .ok (.iload_n 2, 1) := by decide +kernel
theorem d_M_line_30 : decode b_M_line 30 = .ok (.invokevirtual 136, 3) := by decide +kernel
theorem d_M_line_33 : decode b_M_line 33 = .ok (.aload_n 0, 1) := by decide +kernel
theorem d_M_line_34 : decode b_M_line 34 = .ok (.getfield 126, 3) := by decide +kernel
theorem d_M_line_37 : decode b_M_line 37 = .ok (.ireturn, 1) := by decide +kernel
theorem d_M_sign_0 : decode b_M_sign 0 = .ok (.aload_n 0, 1) := by decide +kernel
theorem d_M_sign_1 : decode b_M_sign 1 = .ok (.aload_n 0, 1) := by decide +kernel
theorem d_M_sign_2 : decode b_M_sign 2 = .ok (.iload_n 1, 1) := by decide +kernel
theorem d_M_sign_3 : decode b_M_sign 3 = .ok (.iload_n 2, 1) := by decide +kernel
theorem d_M_sign_4 : decode b_M_sign 4 = .ok (.invokevirtual 122, 3) := by decide +kernel
theorem d_M_sign_7 : decode b_M_sign 7 = .ok (.ifCond .eq 7, 3) := by decide +kernel
theorem d_M_sign_10 : decode b_M_sign 10 = .ok (.iconst 0, 1) := by decide +kernel
theorem d_M_sign_11 : decode b_M_sign 11 = .ok (.goto 4, 3) := by decide +kernel
theorem d_M_sign_14 : decode b_M_sign 14 = .ok (.iconst 1, 1) := by decide +kernel
theorem d_M_sign_15 : decode b_M_sign 15 = .ok (.putfield 43, 3) := by decide +kernel
theorem d_M_sign_18 : decode b_M_sign 18 = .ok (.aload_n 0, 1) := by decide +kernel
theorem d_M_sign_19 : decode b_M_sign 19 = .ok (.getfield 43, 3) := by decide +kernel
theorem d_M_sign_22 : decode b_M_sign 22 = .ok (.ifCond .eq 5, 3) := by decide +kernel
theorem d_M_sign_25 : decode b_M_sign 25 = .ok (.iconst 0, 1) := by decide +kernel
theorem d_M_sign_26 : decode b_M_sign 26 = .ok (.ireturn, 1) := by decide +kernel
theorem d_M_sign_27 : decode b_M_sign 27 = .ok (.aload_n 0, 1) := by decide +kernel
theorem d_M_sign_28 : decode b_M_sign 28 = .ok (.iload_n 1, 1) := by decide +kernel
theorem d_M_sign_29 : decode b_M_sign 29 = .ok (.iload_n 2, 1) := by decide +kernel
theorem d_M_sign_30 : decode b_M_sign 30 = .ok (.invokevirtual 136, 3) := by decide +kernel
theorem d_M_sign_33 : decode b_M_sign 33 = .ok (.aload_n 0, 1) := by decide +kernel
theorem d_M_sign_34 : decode b_M_sign 34 = .ok (.iload_n 3, 1) := by decide +kernel
theorem d_M_sign_35 : decode b_M_sign 35 = .ok (.ifCond .lt 11, 3) := by decide +kernel
theorem d_M_sign_38 : decode b_M_sign 38 = .ok (.iload_n 3, 1) := by decide +kernel
theorem d_M_sign_39 : decode b_M_sign 39 = .ok (.aload_n 0, 1) := by decide +kernel
theorem d_M_sign_40 : decode b_M_sign 40 = .ok (.getfield 126, 3) := by decide +kernel
theorem d_M_sign_43 : decode b_M_sign 43 = .ok (.if_icmp .lt 7, 3) := by decide +kernel
theorem d_M_sign_46 : decode b_M_sign 46 = .ok (.iconst 1, 1) := by decide +kernel
theorem d_M_sign_47 : decode b_M_sign 47 = .ok (.goto 4, 3) := by decide +kernel
theorem d_M_sign_50 : decode b_M_sign 50 = .ok (.iconst 0, 1) := by decide +kernel
theorem d_M_sign_51 : decode b_M_sign 51 = .ok (.putfield 43, 3) := by decide +kernel
theorem d_M_sign_54 : decode b_M_sign 54 = .ok (.aload_n 0, 1) := by decide +kernel
theorem d_M_sign_55 : decode b_M_sign 55 = .ok (.getfield 43, 3) := by decide +kernel
theorem d_M_sign_58 : decode b_M_sign 58 = .ok (.ifCond .ne 12, 3) := by decide +kernel
theorem d_M_sign_61 : decode b_M_sign 61 = .ok (.aload_n 0, 1) := by decide +kernel
theorem d_M_sign_62 : decode b_M_sign 62 = .ok (.getfield 39, 3) := by decide +kernel
theorem d_M_sign_65 : decode b_M_sign 65 = .ok (.iload_n 3, 1) := by decide +kernel
theorem d_M_sign_66 : decode b_M_sign 66 = .ok (.iaload, 1) := by decide +kernel
theorem d_M_sign_67 : decode b_M_sign 67 = .ok (.goto 4, 3) := by decide +kernel
theorem d_M_sign_70 : decode b_M_sign 70 = .ok (.iconst 0, 1) := by decide +kernel
theorem d_M_sign_71 : decode b_M_sign 71 = .ok (.ireturn, 1) := by decide +kernel
theorem d_M_above_0 : decode b_M_above 0 = .ok (.aload_n 0, 1) := by decide +kernel
theorem d_M_above_1 : decode b_M_above 1 = .ok (.iload_n 3, 1) := by decide +kernel
theorem d_M_above_2 : decode b_M_above 2 = .ok (.iconst 1, 1) := by decide +kernel
theorem d_M_above_3 : decode b_M_above 3 = .ok (.if_icmp .lt 10, 3) := by decide +kernel
theorem d_M_above_6 : decode b_M_above 6 = .ok (.iload_n 3, 1) := by decide +kernel
theorem d_M_above_7 : decode b_M_above 7 = .ok (.sipush 1000, 3) := by decide +kernel
theorem d_M_above_10 : decode b_M_above 10 = .ok (.if_icmp .le 7, 3) := by decide +kernel
theorem d_M_above_13 : decode b_M_above 13 = .ok (.iconst 1, 1) := by decide +kernel
theorem d_M_above_14 : decode b_M_above 14 = .ok (.goto 16, 3) := by decide +kernel
theorem d_M_above_17 : decode b_M_above 17 = .ok (.aload_n 0, 1) := by decide +kernel
theorem d_M_above_18 : decode b_M_above 18 = .ok (.iload_n 1, 1) := by decide +kernel
theorem d_M_above_19 : decode b_M_above 19 = .ok (.invokevirtual 73, 3) := by decide +kernel
theorem d_M_above_22 : decode b_M_above 22 = .ok (.ifCond .ne 7, 3) := by decide +kernel
theorem d_M_above_25 : decode b_M_above 25 = .ok (.iconst 2, 1) := by decide +kernel
theorem d_M_above_26 : decode b_M_above 26 = .ok (.goto 4, 3) := by decide +kernel
theorem d_M_above_29 : decode b_M_above 29 = .ok (.iconst 0, 1) := by decide +kernel
theorem d_M_above_30 : decode b_M_above 30 = .ok (.putfield 43, 3) := by decide +kernel
theorem d_M_above_33 : decode b_M_above 33 = .ok (.aload_n 0, 1) := by decide +kernel
theorem d_M_above_34 : decode b_M_above 34 = .ok (.getfield 43, 3) := by decide +kernel
theorem d_M_above_37 : decode b_M_above 37 = .ok (.ifCond .eq 5, 3) := by decide +kernel
theorem d_M_above_40 : decode b_M_above 40 = .ok (.iconst 0, 1) := by decide +kernel
theorem d_M_above_41 : decode b_M_above 41 = .ok (.ireturn, 1) := by decide +kernel
theorem d_M_above_42 : decode b_M_above 42 = .ok (.iconst 0, 1) := by decide +kernel
theorem d_M_above_43 : decode b_M_above 43 = .ok (.istore 4, 2) := by decide +kernel
theorem d_M_above_45 : decode b_M_above 45 = .ok (.iload_n 1, 1) := by decide +kernel
theorem d_M_above_46 : decode b_M_above 46 = .ok (.istore 5, 2) := by decide +kernel
theorem d_M_above_48 : decode b_M_above 48 = .ok (.iconst (-1), 1) := by decide +kernel
theorem d_M_above_49 : decode b_M_above 49 = .ok (.istore 6, 2) := by decide +kernel
theorem d_M_above_51 : decode b_M_above 51 = .ok (.iload 6, 2) := by decide +kernel
theorem d_M_above_53 : decode b_M_above 53 = .ok (.iconst (-1), 1) := by decide +kernel
theorem d_M_above_54 : decode b_M_above 54 = .ok (.if_icmp .ne 68, 3) := by decide +kernel
theorem d_M_above_57 : decode b_M_above 57 = .ok (.aload_n 0, 1) := by decide +kernel
theorem d_M_above_58 : decode b_M_above 58 = .ok (.iload 5, 2) := by decide +kernel
theorem d_M_above_60 : decode b_M_above 60 = .ok (.invokevirtual 73, 3) := by decide +kernel
theorem d_M_above_63 : decode b_M_above 63 = .ok (.ifCond .eq 59, 3) := by decide +kernel
theorem d_M_above_66 : decode b_M_above 66 = .ok (.iload 5, 2) := by decide +kernel
theorem d_M_above_68 : decode b_M_above 68 = .ok (.iload_n 3, 1) := by decide +kernel
theorem d_M_above_69 : decode b_M_above 69 = .ok (.isub, 1) := by decide +kernel
theorem d_M_above_70 : decode b_M_above 70 = .ok (.iload_n 1, 1) := by decide +kernel
theorem d_M_above_71 : decode b_M_above 71 = .ok (.sipush 2999, 3) := by decide +kernel
theorem d_M_above_74 : decode b_M_above 74 = .ok (.iadd, 1) := by decide +kernel
theorem d_M_above_75 : decode b_M_above 75 = .ok (.if_icmp .ge 47, 3) := by decide +kernel
theorem d_M_above_78 : decode b_M_above 78 = .ok (.aload_n 0, 1) := by decide +kernel
theorem d_M_above_79 : decode b_M_above 79 = .ok (.iload 5, 2) := by decide +kernel
theorem d_M_above_81 : decode b_M_above 81 = .ok (.invokevirtual 109, 3) := by decide +kernel
theorem d_M_above_84 : decode b_M_above 84 = .ok (.iload_n 2, 1) := by decide +kernel
theorem d_M_above_85 : decode b_M_above 85 = .ok (.if_icmp .lt 10, 3) := by decide +kernel
theorem d_M_above_88 : decode b_M_above 88 = .ok (.iload 4, 2) := by decide +kernel
theorem d_M_above_90 : decode b_M_above 90 = .ok (.iconst 1, 1) := by decide +kernel
theorem d_M_above_91 : decode b_M_above 91 = .ok (.iadd, 1) := by decide +kernel
theorem d_M_above_92 : decode b_M_above 92 = .ok (.goto 4, 3) := by decide +kernel
theorem d_M_above_95 : decode b_M_above 95 = .ok (.iconst 0, 1) := by decide +kernel
theorem d_M_above_96 : decode b_M_above 96 = .ok (.istore 4, 2) := by decide +kernel
theorem d_M_above_98 : decode b_M_above 98 = .ok (.iload 4, 2) := by decide +kernel
theorem d_M_above_100 : decode b_M_above 100 = .ok (.iload_n 3, 1) := by decide +kernel
theorem d_M_above_101 : decode b_M_above 101 = .ok (.if_icmp .lt 12, 3) := by decide +kernel
theorem d_M_above_104 : decode b_M_above 104 = .ok (.iload 5, 2) := by decide +kernel
theorem d_M_above_106 : decode b_M_above 106 = .ok (.iload_n 3, 1) := by decide +kernel
theorem d_M_above_107 : decode b_M_above 107 = .ok (.isub, 1) := by decide +kernel
theorem d_M_above_108 : decode b_M_above 108 = .ok (.iconst 1, 1) := by decide +kernel
theorem d_M_above_109 : decode b_M_above 109 = .ok (.iadd, 1) := by decide +kernel
theorem d_M_above_110 : decode b_M_above 110 = .ok (.goto 4, 3) := by decide +kernel
theorem d_M_above_113 : decode b_M_above 113 = .ok (.iconst (-1), 1) := by decide +kernel
theorem d_M_above_114 : decode b_M_above 114 = .ok (.istore 6, 2) := by decide +kernel
theorem d_M_above_116 : decode b_M_above 116 = .ok (.iinc 5 1, 3) := by decide +kernel
theorem d_M_above_119 : decode b_M_above 119 = .ok (.goto (-68), 3) := by decide +kernel
theorem d_M_above_122 : decode b_M_above 122 = .ok (.iload 6, 2) := by decide +kernel
theorem d_M_above_124 : decode b_M_above 124 = .ok (.ireturn, 1) := by decide +kernel
end
section
/-! the instructions of TideTablesLaw, decoded. Written by wip/whole/names.py -/
theorem d_L_level_0 : decode b_L_level 0 = .ok (.aload_n 2, 1) := by decide +kernel
theorem d_L_level_1 : decode b_L_level 1 = .ok (.iconst 0, 1) := by decide +kernel
theorem d_L_level_2 : decode b_L_level 2 = .ok (.aload_n 0, 1) := by decide +kernel
theorem d_L_level_3 : decode b_L_level 3 = .ok (.iload_n 1, 1) := by decide +kernel
theorem d_L_level_4 : decode b_L_level 4 = .ok (.invokevirtual 7, 3) := by decide +kernel
theorem d_L_level_7 : decode b_L_level 7 = .ok (.i2l, 1) := by decide +kernel
theorem d_L_level_8 : decode b_L_level 8 = .ok (.lastore, 1) := by decide +kernel
theorem d_L_level_9 : decode b_L_level 9 = .ok (.goto 6, 3) := by decide +kernel
theorem d_L_level_12 : decode b_L_level 12 = .ok (.astore_n 3, 1) := by decide +kernel
theorem d_L_level_13 : decode b_L_level 13 = .ok (.iconst 1, 1) := by decide +kernel
theorem d_L_level_14 : decode b_L_level 14 = .ok (.ireturn, 1) := by decide +kernel
theorem d_L_level_15 : decode b_L_level 15 = .ok (.iconst 0, 1) := by decide +kernel
theorem d_L_level_16 : decode b_L_level 16 = .ok (.ireturn, 1) := by decide +kernel
theorem d_L_constituent_0 : decode b_L_constituent 0 = .ok (.aload_n 0, 1) := by decide +kernel
theorem d_L_constituent_1 : decode b_L_constituent 1 = .ok (.iload_n 1, 1) := by decide +kernel
theorem d_L_constituent_2 : decode b_L_constituent 2 = .ok (.iload_n 2, 1) := by decide +kernel
theorem d_L_constituent_3 : decode b_L_constituent 3 = .ok (.lload_n 3, 1) := by decide +kernel
theorem d_L_constituent_4 : decode b_L_constituent 4 = .ok (.lload 5, 2) := by decide +kernel
theorem d_L_constituent_6 : decode b_L_constituent 6 = .ok (.invokevirtual 15, 3) := by decide +kernel
theorem d_L_constituent_9 : decode b_L_constituent 9 = .ok (.goto 11, 3) := by decide +kernel
theorem d_L_constituent_12 : decode b_L_constituent 12 = .ok (.astore 7, 2) := by decide +kernel
theorem d_L_constituent_14 : decode b_L_constituent 14 = .ok (.iconst 1, 1) := by decide +kernel
theorem d_L_constituent_15 : decode b_L_constituent 15 = .ok (.ireturn, 1) := by decide +kernel
theorem d_L_constituent_16 : decode b_L_constituent 16 = .ok (.astore 7, 2) := by decide +kernel
theorem d_L_constituent_18 : decode b_L_constituent 18 = .ok (.iconst 2, 1) := by decide +kernel
theorem d_L_constituent_19 : decode b_L_constituent 19 = .ok (.ireturn, 1) := by decide +kernel
theorem d_L_constituent_20 : decode b_L_constituent 20 = .ok (.iconst 0, 1) := by decide +kernel
theorem d_L_constituent_21 : decode b_L_constituent 21 = .ok (.ireturn, 1) := by decide +kernel
theorem d_L_node_0 : decode b_L_node 0 = .ok (.aload_n 0, 1) := by decide +kernel
theorem d_L_node_1 : decode b_L_node 1 = .ok (.iload_n 1, 1) := by decide +kernel
theorem d_L_node_2 : decode b_L_node 2 = .ok (.iload_n 2, 1) := by decide +kernel
theorem d_L_node_3 : decode b_L_node 3 = .ok (.iload_n 3, 1) := by decide +kernel
theorem d_L_node_4 : decode b_L_node 4 = .ok (.lload 4, 2) := by decide +kernel
theorem d_L_node_6 : decode b_L_node 6 = .ok (.invokevirtual 21, 3) := by decide +kernel
theorem d_L_node_9 : decode b_L_node 9 = .ok (.goto 11, 3) := by decide +kernel
theorem d_L_node_12 : decode b_L_node 12 = .ok (.astore 6, 2) := by decide +kernel
theorem d_L_node_14 : decode b_L_node 14 = .ok (.iconst 1, 1) := by decide +kernel
theorem d_L_node_15 : decode b_L_node 15 = .ok (.ireturn, 1) := by decide +kernel
theorem d_L_node_16 : decode b_L_node 16 = .ok (.astore 6, 2) := by decide +kernel
theorem d_L_node_18 : decode b_L_node 18 = .ok (.iconst 2, 1) := by decide +kernel
theorem d_L_node_19 : decode b_L_node 19 = .ok (.ireturn, 1) := by decide +kernel
theorem d_L_node_20 : decode b_L_node 20 = .ok (.iconst 0, 1) := by decide +kernel
theorem d_L_node_21 : decode b_L_node 21 = .ok (.ireturn, 1) := by decide +kernel
theorem d_L_days_0 : decode b_L_days 0 = .ok (.aload_n 3, 1) := by decide +kernel
theorem d_L_days_1 : decode b_L_days 1 = .ok (.iconst 0, 1) := by decide +kernel
theorem d_L_days_2 : decode b_L_days 2 = .ok (.aload_n 0, 1) := by decide +kernel
theorem d_L_days_3 : decode b_L_days 3 = .ok (.iload_n 1, 1) := by decide +kernel
theorem d_L_days_4 : decode b_L_days 4 = .ok (.iload_n 2, 1) := by decide +kernel
theorem d_L_days_5 : decode b_L_days 5 = .ok (.invokevirtual 25, 3) := by decide +kernel
theorem d_L_days_8 : decode b_L_days 8 = .ok (.i2l, 1) := by decide +kernel
theorem d_L_days_9 : decode b_L_days 9 = .ok (.lastore, 1) := by decide +kernel
theorem d_L_days_10 : decode b_L_days 10 = .ok (.goto 11, 3) := by decide +kernel
theorem d_L_days_13 : decode b_L_days 13 = .ok (.astore 4, 2) := by decide +kernel
theorem d_L_days_15 : decode b_L_days 15 = .ok (.iconst 1, 1) := by decide +kernel
theorem d_L_days_16 : decode b_L_days 16 = .ok (.ireturn, 1) := by decide +kernel
theorem d_L_days_17 : decode b_L_days 17 = .ok (.astore 4, 2) := by decide +kernel
theorem d_L_days_19 : decode b_L_days 19 = .ok (.iconst 2, 1) := by decide +kernel
theorem d_L_days_20 : decode b_L_days 20 = .ok (.ireturn, 1) := by decide +kernel
theorem d_L_days_21 : decode b_L_days 21 = .ok (.iconst 0, 1) := by decide +kernel
theorem d_L_days_22 : decode b_L_days 22 = .ok (.ireturn, 1) := by decide +kernel
theorem d_L_first_0 : decode b_L_first 0 = .ok (.aload_n 2, 1) := by decide +kernel
theorem d_L_first_1 : decode b_L_first 1 = .ok (.iconst 0, 1) := by decide +kernel
theorem d_L_first_2 : decode b_L_first 2 = .ok (.aload_n 0, 1) := by decide +kernel
theorem d_L_first_3 : decode b_L_first 3 = .ok (.iload_n 1, 1) := by decide +kernel
theorem d_L_first_4 : decode b_L_first 4 = .ok (.invokevirtual 29, 3) := by decide +kernel
theorem d_L_first_7 : decode b_L_first 7 = .ok (.i2l, 1) := by decide +kernel
theorem d_L_first_8 : decode b_L_first 8 = .ok (.lastore, 1) := by decide +kernel
theorem d_L_first_9 : decode b_L_first 9 = .ok (.goto 6, 3) := by decide +kernel
theorem d_L_first_12 : decode b_L_first 12 = .ok (.astore_n 3, 1) := by decide +kernel
theorem d_L_first_13 : decode b_L_first 13 = .ok (.iconst 1, 1) := by decide +kernel
theorem d_L_first_14 : decode b_L_first 14 = .ok (.ireturn, 1) := by decide +kernel
theorem d_L_first_15 : decode b_L_first 15 = .ok (.iconst 0, 1) := by decide +kernel
theorem d_L_first_16 : decode b_L_first 16 = .ok (.ireturn, 1) := by decide +kernel
theorem d_L_year_0 : decode b_L_year 0 = .ok (.aload_n 2, 1) := by decide +kernel
theorem d_L_year_1 : decode b_L_year 1 = .ok (.iconst 0, 1) := by decide +kernel
theorem d_L_year_2 : decode b_L_year 2 = .ok (.aload_n 0, 1) := by decide +kernel
theorem d_L_year_3 : decode b_L_year 3 = .ok (.iload_n 1, 1) := by decide +kernel
theorem d_L_year_4 : decode b_L_year 4 = .ok (.invokevirtual 32, 3) := by decide +kernel
theorem d_L_year_7 : decode b_L_year 7 = .ok (.i2l, 1) := by decide +kernel
theorem d_L_year_8 : decode b_L_year 8 = .ok (.lastore, 1) := by decide +kernel
theorem d_L_year_9 : decode b_L_year 9 = .ok (.goto 6, 3) := by decide +kernel
theorem d_L_year_12 : decode b_L_year 12 = .ok (.astore_n 3, 1) := by decide +kernel
theorem d_L_year_13 : decode b_L_year 13 = .ok (.iconst 1, 1) := by decide +kernel
theorem d_L_year_14 : decode b_L_year 14 = .ok (.ireturn, 1) := by decide +kernel
theorem d_L_year_15 : decode b_L_year 15 = .ok (.iconst 0, 1) := by decide +kernel
theorem d_L_year_16 : decode b_L_year 16 = .ok (.ireturn, 1) := by decide +kernel
theorem d_L_position_0 : decode b_L_position 0 = .ok (.aload_n 3, 1) := by decide +kernel
theorem d_L_position_1 : decode b_L_position 1 = .ok (.iconst 0, 1) := by decide +kernel
theorem d_L_position_2 : decode b_L_position 2 = .ok (.aload_n 0, 1) := by decide +kernel
theorem d_L_position_3 : decode b_L_position 3 = .ok (.iload_n 1, 1) := by decide +kernel
theorem d_L_position_4 : decode b_L_position 4 = .ok (.iload_n 2, 1) := by decide +kernel
theorem d_L_position_5 : decode b_L_position 5 = .ok (.invokevirtual 35, 3) := by decide +kernel
theorem d_L_position_8 : decode b_L_position 8 = .ok (.lastore, 1) := by decide +kernel
theorem d_L_position_9 : decode b_L_position 9 = .ok (.goto 7, 3) := by decide +kernel
theorem d_L_position_12 : decode b_L_position 12 = .ok (.astore 4, 2) := by decide +kernel
theorem d_L_position_14 : decode b_L_position 14 = .ok (.iconst 1, 1) := by decide +kernel
theorem d_L_position_15 : decode b_L_position 15 = .ok (.ireturn, 1) := by decide +kernel
theorem d_L_position_16 : decode b_L_position 16 = .ok (.iconst 0, 1) := by decide +kernel
theorem d_L_position_17 : decode b_L_position 17 = .ok (.ireturn, 1) := by decide +kernel
theorem d_L_cosine_0 : decode b_L_cosine 0 = .ok (.aload_n 3, 1) := by decide +kernel
theorem d_L_cosine_1 : decode b_L_cosine 1 = .ok (.iconst 0, 1) := by decide +kernel
theorem d_L_cosine_2 : decode b_L_cosine 2 = .ok (.aload_n 0, 1) := by decide +kernel
theorem d_L_cosine_3 : decode b_L_cosine 3 = .ok (.lload_n 1, 1) := by decide +kernel
theorem d_L_cosine_4 : decode b_L_cosine 4 = .ok (.invokevirtual 39, 3) := by decide +kernel
theorem d_L_cosine_7 : decode b_L_cosine 7 = .ok (.i2l, 1) := by decide +kernel
theorem d_L_cosine_8 : decode b_L_cosine 8 = .ok (.lastore, 1) := by decide +kernel
theorem d_L_cosine_9 : decode b_L_cosine 9 = .ok (.goto 7, 3) := by decide +kernel
theorem d_L_cosine_12 : decode b_L_cosine 12 = .ok (.astore 4, 2) := by decide +kernel
theorem d_L_cosine_14 : decode b_L_cosine 14 = .ok (.iconst 1, 1) := by decide +kernel
theorem d_L_cosine_15 : decode b_L_cosine 15 = .ok (.ireturn, 1) := by decide +kernel
theorem d_L_cosine_16 : decode b_L_cosine 16 = .ok (.iconst 0, 1) := by decide +kernel
theorem d_L_cosine_17 : decode b_L_cosine 17 = .ok (.ireturn, 1) := by decide +kernel
theorem d_L_height_0 : decode b_L_height 0 = .ok (.aload_n 2, 1) := by decide +kernel
theorem d_L_height_1 : decode b_L_height 1 = .ok (.iconst 0, 1) := by decide +kernel
theorem d_L_height_2 : decode b_L_height 2 = .ok (.aload_n 0, 1) := by decide +kernel
theorem d_L_height_3 : decode b_L_height 3 = .ok (.iload_n 1, 1) := by decide +kernel
theorem d_L_height_4 : decode b_L_height 4 = .ok (.invokevirtual 43, 3) := by decide +kernel
theorem d_L_height_7 : decode b_L_height 7 = .ok (.i2l, 1) := by decide +kernel
theorem d_L_height_8 : decode b_L_height 8 = .ok (.lastore, 1) := by decide +kernel
theorem d_L_height_9 : decode b_L_height 9 = .ok (.goto 6, 3) := by decide +kernel
theorem d_L_height_12 : decode b_L_height 12 = .ok (.astore_n 3, 1) := by decide +kernel
theorem d_L_height_13 : decode b_L_height 13 = .ok (.iconst 1, 1) := by decide +kernel
theorem d_L_height_14 : decode b_L_height 14 = .ok (.ireturn, 1) := by decide +kernel
theorem d_L_height_15 : decode b_L_height 15 = .ok (.iconst 0, 1) := by decide +kernel
theorem d_L_height_16 : decode b_L_height 16 = .ok (.ireturn, 1) := by decide +kernel
theorem d_L_mean_0 : decode b_L_mean 0 = .ok (.aload_n 3, 1) := by decide +kernel
theorem d_L_mean_1 : decode b_L_mean 1 = .ok (.iconst 0, 1) := by decide +kernel
theorem d_L_mean_2 : decode b_L_mean 2 = .ok (.aload_n 0, 1) := by decide +kernel
theorem d_L_mean_3 : decode b_L_mean 3 = .ok (.iload_n 1, 1) := by decide +kernel
theorem d_L_mean_4 : decode b_L_mean 4 = .ok (.iload_n 2, 1) := by decide +kernel
theorem d_L_mean_5 : decode b_L_mean 5 = .ok (.invokevirtual 46, 3) := by decide +kernel
theorem d_L_mean_8 : decode b_L_mean 8 = .ok (.i2l, 1) := by decide +kernel
theorem d_L_mean_9 : decode b_L_mean 9 = .ok (.lastore, 1) := by decide +kernel
theorem d_L_mean_10 : decode b_L_mean 10 = .ok (.goto 11, 3) := by decide +kernel
theorem d_L_mean_13 : decode b_L_mean 13 = .ok (.astore 4, 2) := by decide +kernel
theorem d_L_mean_15 : decode b_L_mean 15 = .ok (.iconst 1, 1) := by decide +kernel
theorem d_L_mean_16 : decode b_L_mean 16 = .ok (.ireturn, 1) := by decide +kernel
theorem d_L_mean_17 : decode b_L_mean 17 = .ok (.astore 4, 2) := by decide +kernel
theorem d_L_mean_19 : decode b_L_mean 19 = .ok (.iconst 2, 1) := by decide +kernel
theorem d_L_mean_20 : decode b_L_mean 20 = .ok (.ireturn, 1) := by decide +kernel
theorem d_L_mean_21 : decode b_L_mean 21 = .ok (.iconst 0, 1) := by decide +kernel
theorem d_L_mean_22 : decode b_L_mean 22 = .ok (.ireturn, 1) := by decide +kernel
theorem d_L_extremes_0 : decode b_L_extremes 0 = .ok (.aload_n 2, 1) := by decide +kernel
theorem d_L_extremes_1 : decode b_L_extremes 1 = .ok (.iconst 0, 1) := by decide +kernel
theorem d_L_extremes_2 : decode b_L_extremes 2 = .ok (.aload_n 0, 1) := by decide +kernel
theorem d_L_extremes_3 : decode b_L_extremes 3 = .ok (.iload_n 1, 1) := by decide +kernel
theorem d_L_extremes_4 : decode b_L_extremes 4 = .ok (.invokevirtual 49, 3) := by decide +kernel
theorem d_L_extremes_7 : decode b_L_extremes 7 = .ok (.i2l, 1) := by decide +kernel
theorem d_L_extremes_8 : decode b_L_extremes 8 = .ok (.lastore, 1) := by decide +kernel
theorem d_L_extremes_9 : decode b_L_extremes 9 = .ok (.goto 6, 3) := by decide +kernel
theorem d_L_extremes_12 : decode b_L_extremes 12 = .ok (.astore_n 3, 1) := by decide +kernel
theorem d_L_extremes_13 : decode b_L_extremes 13 = .ok (.iconst 1, 1) := by decide +kernel
theorem d_L_extremes_14 : decode b_L_extremes 14 = .ok (.ireturn, 1) := by decide +kernel
theorem d_L_extremes_15 : decode b_L_extremes 15 = .ok (.iconst 0, 1) := by decide +kernel
theorem d_L_extremes_16 : decode b_L_extremes 16 = .ok (.ireturn, 1) := by decide +kernel
theorem d_L_extreme_0 : decode b_L_extreme 0 = .ok (.aload 4, 2) := by decide +kernel
theorem d_L_extreme_2 : decode b_L_extreme 2 = .ok (.iconst 0, 1) := by decide +kernel
theorem d_L_extreme_3 : decode b_L_extreme 3 = .ok (.aload_n 0, 1) := by decide +kernel
theorem d_L_extreme_4 : decode b_L_extreme 4 = .ok (.iload_n 1, 1) := by decide +kernel
theorem d_L_extreme_5 : decode b_L_extreme 5 = .ok (.iload_n 2, 1) := by decide +kernel
theorem d_L_extreme_6 : decode b_L_extreme 6 = .ok (.iload_n 3, 1) := by decide +kernel
theorem d_L_extreme_7 : decode b_L_extreme 7 = .ok (.invokevirtual 52, 3) := by decide +kernel
theorem d_L_extreme_10 : decode b_L_extreme 10 = .ok (.i2l, 1) := by decide +kernel
theorem d_L_extreme_11 : decode b_L_extreme 11 = .ok (.lastore, 1) := by decide +kernel
theorem d_L_extreme_12 : decode b_L_extreme 12 = .ok (.goto 11, 3) := by decide +kernel
theorem d_L_extreme_15 : decode b_L_extreme 15 = .ok (.astore 5, 2) := by decide +kernel
theorem d_L_extreme_17 : decode b_L_extreme 17 = .ok (.iconst 1, 1) := by decide +kernel
theorem d_L_extreme_18 : decode b_L_extreme 18 = .ok (.ireturn, 1) := by decide +kernel
theorem d_L_extreme_19 : decode b_L_extreme 19 = .ok (.astore 5, 2) := by decide +kernel
theorem d_L_extreme_21 : decode b_L_extreme 21 = .ok (.iconst 2, 1) := by decide +kernel
theorem d_L_extreme_22 : decode b_L_extreme 22 = .ok (.ireturn, 1) := by decide +kernel
theorem d_L_extreme_23 : decode b_L_extreme 23 = .ok (.iconst 0, 1) := by decide +kernel
theorem d_L_extreme_24 : decode b_L_extreme 24 = .ok (.ireturn, 1) := by decide +kernel
theorem d_L_line_0 : decode b_L_line 0 = .ok (.aload_n 3, 1) := by decide +kernel
theorem d_L_line_1 : decode b_L_line 1 = .ok (.iconst 0, 1) := by decide +kernel
theorem d_L_line_2 : decode b_L_line 2 = .ok (.aload_n 0, 1) := by decide +kernel
theorem d_L_line_3 : decode b_L_line 3 = .ok (.iload_n 1, 1) := by decide +kernel
theorem d_L_line_4 : decode b_L_line 4 = .ok (.iload_n 2, 1) := by decide +kernel
theorem d_L_line_5 : decode b_L_line 5 = .ok (.invokevirtual 56, 3) := by decide +kernel
theorem d_L_line_8 : decode b_L_line 8 = .ok (.i2l, 1) := by decide +kernel
theorem d_L_line_9 : decode b_L_line 9 = .ok (.lastore, 1) := by decide +kernel
theorem d_L_line_10 : decode b_L_line 10 = .ok (.goto 7, 3) := by decide +kernel
theorem d_L_line_13 : decode b_L_line 13 = .ok (.astore 4, 2) := by decide +kernel
theorem d_L_line_15 : decode b_L_line 15 = .ok (.iconst 1, 1) := by decide +kernel
theorem d_L_line_16 : decode b_L_line 16 = .ok (.ireturn, 1) := by decide +kernel
theorem d_L_line_17 : decode b_L_line 17 = .ok (.iconst 0, 1) := by decide +kernel
theorem d_L_line_18 : decode b_L_line 18 = .ok (.ireturn, 1) := by decide +kernel
theorem d_L_sign_0 : decode b_L_sign 0 = .ok (.aload 4, 2) := by decide +kernel
theorem d_L_sign_2 : decode b_L_sign 2 = .ok (.iconst 0, 1) := by decide +kernel
theorem d_L_sign_3 : decode b_L_sign 3 = .ok (.aload_n 0, 1) := by decide +kernel
theorem d_L_sign_4 : decode b_L_sign 4 = .ok (.iload_n 1, 1) := by decide +kernel
theorem d_L_sign_5 : decode b_L_sign 5 = .ok (.iload_n 2, 1) := by decide +kernel
theorem d_L_sign_6 : decode b_L_sign 6 = .ok (.iload_n 3, 1) := by decide +kernel
theorem d_L_sign_7 : decode b_L_sign 7 = .ok (.invokevirtual 59, 3) := by decide +kernel
theorem d_L_sign_10 : decode b_L_sign 10 = .ok (.i2l, 1) := by decide +kernel
theorem d_L_sign_11 : decode b_L_sign 11 = .ok (.lastore, 1) := by decide +kernel
theorem d_L_sign_12 : decode b_L_sign 12 = .ok (.goto 7, 3) := by decide +kernel
theorem d_L_sign_15 : decode b_L_sign 15 = .ok (.astore 5, 2) := by decide +kernel
theorem d_L_sign_17 : decode b_L_sign 17 = .ok (.iconst 1, 1) := by decide +kernel
theorem d_L_sign_18 : decode b_L_sign 18 = .ok (.ireturn, 1) := by decide +kernel
theorem d_L_sign_19 : decode b_L_sign 19 = .ok (.iconst 0, 1) := by decide +kernel
theorem d_L_sign_20 : decode b_L_sign 20 = .ok (.ireturn, 1) := by decide +kernel
theorem d_L_above_0 : decode b_L_above 0 = .ok (.aload 4, 2) := by decide +kernel
theorem d_L_above_2 : decode b_L_above 2 = .ok (.iconst 0, 1) := by decide +kernel
theorem d_L_above_3 : decode b_L_above 3 = .ok (.aload_n 0, 1) := by decide +kernel
theorem d_L_above_4 : decode b_L_above 4 = .ok (.iload_n 1, 1) := by decide +kernel
theorem d_L_above_5 : decode b_L_above 5 = .ok (.iload_n 2, 1) := by decide +kernel
theorem d_L_above_6 : decode b_L_above 6 = .ok (.iload_n 3, 1) := by decide +kernel
theorem d_L_above_7 : decode b_L_above 7 = .ok (.invokevirtual 62, 3) := by decide +kernel
theorem d_L_above_10 : decode b_L_above 10 = .ok (.i2l, 1) := by decide +kernel
theorem d_L_above_11 : decode b_L_above 11 = .ok (.lastore, 1) := by decide +kernel
theorem d_L_above_12 : decode b_L_above 12 = .ok (.goto 11, 3) := by decide +kernel
theorem d_L_above_15 : decode b_L_above 15 = .ok (.astore 5, 2) := by decide +kernel
theorem d_L_above_17 : decode b_L_above 17 = .ok (.iconst 1, 1) := by decide +kernel
theorem d_L_above_18 : decode b_L_above 18 = .ok (.ireturn, 1) := by decide +kernel
theorem d_L_above_19 : decode b_L_above 19 = .ok (.astore 5, 2) := by decide +kernel
theorem d_L_above_21 : decode b_L_above 21 = .ok (.iconst 2, 1) := by decide +kernel
theorem d_L_above_22 : decode b_L_above 22 = .ok (.ireturn, 1) := by decide +kernel
theorem d_L_above_23 : decode b_L_above 23 = .ok (.iconst 0, 1) := by decide +kernel
theorem d_L_above_24 : decode b_L_above 24 = .ok (.ireturn, 1) := by decide +kernel
end
section
/-! the instructions of the law, decoded. Written by wip/whole/names.py -/
theorem d_L_law_0 : decode b_L_law 0 = .ok (.new 8, 3) := by decide +kernel
theorem d_L_law_3 : decode b_L_law 3 = .ok (.dup, 1) := by decide +kernel
theorem d_L_law_4 : decode b_L_law 4 = .ok (.invokespecial 65, 3) := by decide +kernel
theorem d_L_law_7 : decode b_L_law 7 = .ok (.astore_n 1, 1) := by decide +kernel
theorem d_L_law_8 : decode b_L_law 8 = .ok (.new 66, 3) := by decide +kernel
theorem d_L_law_11 : decode b_L_law 11 = .ok (.dup, 1) := by decide +kernel
theorem d_L_law_12 : decode b_L_law 12 = .ok (.invokespecial 68, 3) := by decide +kernel
theorem d_L_law_15 : decode b_L_law 15 = .ok (.astore_n 2, 1) := by decide +kernel
theorem d_L_law_16 : decode b_L_law 16 = .ok (.iconst 1, 1) := by decide +kernel
theorem d_L_law_17 : decode b_L_law 17 = .ok (.newarray .long, 2) := by decide +kernel
theorem d_L_law_19 : decode b_L_law 19 = .ok (.astore_n 3, 1) := by decide +kernel
theorem d_L_law_20 : decode b_L_law 20 = .ok (.iconst 0, 1) := by decide +kernel
theorem d_L_law_21 : decode b_L_law 21 = .ok (.istore 4, 2) := by decide +kernel
theorem d_L_law_23 : decode b_L_law 23 = .ok (.iload 4, 2) := by decide +kernel
theorem d_L_law_25 : decode b_L_law 25 = .ok (.aload_n 0, 1) := by decide +kernel
theorem d_L_law_26 : decode b_L_law 26 = .ok (.arraylength, 1) := by decide +kernel
theorem d_L_law_27 : decode b_L_law 27 = .ok (.bipush 7, 2) := by decide +kernel
theorem d_L_law_29 : decode b_L_law 29 = .ok (.isub, 1) := by decide +kernel
theorem d_L_law_30 : decode b_L_law 30 = .ok (.if_icmp .gt 1213, 3) := by decide +kernel
theorem d_L_law_33 : decode b_L_law 33 = .ok (.aload_n 0, 1) := by decide +kernel
theorem d_L_law_34 : decode b_L_law 34 = .ok (.iload 4, 2) := by decide +kernel
theorem d_L_law_36 : decode b_L_law 36 = .ok (.iaload, 1) := by decide +kernel
theorem d_L_law_37 : decode b_L_law 37 = .ok (.bipush 15, 2) := by decide +kernel
theorem d_L_law_39 : decode b_L_law 39 = .ok (.iand, 1) := by decide +kernel
theorem d_L_law_40 : decode b_L_law 40 = .ok (.tableswitch 1197 0 14 #[76, 132, 270, 374, 442, 498, 554, 621, 709, 765, 833, 889, 969, 1037, 1117], 76) := by decide +kernel
theorem d_L_law_116 : decode b_L_law 116 = .ok (.aload_n 1, 1) := by decide +kernel
theorem d_L_law_117 : decode b_L_law 117 = .ok (.aload_n 0, 1) := by decide +kernel
theorem d_L_law_118 : decode b_L_law 118 = .ok (.iload 4, 2) := by decide +kernel
theorem d_L_law_120 : decode b_L_law 120 = .ok (.iconst 1, 1) := by decide +kernel
theorem d_L_law_121 : decode b_L_law 121 = .ok (.iadd, 1) := by decide +kernel
theorem d_L_law_122 : decode b_L_law 122 = .ok (.iaload, 1) := by decide +kernel
theorem d_L_law_123 : decode b_L_law 123 = .ok (.aload_n 3, 1) := by decide +kernel
theorem d_L_law_124 : decode b_L_law 124 = .ok (.invokestatic 69, 3) := by decide +kernel
theorem d_L_law_127 : decode b_L_law 127 = .ok (.istore 5, 2) := by decide +kernel
theorem d_L_law_129 : decode b_L_law 129 = .ok (.aload_n 2, 1) := by decide +kernel
theorem d_L_law_130 : decode b_L_law 130 = .ok (.aload_n 0, 1) := by decide +kernel
theorem d_L_law_131 : decode b_L_law 131 = .ok (.iload 4, 2) := by decide +kernel
theorem d_L_law_133 : decode b_L_law 133 = .ok (.iconst 1, 1) := by decide +kernel
theorem d_L_law_134 : decode b_L_law 134 = .ok (.iadd, 1) := by decide +kernel
theorem d_L_law_135 : decode b_L_law 135 = .ok (.iaload, 1) := by decide +kernel
theorem d_L_law_136 : decode b_L_law 136 = .ok (.invokevirtual 74, 3) := by decide +kernel
theorem d_L_law_139 : decode b_L_law 139 = .ok (.istore 6, 2) := by decide +kernel
theorem d_L_law_141 : decode b_L_law 141 = .ok (.aload_n 2, 1) := by decide +kernel
theorem d_L_law_142 : decode b_L_law 142 = .ok (.invokevirtual 75, 3) := by decide +kernel
theorem d_L_law_145 : decode b_L_law 145 = .ok (.iload 5, 2) := by decide +kernel
theorem d_L_law_147 : decode b_L_law 147 = .ok (.if_icmp .eq 5, 3) := by decide +kernel
theorem d_L_law_150 : decode b_L_law 150 = .ok (.iconst 0, 1) := by decide +kernel
theorem d_L_law_151 : decode b_L_law 151 = .ok (.ireturn, 1) := by decide +kernel
theorem d_L_law_152 : decode b_L_law 152 = .ok (.iload 5, 2) := by decide +kernel
theorem d_L_law_154 : decode b_L_law 154 = .ok (.ifCond .ne 15, 3) := by decide +kernel
theorem d_L_law_157 : decode b_L_law 157 = .ok (.aload_n 3, 1) := by decide +kernel
theorem d_L_law_158 : decode b_L_law 158 = .ok (.iconst 0, 1) := by decide +kernel
theorem d_L_law_159 : decode b_L_law 159 = .ok (.laload, 1) := by decide +kernel
theorem d_L_law_160 : decode b_L_law 160 = .ok (.iload 6, 2) := by decide +kernel
theorem d_L_law_162 : decode b_L_law 162 = .ok (.i2l, 1) := by decide +kernel
theorem d_L_law_163 : decode b_L_law 163 = .ok (.lcmp, 1) := by decide +kernel
theorem d_L_law_164 : decode b_L_law 164 = .ok (.ifCond .eq 5, 3) := by decide +kernel
theorem d_L_law_167 : decode b_L_law 167 = .ok (.iconst 0, 1) := by decide +kernel
theorem d_L_law_168 : decode b_L_law 168 = .ok (.ireturn, 1) := by decide +kernel
theorem d_L_law_169 : decode b_L_law 169 = .ok (.goto 1068, 3) := by decide +kernel
theorem d_L_law_172 : decode b_L_law 172 = .ok (.aload_n 1, 1) := by decide +kernel
theorem d_L_law_173 : decode b_L_law 173 = .ok (.aload_n 0, 1) := by decide +kernel
theorem d_L_law_174 : decode b_L_law 174 = .ok (.iload 4, 2) := by decide +kernel
theorem d_L_law_176 : decode b_L_law 176 = .ok (.iconst 1, 1) := by decide +kernel
theorem d_L_law_177 : decode b_L_law 177 = .ok (.iadd, 1) := by decide +kernel
theorem d_L_law_178 : decode b_L_law 178 = .ok (.iaload, 1) := by decide +kernel
theorem d_L_law_179 : decode b_L_law 179 = .ok (.aload_n 0, 1) := by decide +kernel
theorem d_L_law_180 : decode b_L_law 180 = .ok (.iload 4, 2) := by decide +kernel
theorem d_L_law_182 : decode b_L_law 182 = .ok (.iconst 2, 1) := by decide +kernel
theorem d_L_law_183 : decode b_L_law 183 = .ok (.iadd, 1) := by decide +kernel
theorem d_L_law_184 : decode b_L_law 184 = .ok (.iaload, 1) := by decide +kernel
theorem d_L_law_185 : decode b_L_law 185 = .ok (.aload_n 0, 1) := by decide +kernel
theorem d_L_law_186 : decode b_L_law 186 = .ok (.iload 4, 2) := by decide +kernel
theorem d_L_law_188 : decode b_L_law 188 = .ok (.iconst 3, 1) := by decide +kernel
theorem d_L_law_189 : decode b_L_law 189 = .ok (.iadd, 1) := by decide +kernel
theorem d_L_law_190 : decode b_L_law 190 = .ok (.iaload, 1) := by decide +kernel
theorem d_L_law_191 : decode b_L_law 191 = .ok (.i2l, 1) := by decide +kernel
theorem d_L_law_192 : decode b_L_law 192 = .ok (.bipush 32, 2) := by decide +kernel
theorem d_L_law_194 : decode b_L_law 194 = .ok (.lshl, 1) := by decide +kernel
theorem d_L_law_195 : decode b_L_law 195 = .ok (.aload_n 0, 1) := by decide +kernel
theorem d_L_law_196 : decode b_L_law 196 = .ok (.iload 4, 2) := by decide +kernel
theorem d_L_law_198 : decode b_L_law 198 = .ok (.iconst 4, 1) := by decide +kernel
theorem d_L_law_199 : decode b_L_law 199 = .ok (.iadd, 1) := by decide +kernel
theorem d_L_law_200 : decode b_L_law 200 = .ok (.iaload, 1) := by decide +kernel
theorem d_L_law_201 : decode b_L_law 201 = .ok (.i2l, 1) := by decide +kernel
theorem d_L_law_202 : decode b_L_law 202 = .ok (.ldc2_w 79, 3) := by decide +kernel
theorem d_L_law_205 : decode b_L_law 205 = .ok (.land, 1) := by decide +kernel
theorem d_L_law_206 : decode b_L_law 206 = .ok (.lor, 1) := by decide +kernel
theorem d_L_law_207 : decode b_L_law 207 = .ok (.aload_n 0, 1) := by decide +kernel
theorem d_L_law_208 : decode b_L_law 208 = .ok (.iload 4, 2) := by decide +kernel
theorem d_L_law_210 : decode b_L_law 210 = .ok (.iconst 5, 1) := by decide +kernel
theorem d_L_law_211 : decode b_L_law 211 = .ok (.iadd, 1) := by decide +kernel
theorem d_L_law_212 : decode b_L_law 212 = .ok (.iaload, 1) := by decide +kernel
theorem d_L_law_213 : decode b_L_law 213 = .ok (.i2l, 1) := by decide +kernel
theorem d_L_law_214 : decode b_L_law 214 = .ok (.bipush 32, 2) := by decide +kernel
theorem d_L_law_216 : decode b_L_law 216 = .ok (.lshl, 1) := by decide +kernel
theorem d_L_law_217 : decode b_L_law 217 = .ok (.aload_n 0, 1) := by decide +kernel
theorem d_L_law_218 : decode b_L_law 218 = .ok (.iload 4, 2) := by decide +kernel
theorem d_L_law_220 : decode b_L_law 220 = .ok (.bipush 6, 2) := by decide +kernel
theorem d_L_law_222 : decode b_L_law 222 = .ok (.iadd, 1) := by decide +kernel
theorem d_L_law_223 : decode b_L_law 223 = .ok (.iaload, 1) := by decide +kernel
theorem d_L_law_224 : decode b_L_law 224 = .ok (.i2l, 1) := by decide +kernel
theorem d_L_law_225 : decode b_L_law 225 = .ok (.ldc2_w 79, 3) := by decide +kernel
theorem d_L_law_228 : decode b_L_law 228 = .ok (.land, 1) := by decide +kernel
theorem d_L_law_229 : decode b_L_law 229 = .ok (.lor, 1) := by decide +kernel
theorem d_L_law_230 : decode b_L_law 230 = .ok (.invokestatic 81, 3) := by decide +kernel
theorem d_L_law_233 : decode b_L_law 233 = .ok (.istore 5, 2) := by decide +kernel
theorem d_L_law_235 : decode b_L_law 235 = .ok (.aload_n 2, 1) := by decide +kernel
theorem d_L_law_236 : decode b_L_law 236 = .ok (.aload_n 0, 1) := by decide +kernel
theorem d_L_law_237 : decode b_L_law 237 = .ok (.iload 4, 2) := by decide +kernel
theorem d_L_law_239 : decode b_L_law 239 = .ok (.iconst 1, 1) := by decide +kernel
theorem d_L_law_240 : decode b_L_law 240 = .ok (.iadd, 1) := by decide +kernel
theorem d_L_law_241 : decode b_L_law 241 = .ok (.iaload, 1) := by decide +kernel
theorem d_L_law_242 : decode b_L_law 242 = .ok (.aload_n 0, 1) := by decide +kernel
theorem d_L_law_243 : decode b_L_law 243 = .ok (.iload 4, 2) := by decide +kernel
theorem d_L_law_245 : decode b_L_law 245 = .ok (.iconst 2, 1) := by decide +kernel
theorem d_L_law_246 : decode b_L_law 246 = .ok (.iadd, 1) := by decide +kernel
theorem d_L_law_247 : decode b_L_law 247 = .ok (.iaload, 1) := by decide +kernel
theorem d_L_law_248 : decode b_L_law 248 = .ok (.aload_n 0, 1) := by decide +kernel
theorem d_L_law_249 : decode b_L_law 249 = .ok (.iload 4, 2) := by decide +kernel
theorem d_L_law_251 : decode b_L_law 251 = .ok (.iconst 3, 1) := by decide +kernel
theorem d_L_law_252 : decode b_L_law 252 = .ok (.iadd, 1) := by decide +kernel
theorem d_L_law_253 : decode b_L_law 253 = .ok (.iaload, 1) := by decide +kernel
theorem d_L_law_254 : decode b_L_law 254 = .ok (.i2l, 1) := by decide +kernel
theorem d_L_law_255 : decode b_L_law 255 = .ok (.bipush 32, 2) := by decide +kernel
theorem d_L_law_257 : decode b_L_law 257 = .ok (.lshl, 1) := by decide +kernel
theorem d_L_law_258 : decode b_L_law 258 = .ok (.aload_n 0, 1) := by decide +kernel
theorem d_L_law_259 : decode b_L_law 259 = .ok (.iload 4, 2) := by decide +kernel
theorem d_L_law_261 : decode b_L_law 261 = .ok (.iconst 4, 1) := by decide +kernel
theorem d_L_law_262 : decode b_L_law 262 = .ok (.iadd, 1) := by decide +kernel
theorem d_L_law_263 : decode b_L_law 263 = .ok (.iaload, 1) := by decide +kernel
theorem d_L_law_264 : decode b_L_law 264 = .ok (.i2l, 1) := by decide +kernel
theorem d_L_law_265 : decode b_L_law 265 = .ok (.ldc2_w 79, 3) := by decide +kernel
theorem d_L_law_268 : decode b_L_law 268 = .ok (.land, 1) := by decide +kernel
theorem d_L_law_269 : decode b_L_law 269 = .ok (.lor, 1) := by decide +kernel
theorem d_L_law_270 : decode b_L_law 270 = .ok (.aload_n 0, 1) := by decide +kernel
theorem d_L_law_271 : decode b_L_law 271 = .ok (.iload 4, 2) := by decide +kernel
theorem d_L_law_273 : decode b_L_law 273 = .ok (.iconst 5, 1) := by decide +kernel
theorem d_L_law_274 : decode b_L_law 274 = .ok (.iadd, 1) := by decide +kernel
theorem d_L_law_275 : decode b_L_law 275 = .ok (.iaload, 1) := by decide +kernel
theorem d_L_law_276 : decode b_L_law 276 = .ok (.i2l, 1) := by decide +kernel
theorem d_L_law_277 : decode b_L_law 277 = .ok (.bipush 32, 2) := by decide +kernel
theorem d_L_law_279 : decode b_L_law 279 = .ok (.lshl, 1) := by decide +kernel
theorem d_L_law_280 : decode b_L_law 280 = .ok (.aload_n 0, 1) := by decide +kernel
theorem d_L_law_281 : decode b_L_law 281 = .ok (.iload 4, 2) := by decide +kernel
theorem d_L_law_283 : decode b_L_law 283 = .ok (.bipush 6, 2) := by decide +kernel
theorem d_L_law_285 : decode b_L_law 285 = .ok (.iadd, 1) := by decide +kernel
theorem d_L_law_286 : decode b_L_law 286 = .ok (.iaload, 1) := by decide +kernel
theorem d_L_law_287 : decode b_L_law 287 = .ok (.i2l, 1) := by decide +kernel
theorem d_L_law_288 : decode b_L_law 288 = .ok (.ldc2_w 79, 3) := by decide +kernel
theorem d_L_law_291 : decode b_L_law 291 = .ok (.land, 1) := by decide +kernel
theorem d_L_law_292 : decode b_L_law 292 = .ok (.lor, 1) := by decide +kernel
theorem d_L_law_293 : decode b_L_law 293 = .ok (.invokevirtual 84, 3) := by decide +kernel
theorem d_L_law_296 : decode b_L_law 296 = .ok (.aload_n 2, 1) := by decide +kernel
theorem d_L_law_297 : decode b_L_law 297 = .ok (.invokevirtual 75, 3) := by decide +kernel
theorem d_L_law_300 : decode b_L_law 300 = .ok (.iload 5, 2) := by decide +kernel
theorem d_L_law_302 : decode b_L_law 302 = .ok (.if_icmp .eq 5, 3) := by decide +kernel
theorem d_L_law_305 : decode b_L_law 305 = .ok (.iconst 0, 1) := by decide +kernel
theorem d_L_law_306 : decode b_L_law 306 = .ok (.ireturn, 1) := by decide +kernel
theorem d_L_law_307 : decode b_L_law 307 = .ok (.goto 930, 3) := by decide +kernel
theorem d_L_law_310 : decode b_L_law 310 = .ok (.aload_n 1, 1) := by decide +kernel
theorem d_L_law_311 : decode b_L_law 311 = .ok (.aload_n 0, 1) := by decide +kernel
theorem d_L_law_312 : decode b_L_law 312 = .ok (.iload 4, 2) := by decide +kernel
theorem d_L_law_314 : decode b_L_law 314 = .ok (.iconst 1, 1) := by decide +kernel
theorem d_L_law_315 : decode b_L_law 315 = .ok (.iadd, 1) := by decide +kernel
theorem d_L_law_316 : decode b_L_law 316 = .ok (.iaload, 1) := by decide +kernel
theorem d_L_law_317 : decode b_L_law 317 = .ok (.aload_n 0, 1) := by decide +kernel
theorem d_L_law_318 : decode b_L_law 318 = .ok (.iload 4, 2) := by decide +kernel
theorem d_L_law_320 : decode b_L_law 320 = .ok (.iconst 2, 1) := by decide +kernel
theorem d_L_law_321 : decode b_L_law 321 = .ok (.iadd, 1) := by decide +kernel
theorem d_L_law_322 : decode b_L_law 322 = .ok (.iaload, 1) := by decide +kernel
theorem d_L_law_323 : decode b_L_law 323 = .ok (.aload_n 0, 1) := by decide +kernel
theorem d_L_law_324 : decode b_L_law 324 = .ok (.iload 4, 2) := by decide +kernel
theorem d_L_law_326 : decode b_L_law 326 = .ok (.iconst 3, 1) := by decide +kernel
theorem d_L_law_327 : decode b_L_law 327 = .ok (.iadd, 1) := by decide +kernel
theorem d_L_law_328 : decode b_L_law 328 = .ok (.iaload, 1) := by decide +kernel
theorem d_L_law_329 : decode b_L_law 329 = .ok (.aload_n 0, 1) := by decide +kernel
theorem d_L_law_330 : decode b_L_law 330 = .ok (.iload 4, 2) := by decide +kernel
theorem d_L_law_332 : decode b_L_law 332 = .ok (.iconst 4, 1) := by decide +kernel
theorem d_L_law_333 : decode b_L_law 333 = .ok (.iadd, 1) := by decide +kernel
theorem d_L_law_334 : decode b_L_law 334 = .ok (.iaload, 1) := by decide +kernel
theorem d_L_law_335 : decode b_L_law 335 = .ok (.i2l, 1) := by decide +kernel
theorem d_L_law_336 : decode b_L_law 336 = .ok (.bipush 32, 2) := by decide +kernel
theorem d_L_law_338 : decode b_L_law 338 = .ok (.lshl, 1) := by decide +kernel
theorem d_L_law_339 : decode b_L_law 339 = .ok (.aload_n 0, 1) := by decide +kernel
theorem d_L_law_340 : decode b_L_law 340 = .ok (.iload 4, 2) := by decide +kernel
theorem d_L_law_342 : decode b_L_law 342 = .ok (.iconst 5, 1) := by decide +kernel
theorem d_L_law_343 : decode b_L_law 343 = .ok (.iadd, 1) := by decide +kernel
theorem d_L_law_344 : decode b_L_law 344 = .ok (.iaload, 1) := by decide +kernel
theorem d_L_law_345 : decode b_L_law 345 = .ok (.i2l, 1) := by decide +kernel
theorem d_L_law_346 : decode b_L_law 346 = .ok (.ldc2_w 79, 3) := by decide +kernel
theorem d_L_law_349 : decode b_L_law 349 = .ok (.land, 1) := by decide +kernel
theorem d_L_law_350 : decode b_L_law 350 = .ok (.lor, 1) := by decide +kernel
theorem d_L_law_351 : decode b_L_law 351 = .ok (.invokestatic 85, 3) := by decide +kernel
theorem d_L_law_354 : decode b_L_law 354 = .ok (.istore 5, 2) := by decide +kernel
theorem d_L_law_356 : decode b_L_law 356 = .ok (.aload_n 2, 1) := by decide +kernel
theorem d_L_law_357 : decode b_L_law 357 = .ok (.aload_n 0, 1) := by decide +kernel
theorem d_L_law_358 : decode b_L_law 358 = .ok (.iload 4, 2) := by decide +kernel
theorem d_L_law_360 : decode b_L_law 360 = .ok (.iconst 1, 1) := by decide +kernel
theorem d_L_law_361 : decode b_L_law 361 = .ok (.iadd, 1) := by decide +kernel
theorem d_L_law_362 : decode b_L_law 362 = .ok (.iaload, 1) := by decide +kernel
theorem d_L_law_363 : decode b_L_law 363 = .ok (.aload_n 0, 1) := by decide +kernel
theorem d_L_law_364 : decode b_L_law 364 = .ok (.iload 4, 2) := by decide +kernel
theorem d_L_law_366 : decode b_L_law 366 = .ok (.iconst 2, 1) := by decide +kernel
theorem d_L_law_367 : decode b_L_law 367 = .ok (.iadd, 1) := by decide +kernel
theorem d_L_law_368 : decode b_L_law 368 = .ok (.iaload, 1) := by decide +kernel
theorem d_L_law_369 : decode b_L_law 369 = .ok (.aload_n 0, 1) := by decide +kernel
theorem d_L_law_370 : decode b_L_law 370 = .ok (.iload 4, 2) := by decide +kernel
theorem d_L_law_372 : decode b_L_law 372 = .ok (.iconst 3, 1) := by decide +kernel
theorem d_L_law_373 : decode b_L_law 373 = .ok (.iadd, 1) := by decide +kernel
theorem d_L_law_374 : decode b_L_law 374 = .ok (.iaload, 1) := by decide +kernel
theorem d_L_law_375 : decode b_L_law 375 = .ok (.aload_n 0, 1) := by decide +kernel
theorem d_L_law_376 : decode b_L_law 376 = .ok (.iload 4, 2) := by decide +kernel
theorem d_L_law_378 : decode b_L_law 378 = .ok (.iconst 4, 1) := by decide +kernel
theorem d_L_law_379 : decode b_L_law 379 = .ok (.iadd, 1) := by decide +kernel
theorem d_L_law_380 : decode b_L_law 380 = .ok (.iaload, 1) := by decide +kernel
theorem d_L_law_381 : decode b_L_law 381 = .ok (.i2l, 1) := by decide +kernel
theorem d_L_law_382 : decode b_L_law 382 = .ok (.bipush 32, 2) := by decide +kernel
theorem d_L_law_384 : decode b_L_law 384 = .ok (.lshl, 1) := by decide +kernel
theorem d_L_law_385 : decode b_L_law 385 = .ok (.aload_n 0, 1) := by decide +kernel
theorem d_L_law_386 : decode b_L_law 386 = .ok (.iload 4, 2) := by decide +kernel
theorem d_L_law_388 : decode b_L_law 388 = .ok (.iconst 5, 1) := by decide +kernel
theorem d_L_law_389 : decode b_L_law 389 = .ok (.iadd, 1) := by decide +kernel
theorem d_L_law_390 : decode b_L_law 390 = .ok (.iaload, 1) := by decide +kernel
theorem d_L_law_391 : decode b_L_law 391 = .ok (.i2l, 1) := by decide +kernel
theorem d_L_law_392 : decode b_L_law 392 = .ok (.ldc2_w 79, 3) := by decide +kernel
theorem d_L_law_395 : decode b_L_law 395 = .ok (.land, 1) := by decide +kernel
theorem d_L_law_396 : decode b_L_law 396 = .ok (.lor, 1) := by decide +kernel
theorem d_L_law_397 : decode b_L_law 397 = .ok (.invokevirtual 88, 3) := by decide +kernel
theorem d_L_law_400 : decode b_L_law 400 = .ok (.aload_n 2, 1) := by decide +kernel
theorem d_L_law_401 : decode b_L_law 401 = .ok (.invokevirtual 75, 3) := by decide +kernel
theorem d_L_law_404 : decode b_L_law 404 = .ok (.iload 5, 2) := by decide +kernel
theorem d_L_law_406 : decode b_L_law 406 = .ok (.if_icmp .eq 5, 3) := by decide +kernel
theorem d_L_law_409 : decode b_L_law 409 = .ok (.iconst 0, 1) := by decide +kernel
theorem d_L_law_410 : decode b_L_law 410 = .ok (.ireturn, 1) := by decide +kernel
theorem d_L_law_411 : decode b_L_law 411 = .ok (.goto 826, 3) := by decide +kernel
theorem d_L_law_414 : decode b_L_law 414 = .ok (.aload_n 1, 1) := by decide +kernel
theorem d_L_law_415 : decode b_L_law 415 = .ok (.aload_n 0, 1) := by decide +kernel
theorem d_L_law_416 : decode b_L_law 416 = .ok (.iload 4, 2) := by decide +kernel
theorem d_L_law_418 : decode b_L_law 418 = .ok (.iconst 1, 1) := by decide +kernel
theorem d_L_law_419 : decode b_L_law 419 = .ok (.iadd, 1) := by decide +kernel
theorem d_L_law_420 : decode b_L_law 420 = .ok (.iaload, 1) := by decide +kernel
theorem d_L_law_421 : decode b_L_law 421 = .ok (.aload_n 0, 1) := by decide +kernel
theorem d_L_law_422 : decode b_L_law 422 = .ok (.iload 4, 2) := by decide +kernel
theorem d_L_law_424 : decode b_L_law 424 = .ok (.iconst 2, 1) := by decide +kernel
theorem d_L_law_425 : decode b_L_law 425 = .ok (.iadd, 1) := by decide +kernel
theorem d_L_law_426 : decode b_L_law 426 = .ok (.iaload, 1) := by decide +kernel
theorem d_L_law_427 : decode b_L_law 427 = .ok (.aload_n 3, 1) := by decide +kernel
theorem d_L_law_428 : decode b_L_law 428 = .ok (.invokestatic 89, 3) := by decide +kernel
theorem d_L_law_431 : decode b_L_law 431 = .ok (.istore 5, 2) := by decide +kernel
theorem d_L_law_433 : decode b_L_law 433 = .ok (.aload_n 2, 1) := by decide +kernel
theorem d_L_law_434 : decode b_L_law 434 = .ok (.aload_n 0, 1) := by decide +kernel
theorem d_L_law_435 : decode b_L_law 435 = .ok (.iload 4, 2) := by decide +kernel
theorem d_L_law_437 : decode b_L_law 437 = .ok (.iconst 1, 1) := by decide +kernel
theorem d_L_law_438 : decode b_L_law 438 = .ok (.iadd, 1) := by decide +kernel
theorem d_L_law_439 : decode b_L_law 439 = .ok (.iaload, 1) := by decide +kernel
theorem d_L_law_440 : decode b_L_law 440 = .ok (.aload_n 0, 1) := by decide +kernel
theorem d_L_law_441 : decode b_L_law 441 = .ok (.iload 4, 2) := by decide +kernel
theorem d_L_law_443 : decode b_L_law 443 = .ok (.iconst 2, 1) := by decide +kernel
theorem d_L_law_444 : decode b_L_law 444 = .ok (.iadd, 1) := by decide +kernel
theorem d_L_law_445 : decode b_L_law 445 = .ok (.iaload, 1) := by decide +kernel
theorem d_L_law_446 : decode b_L_law 446 = .ok (.invokevirtual 92, 3) := by decide +kernel
theorem d_L_law_449 : decode b_L_law 449 = .ok (.istore 6, 2) := by decide +kernel
theorem d_L_law_451 : decode b_L_law 451 = .ok (.aload_n 2, 1) := by decide +kernel
theorem d_L_law_452 : decode b_L_law 452 = .ok (.invokevirtual 75, 3) := by decide +kernel
theorem d_L_law_455 : decode b_L_law 455 = .ok (.iload 5, 2) := by decide +kernel
theorem d_L_law_457 : decode b_L_law 457 = .ok (.if_icmp .eq 5, 3) := by decide +kernel
theorem d_L_law_460 : decode b_L_law 460 = .ok (.iconst 0, 1) := by decide +kernel
theorem d_L_law_461 : decode b_L_law 461 = .ok (.ireturn, 1) := by decide +kernel
theorem d_L_law_462 : decode b_L_law 462 = .ok (.iload 5, 2) := by decide +kernel
theorem d_L_law_464 : decode b_L_law 464 = .ok (.ifCond .ne 15, 3) := by decide +kernel
theorem d_L_law_467 : decode b_L_law 467 = .ok (.aload_n 3, 1) := by decide +kernel
theorem d_L_law_468 : decode b_L_law 468 = .ok (.iconst 0, 1) := by decide +kernel
theorem d_L_law_469 : decode b_L_law 469 = .ok (.laload, 1) := by decide +kernel
theorem d_L_law_470 : decode b_L_law 470 = .ok (.iload 6, 2) := by decide +kernel
theorem d_L_law_472 : decode b_L_law 472 = .ok (.i2l, 1) := by decide +kernel
theorem d_L_law_473 : decode b_L_law 473 = .ok (.lcmp, 1) := by decide +kernel
theorem d_L_law_474 : decode b_L_law 474 = .ok (.ifCond .eq 5, 3) := by decide +kernel
theorem d_L_law_477 : decode b_L_law 477 = .ok (.iconst 0, 1) := by decide +kernel
theorem d_L_law_478 : decode b_L_law 478 = .ok (.ireturn, 1) := by decide +kernel
theorem d_L_law_479 : decode b_L_law 479 = .ok (.goto 758, 3) := by decide +kernel
theorem d_L_law_482 : decode b_L_law 482 = .ok (.aload_n 1, 1) := by decide +kernel
theorem d_L_law_483 : decode b_L_law 483 = .ok (.aload_n 0, 1) := by decide +kernel
theorem d_L_law_484 : decode b_L_law 484 = .ok (.iload 4, 2) := by decide +kernel
theorem d_L_law_486 : decode b_L_law 486 = .ok (.iconst 1, 1) := by decide +kernel
theorem d_L_law_487 : decode b_L_law 487 = .ok (.iadd, 1) := by decide +kernel
theorem d_L_law_488 : decode b_L_law 488 = .ok (.iaload, 1) := by decide +kernel
theorem d_L_law_489 : decode b_L_law 489 = .ok (.aload_n 3, 1) := by decide +kernel
theorem d_L_law_490 : decode b_L_law 490 = .ok (.invokestatic 93, 3) := by decide +kernel
theorem d_L_law_493 : decode b_L_law 493 = .ok (.istore 5, 2) := by decide +kernel
theorem d_L_law_495 : decode b_L_law 495 = .ok (.aload_n 2, 1) := by decide +kernel
theorem d_L_law_496 : decode b_L_law 496 = .ok (.aload_n 0, 1) := by decide +kernel
theorem d_L_law_497 : decode b_L_law 497 = .ok (.iload 4, 2) := by decide +kernel
theorem d_L_law_499 : decode b_L_law 499 = .ok (.iconst 1, 1) := by decide +kernel
theorem d_L_law_500 : decode b_L_law 500 = .ok (.iadd, 1) := by decide +kernel
theorem d_L_law_501 : decode b_L_law 501 = .ok (.iaload, 1) := by decide +kernel
theorem d_L_law_502 : decode b_L_law 502 = .ok (.invokevirtual 95, 3) := by decide +kernel
theorem d_L_law_505 : decode b_L_law 505 = .ok (.istore 6, 2) := by decide +kernel
theorem d_L_law_507 : decode b_L_law 507 = .ok (.aload_n 2, 1) := by decide +kernel
theorem d_L_law_508 : decode b_L_law 508 = .ok (.invokevirtual 75, 3) := by decide +kernel
theorem d_L_law_511 : decode b_L_law 511 = .ok (.iload 5, 2) := by decide +kernel
theorem d_L_law_513 : decode b_L_law 513 = .ok (.if_icmp .eq 5, 3) := by decide +kernel
theorem d_L_law_516 : decode b_L_law 516 = .ok (.iconst 0, 1) := by decide +kernel
theorem d_L_law_517 : decode b_L_law 517 = .ok (.ireturn, 1) := by decide +kernel
theorem d_L_law_518 : decode b_L_law 518 = .ok (.iload 5, 2) := by decide +kernel
theorem d_L_law_520 : decode b_L_law 520 = .ok (.ifCond .ne 15, 3) := by decide +kernel
theorem d_L_law_523 : decode b_L_law 523 = .ok (.aload_n 3, 1) := by decide +kernel
theorem d_L_law_524 : decode b_L_law 524 = .ok (.iconst 0, 1) := by decide +kernel
theorem d_L_law_525 : decode b_L_law 525 = .ok (.laload, 1) := by decide +kernel
theorem d_L_law_526 : decode b_L_law 526 = .ok (.iload 6, 2) := by decide +kernel
theorem d_L_law_528 : decode b_L_law 528 = .ok (.i2l, 1) := by decide +kernel
theorem d_L_law_529 : decode b_L_law 529 = .ok (.lcmp, 1) := by decide +kernel
theorem d_L_law_530 : decode b_L_law 530 = .ok (.ifCond .eq 5, 3) := by decide +kernel
theorem d_L_law_533 : decode b_L_law 533 = .ok (.iconst 0, 1) := by decide +kernel
theorem d_L_law_534 : decode b_L_law 534 = .ok (.ireturn, 1) := by decide +kernel
theorem d_L_law_535 : decode b_L_law 535 = .ok (.goto 702, 3) := by decide +kernel
theorem d_L_law_538 : decode b_L_law 538 = .ok (.aload_n 1, 1) := by decide +kernel
theorem d_L_law_539 : decode b_L_law 539 = .ok (.aload_n 0, 1) := by decide +kernel
theorem d_L_law_540 : decode b_L_law 540 = .ok (.iload 4, 2) := by decide +kernel
theorem d_L_law_542 : decode b_L_law 542 = .ok (.iconst 1, 1) := by decide +kernel
theorem d_L_law_543 : decode b_L_law 543 = .ok (.iadd, 1) := by decide +kernel
theorem d_L_law_544 : decode b_L_law 544 = .ok (.iaload, 1) := by decide +kernel
theorem d_L_law_545 : decode b_L_law 545 = .ok (.aload_n 3, 1) := by decide +kernel
theorem d_L_law_546 : decode b_L_law 546 = .ok (.invokestatic 96, 3) := by decide +kernel
theorem d_L_law_549 : decode b_L_law 549 = .ok (.istore 5, 2) := by decide +kernel
theorem d_L_law_551 : decode b_L_law 551 = .ok (.aload_n 2, 1) := by decide +kernel
theorem d_L_law_552 : decode b_L_law 552 = .ok (.aload_n 0, 1) := by decide +kernel
theorem d_L_law_553 : decode b_L_law 553 = .ok (.iload 4, 2) := by decide +kernel
theorem d_L_law_555 : decode b_L_law 555 = .ok (.iconst 1, 1) := by decide +kernel
theorem d_L_law_556 : decode b_L_law 556 = .ok (.iadd, 1) := by decide +kernel
theorem d_L_law_557 : decode b_L_law 557 = .ok (.iaload, 1) := by decide +kernel
theorem d_L_law_558 : decode b_L_law 558 = .ok (.invokevirtual 98, 3) := by decide +kernel
theorem d_L_law_561 : decode b_L_law 561 = .ok (.istore 6, 2) := by decide +kernel
theorem d_L_law_563 : decode b_L_law 563 = .ok (.aload_n 2, 1) := by decide +kernel
theorem d_L_law_564 : decode b_L_law 564 = .ok (.invokevirtual 75, 3) := by decide +kernel
theorem d_L_law_567 : decode b_L_law 567 = .ok (.iload 5, 2) := by decide +kernel
theorem d_L_law_569 : decode b_L_law 569 = .ok (.if_icmp .eq 5, 3) := by decide +kernel
theorem d_L_law_572 : decode b_L_law 572 = .ok (.iconst 0, 1) := by decide +kernel
theorem d_L_law_573 : decode b_L_law 573 = .ok (.ireturn, 1) := by decide +kernel
theorem d_L_law_574 : decode b_L_law 574 = .ok (.iload 5, 2) := by decide +kernel
theorem d_L_law_576 : decode b_L_law 576 = .ok (.ifCond .ne 15, 3) := by decide +kernel
theorem d_L_law_579 : decode b_L_law 579 = .ok (.aload_n 3, 1) := by decide +kernel
theorem d_L_law_580 : decode b_L_law 580 = .ok (.iconst 0, 1) := by decide +kernel
theorem d_L_law_581 : decode b_L_law 581 = .ok (.laload, 1) := by decide +kernel
theorem d_L_law_582 : decode b_L_law 582 = .ok (.iload 6, 2) := by decide +kernel
theorem d_L_law_584 : decode b_L_law 584 = .ok (.i2l, 1) := by decide +kernel
theorem d_L_law_585 : decode b_L_law 585 = .ok (.lcmp, 1) := by decide +kernel
theorem d_L_law_586 : decode b_L_law 586 = .ok (.ifCond .eq 5, 3) := by decide +kernel
theorem d_L_law_589 : decode b_L_law 589 = .ok (.iconst 0, 1) := by decide +kernel
theorem d_L_law_590 : decode b_L_law 590 = .ok (.ireturn, 1) := by decide +kernel
theorem d_L_law_591 : decode b_L_law 591 = .ok (.goto 646, 3) := by decide +kernel
theorem d_L_law_594 : decode b_L_law 594 = .ok (.aload_n 1, 1) := by decide +kernel
theorem d_L_law_595 : decode b_L_law 595 = .ok (.aload_n 0, 1) := by decide +kernel
theorem d_L_law_596 : decode b_L_law 596 = .ok (.iload 4, 2) := by decide +kernel
theorem d_L_law_598 : decode b_L_law 598 = .ok (.iconst 1, 1) := by decide +kernel
theorem d_L_law_599 : decode b_L_law 599 = .ok (.iadd, 1) := by decide +kernel
theorem d_L_law_600 : decode b_L_law 600 = .ok (.iaload, 1) := by decide +kernel
theorem d_L_law_601 : decode b_L_law 601 = .ok (.aload_n 0, 1) := by decide +kernel
theorem d_L_law_602 : decode b_L_law 602 = .ok (.iload 4, 2) := by decide +kernel
theorem d_L_law_604 : decode b_L_law 604 = .ok (.iconst 2, 1) := by decide +kernel
theorem d_L_law_605 : decode b_L_law 605 = .ok (.iadd, 1) := by decide +kernel
theorem d_L_law_606 : decode b_L_law 606 = .ok (.iaload, 1) := by decide +kernel
theorem d_L_law_607 : decode b_L_law 607 = .ok (.aload_n 3, 1) := by decide +kernel
theorem d_L_law_608 : decode b_L_law 608 = .ok (.invokestatic 99, 3) := by decide +kernel
theorem d_L_law_611 : decode b_L_law 611 = .ok (.istore 5, 2) := by decide +kernel
theorem d_L_law_613 : decode b_L_law 613 = .ok (.aload_n 2, 1) := by decide +kernel
theorem d_L_law_614 : decode b_L_law 614 = .ok (.aload_n 0, 1) := by decide +kernel
theorem d_L_law_615 : decode b_L_law 615 = .ok (.iload 4, 2) := by decide +kernel
theorem d_L_law_617 : decode b_L_law 617 = .ok (.iconst 1, 1) := by decide +kernel
theorem d_L_law_618 : decode b_L_law 618 = .ok (.iadd, 1) := by decide +kernel
theorem d_L_law_619 : decode b_L_law 619 = .ok (.iaload, 1) := by decide +kernel
theorem d_L_law_620 : decode b_L_law 620 = .ok (.aload_n 0, 1) := by decide +kernel
theorem d_L_law_621 : decode b_L_law 621 = .ok (.iload 4, 2) := by decide +kernel
theorem d_L_law_623 : decode b_L_law 623 = .ok (.iconst 2, 1) := by decide +kernel
theorem d_L_law_624 : decode b_L_law 624 = .ok (.iadd, 1) := by decide +kernel
theorem d_L_law_625 : decode b_L_law 625 = .ok (.iaload, 1) := by decide +kernel
theorem d_L_law_626 : decode b_L_law 626 = .ok (.invokevirtual 101, 3) := by decide +kernel
theorem d_L_law_629 : decode b_L_law 629 = .ok (.lstore 6, 2) := by decide +kernel
theorem d_L_law_631 : decode b_L_law 631 = .ok (.aload_n 2, 1) := by decide +kernel
theorem d_L_law_632 : decode b_L_law 632 = .ok (.invokevirtual 75, 3) := by decide +kernel
theorem d_L_law_635 : decode b_L_law 635 = .ok (.iload 5, 2) := by decide +kernel
theorem d_L_law_637 : decode b_L_law 637 = .ok (.if_icmp .eq 5, 3) := by decide +kernel
theorem d_L_law_640 : decode b_L_law 640 = .ok (.iconst 0, 1) := by decide +kernel
theorem d_L_law_641 : decode b_L_law 641 = .ok (.ireturn, 1) := by decide +kernel
theorem d_L_law_642 : decode b_L_law 642 = .ok (.iload 5, 2) := by decide +kernel
theorem d_L_law_644 : decode b_L_law 644 = .ok (.ifCond .ne 14, 3) := by decide +kernel
theorem d_L_law_647 : decode b_L_law 647 = .ok (.aload_n 3, 1) := by decide +kernel
theorem d_L_law_648 : decode b_L_law 648 = .ok (.iconst 0, 1) := by decide +kernel
theorem d_L_law_649 : decode b_L_law 649 = .ok (.laload, 1) := by decide +kernel
theorem d_L_law_650 : decode b_L_law 650 = .ok (.lload 6, 2) := by decide +kernel
theorem d_L_law_652 : decode b_L_law 652 = .ok (.lcmp, 1) := by decide +kernel
theorem d_L_law_653 : decode b_L_law 653 = .ok (.ifCond .eq 5, 3) := by decide +kernel
theorem d_L_law_656 : decode b_L_law 656 = .ok (.iconst 0, 1) := by decide +kernel
theorem d_L_law_657 : decode b_L_law 657 = .ok (.ireturn, 1) := by decide +kernel
theorem d_L_law_658 : decode b_L_law 658 = .ok (.goto 579, 3) := by decide +kernel
theorem d_L_law_661 : decode b_L_law 661 = .ok (.aload_n 1, 1) := by decide +kernel
theorem d_L_law_662 : decode b_L_law 662 = .ok (.aload_n 0, 1) := by decide +kernel
theorem d_L_law_663 : decode b_L_law 663 = .ok (.iload 4, 2) := by decide +kernel
theorem d_L_law_665 : decode b_L_law 665 = .ok (.iconst 1, 1) := by decide +kernel
theorem d_L_law_666 : decode b_L_law 666 = .ok (.iadd, 1) := by decide +kernel
theorem d_L_law_667 : decode b_L_law 667 = .ok (.iaload, 1) := by decide +kernel
theorem d_L_law_668 : decode b_L_law 668 = .ok (.i2l, 1) := by decide +kernel
theorem d_L_law_669 : decode b_L_law 669 = .ok (.bipush 32, 2) := by decide +kernel
theorem d_L_law_671 : decode b_L_law 671 = .ok (.lshl, 1) := by decide +kernel
theorem d_L_law_672 : decode b_L_law 672 = .ok (.aload_n 0, 1) := by decide +kernel
theorem d_L_law_673 : decode b_L_law 673 = .ok (.iload 4, 2) := by decide +kernel
theorem d_L_law_675 : decode b_L_law 675 = .ok (.iconst 2, 1) := by decide +kernel
theorem d_L_law_676 : decode b_L_law 676 = .ok (.iadd, 1) := by decide +kernel
theorem d_L_law_677 : decode b_L_law 677 = .ok (.iaload, 1) := by decide +kernel
theorem d_L_law_678 : decode b_L_law 678 = .ok (.i2l, 1) := by decide +kernel
theorem d_L_law_679 : decode b_L_law 679 = .ok (.ldc2_w 79, 3) := by decide +kernel
theorem d_L_law_682 : decode b_L_law 682 = .ok (.land, 1) := by decide +kernel
theorem d_L_law_683 : decode b_L_law 683 = .ok (.lor, 1) := by decide +kernel
theorem d_L_law_684 : decode b_L_law 684 = .ok (.aload_n 3, 1) := by decide +kernel
theorem d_L_law_685 : decode b_L_law 685 = .ok (.invokestatic 102, 3) := by decide +kernel
theorem d_L_law_688 : decode b_L_law 688 = .ok (.istore 5, 2) := by decide +kernel
theorem d_L_law_690 : decode b_L_law 690 = .ok (.aload_n 2, 1) := by decide +kernel
theorem d_L_law_691 : decode b_L_law 691 = .ok (.aload_n 0, 1) := by decide +kernel
theorem d_L_law_692 : decode b_L_law 692 = .ok (.iload 4, 2) := by decide +kernel
theorem d_L_law_694 : decode b_L_law 694 = .ok (.iconst 1, 1) := by decide +kernel
theorem d_L_law_695 : decode b_L_law 695 = .ok (.iadd, 1) := by decide +kernel
theorem d_L_law_696 : decode b_L_law 696 = .ok (.iaload, 1) := by decide +kernel
theorem d_L_law_697 : decode b_L_law 697 = .ok (.i2l, 1) := by decide +kernel
theorem d_L_law_698 : decode b_L_law 698 = .ok (.bipush 32, 2) := by decide +kernel
theorem d_L_law_700 : decode b_L_law 700 = .ok (.lshl, 1) := by decide +kernel
theorem d_L_law_701 : decode b_L_law 701 = .ok (.aload_n 0, 1) := by decide +kernel
theorem d_L_law_702 : decode b_L_law 702 = .ok (.iload 4, 2) := by decide +kernel
theorem d_L_law_704 : decode b_L_law 704 = .ok (.iconst 2, 1) := by decide +kernel
theorem d_L_law_705 : decode b_L_law 705 = .ok (.iadd, 1) := by decide +kernel
theorem d_L_law_706 : decode b_L_law 706 = .ok (.iaload, 1) := by decide +kernel
theorem d_L_law_707 : decode b_L_law 707 = .ok (.i2l, 1) := by decide +kernel
theorem d_L_law_708 : decode b_L_law 708 = .ok (.ldc2_w 79, 3) := by decide +kernel
theorem d_L_law_711 : decode b_L_law 711 = .ok (.land, 1) := by decide +kernel
theorem d_L_law_712 : decode b_L_law 712 = .ok (.lor, 1) := by decide +kernel
theorem d_L_law_713 : decode b_L_law 713 = .ok (.invokevirtual 105, 3) := by decide +kernel
theorem d_L_law_716 : decode b_L_law 716 = .ok (.istore 6, 2) := by decide +kernel
theorem d_L_law_718 : decode b_L_law 718 = .ok (.aload_n 2, 1) := by decide +kernel
theorem d_L_law_719 : decode b_L_law 719 = .ok (.invokevirtual 75, 3) := by decide +kernel
theorem d_L_law_722 : decode b_L_law 722 = .ok (.iload 5, 2) := by decide +kernel
theorem d_L_law_724 : decode b_L_law 724 = .ok (.if_icmp .eq 5, 3) := by decide +kernel
theorem d_L_law_727 : decode b_L_law 727 = .ok (.iconst 0, 1) := by decide +kernel
theorem d_L_law_728 : decode b_L_law 728 = .ok (.ireturn, 1) := by decide +kernel
theorem d_L_law_729 : decode b_L_law 729 = .ok (.iload 5, 2) := by decide +kernel
theorem d_L_law_731 : decode b_L_law 731 = .ok (.ifCond .ne 15, 3) := by decide +kernel
theorem d_L_law_734 : decode b_L_law 734 = .ok (.aload_n 3, 1) := by decide +kernel
theorem d_L_law_735 : decode b_L_law 735 = .ok (.iconst 0, 1) := by decide +kernel
theorem d_L_law_736 : decode b_L_law 736 = .ok (.laload, 1) := by decide +kernel
theorem d_L_law_737 : decode b_L_law 737 = .ok (.iload 6, 2) := by decide +kernel
theorem d_L_law_739 : decode b_L_law 739 = .ok (.i2l, 1) := by decide +kernel
theorem d_L_law_740 : decode b_L_law 740 = .ok (.lcmp, 1) := by decide +kernel
theorem d_L_law_741 : decode b_L_law 741 = .ok (.ifCond .eq 5, 3) := by decide +kernel
theorem d_L_law_744 : decode b_L_law 744 = .ok (.iconst 0, 1) := by decide +kernel
theorem d_L_law_745 : decode b_L_law 745 = .ok (.ireturn, 1) := by decide +kernel
theorem d_L_law_746 : decode b_L_law 746 = .ok (.goto 491, 3) := by decide +kernel
theorem d_L_law_749 : decode b_L_law 749 = .ok (.aload_n 1, 1) := by decide +kernel
theorem d_L_law_750 : decode b_L_law 750 = .ok (.aload_n 0, 1) := by decide +kernel
theorem d_L_law_751 : decode b_L_law 751 = .ok (.iload 4, 2) := by decide +kernel
theorem d_L_law_753 : decode b_L_law 753 = .ok (.iconst 1, 1) := by decide +kernel
theorem d_L_law_754 : decode b_L_law 754 = .ok (.iadd, 1) := by decide +kernel
theorem d_L_law_755 : decode b_L_law 755 = .ok (.iaload, 1) := by decide +kernel
theorem d_L_law_756 : decode b_L_law 756 = .ok (.aload_n 3, 1) := by decide +kernel
theorem d_L_law_757 : decode b_L_law 757 = .ok (.invokestatic 106, 3) := by decide +kernel
theorem d_L_law_760 : decode b_L_law 760 = .ok (.istore 5, 2) := by decide +kernel
theorem d_L_law_762 : decode b_L_law 762 = .ok (.aload_n 2, 1) := by decide +kernel
theorem d_L_law_763 : decode b_L_law 763 = .ok (.aload_n 0, 1) := by decide +kernel
theorem d_L_law_764 : decode b_L_law 764 = .ok (.iload 4, 2) := by decide +kernel
theorem d_L_law_766 : decode b_L_law 766 = .ok (.iconst 1, 1) := by decide +kernel
theorem d_L_law_767 : decode b_L_law 767 = .ok (.iadd, 1) := by decide +kernel
theorem d_L_law_768 : decode b_L_law 768 = .ok (.iaload, 1) := by decide +kernel
theorem d_L_law_769 : decode b_L_law 769 = .ok (.invokevirtual 108, 3) := by decide +kernel
theorem d_L_law_772 : decode b_L_law 772 = .ok (.istore 6, 2) := by decide +kernel
theorem d_L_law_774 : decode b_L_law 774 = .ok (.aload_n 2, 1) := by decide +kernel
theorem d_L_law_775 : decode b_L_law 775 = .ok (.invokevirtual 75, 3) := by decide +kernel
theorem d_L_law_778 : decode b_L_law 778 = .ok (.iload 5, 2) := by decide +kernel
theorem d_L_law_780 : decode b_L_law 780 = .ok (.if_icmp .eq 5, 3) := by decide +kernel
theorem d_L_law_783 : decode b_L_law 783 = .ok (.iconst 0, 1) := by decide +kernel
theorem d_L_law_784 : decode b_L_law 784 = .ok (.ireturn, 1) := by decide +kernel
theorem d_L_law_785 : decode b_L_law 785 = .ok (.iload 5, 2) := by decide +kernel
theorem d_L_law_787 : decode b_L_law 787 = .ok (.ifCond .ne 15, 3) := by decide +kernel
theorem d_L_law_790 : decode b_L_law 790 = .ok (.aload_n 3, 1) := by decide +kernel
theorem d_L_law_791 : decode b_L_law 791 = .ok (.iconst 0, 1) := by decide +kernel
theorem d_L_law_792 : decode b_L_law 792 = .ok (.laload, 1) := by decide +kernel
theorem d_L_law_793 : decode b_L_law 793 = .ok (.iload 6, 2) := by decide +kernel
theorem d_L_law_795 : decode b_L_law 795 = .ok (.i2l, 1) := by decide +kernel
theorem d_L_law_796 : decode b_L_law 796 = .ok (.lcmp, 1) := by decide +kernel
theorem d_L_law_797 : decode b_L_law 797 = .ok (.ifCond .eq 5, 3) := by decide +kernel
theorem d_L_law_800 : decode b_L_law 800 = .ok (.iconst 0, 1) := by decide +kernel
theorem d_L_law_801 : decode b_L_law 801 = .ok (.ireturn, 1) := by decide +kernel
theorem d_L_law_802 : decode b_L_law 802 = .ok (.goto 435, 3) := by decide +kernel
theorem d_L_law_805 : decode b_L_law 805 = .ok (.aload_n 1, 1) := by decide +kernel
theorem d_L_law_806 : decode b_L_law 806 = .ok (.aload_n 0, 1) := by decide +kernel
theorem d_L_law_807 : decode b_L_law 807 = .ok (.iload 4, 2) := by decide +kernel
theorem d_L_law_809 : decode b_L_law 809 = .ok (.iconst 1, 1) := by decide +kernel
theorem d_L_law_810 : decode b_L_law 810 = .ok (.iadd, 1) := by decide +kernel
theorem d_L_law_811 : decode b_L_law 811 = .ok (.iaload, 1) := by decide +kernel
theorem d_L_law_812 : decode b_L_law 812 = .ok (.aload_n 0, 1) := by decide +kernel
theorem d_L_law_813 : decode b_L_law 813 = .ok (.iload 4, 2) := by decide +kernel
theorem d_L_law_815 : decode b_L_law 815 = .ok (.iconst 2, 1) := by decide +kernel
theorem d_L_law_816 : decode b_L_law 816 = .ok (.iadd, 1) := by decide +kernel
theorem d_L_law_817 : decode b_L_law 817 = .ok (.iaload, 1) := by decide +kernel
theorem d_L_law_818 : decode b_L_law 818 = .ok (.aload_n 3, 1) := by decide +kernel
theorem d_L_law_819 : decode b_L_law 819 = .ok (.invokestatic 109, 3) := by decide +kernel
theorem d_L_law_822 : decode b_L_law 822 = .ok (.istore 5, 2) := by decide +kernel
theorem d_L_law_824 : decode b_L_law 824 = .ok (.aload_n 2, 1) := by decide +kernel
theorem d_L_law_825 : decode b_L_law 825 = .ok (.aload_n 0, 1) := by decide +kernel
theorem d_L_law_826 : decode b_L_law 826 = .ok (.iload 4, 2) := by decide +kernel
theorem d_L_law_828 : decode b_L_law 828 = .ok (.iconst 1, 1) := by decide +kernel
theorem d_L_law_829 : decode b_L_law 829 = .ok (.iadd, 1) := by decide +kernel
theorem d_L_law_830 : decode b_L_law 830 = .ok (.iaload, 1) := by decide +kernel
theorem d_L_law_831 : decode b_L_law 831 = .ok (.aload_n 0, 1) := by decide +kernel
theorem d_L_law_832 : decode b_L_law 832 = .ok (.iload 4, 2) := by decide +kernel
theorem d_L_law_834 : decode b_L_law 834 = .ok (.iconst 2, 1) := by decide +kernel
theorem d_L_law_835 : decode b_L_law 835 = .ok (.iadd, 1) := by decide +kernel
theorem d_L_law_836 : decode b_L_law 836 = .ok (.iaload, 1) := by decide +kernel
theorem d_L_law_837 : decode b_L_law 837 = .ok (.invokevirtual 111, 3) := by decide +kernel
theorem d_L_law_840 : decode b_L_law 840 = .ok (.istore 6, 2) := by decide +kernel
theorem d_L_law_842 : decode b_L_law 842 = .ok (.aload_n 2, 1) := by decide +kernel
theorem d_L_law_843 : decode b_L_law 843 = .ok (.invokevirtual 75, 3) := by decide +kernel
theorem d_L_law_846 : decode b_L_law 846 = .ok (.iload 5, 2) := by decide +kernel
theorem d_L_law_848 : decode b_L_law 848 = .ok (.if_icmp .eq 5, 3) := by decide +kernel
theorem d_L_law_851 : decode b_L_law 851 = .ok (.iconst 0, 1) := by decide +kernel
theorem d_L_law_852 : decode b_L_law 852 = .ok (.ireturn, 1) := by decide +kernel
theorem d_L_law_853 : decode b_L_law 853 = .ok (.iload 5, 2) := by decide +kernel
theorem d_L_law_855 : decode b_L_law 855 = .ok (.ifCond .ne 15, 3) := by decide +kernel
theorem d_L_law_858 : decode b_L_law 858 = .ok (.aload_n 3, 1) := by decide +kernel
theorem d_L_law_859 : decode b_L_law 859 = .ok (.iconst 0, 1) := by decide +kernel
theorem d_L_law_860 : decode b_L_law 860 = .ok (.laload, 1) := by decide +kernel
theorem d_L_law_861 : decode b_L_law 861 = .ok (.iload 6, 2) := by decide +kernel
theorem d_L_law_863 : decode b_L_law 863 = .ok (.i2l, 1) := by decide +kernel
theorem d_L_law_864 : decode b_L_law 864 = .ok (.lcmp, 1) := by decide +kernel
theorem d_L_law_865 : decode b_L_law 865 = .ok (.ifCond .eq 5, 3) := by decide +kernel
theorem d_L_law_868 : decode b_L_law 868 = .ok (.iconst 0, 1) := by decide +kernel
theorem d_L_law_869 : decode b_L_law 869 = .ok (.ireturn, 1) := by decide +kernel
theorem d_L_law_870 : decode b_L_law 870 = .ok (.goto 367, 3) := by decide +kernel
theorem d_L_law_873 : decode b_L_law 873 = .ok (.aload_n 1, 1) := by decide +kernel
theorem d_L_law_874 : decode b_L_law 874 = .ok (.aload_n 0, 1) := by decide +kernel
theorem d_L_law_875 : decode b_L_law 875 = .ok (.iload 4, 2) := by decide +kernel
theorem d_L_law_877 : decode b_L_law 877 = .ok (.iconst 1, 1) := by decide +kernel
theorem d_L_law_878 : decode b_L_law 878 = .ok (.iadd, 1) := by decide +kernel
theorem d_L_law_879 : decode b_L_law 879 = .ok (.iaload, 1) := by decide +kernel
theorem d_L_law_880 : decode b_L_law 880 = .ok (.aload_n 3, 1) := by decide +kernel
theorem d_L_law_881 : decode b_L_law 881 = .ok (.invokestatic 112, 3) := by decide +kernel
theorem d_L_law_884 : decode b_L_law 884 = .ok (.istore 5, 2) := by decide +kernel
theorem d_L_law_886 : decode b_L_law 886 = .ok (.aload_n 2, 1) := by decide +kernel
theorem d_L_law_887 : decode b_L_law 887 = .ok (.aload_n 0, 1) := by decide +kernel
theorem d_L_law_888 : decode b_L_law 888 = .ok (.iload 4, 2) := by decide +kernel
theorem d_L_law_890 : decode b_L_law 890 = .ok (.iconst 1, 1) := by decide +kernel
theorem d_L_law_891 : decode b_L_law 891 = .ok (.iadd, 1) := by decide +kernel
theorem d_L_law_892 : decode b_L_law 892 = .ok (.iaload, 1) := by decide +kernel
theorem d_L_law_893 : decode b_L_law 893 = .ok (.invokevirtual 114, 3) := by decide +kernel
theorem d_L_law_896 : decode b_L_law 896 = .ok (.istore 6, 2) := by decide +kernel
theorem d_L_law_898 : decode b_L_law 898 = .ok (.aload_n 2, 1) := by decide +kernel
theorem d_L_law_899 : decode b_L_law 899 = .ok (.invokevirtual 75, 3) := by decide +kernel
theorem d_L_law_902 : decode b_L_law 902 = .ok (.iload 5, 2) := by decide +kernel
theorem d_L_law_904 : decode b_L_law 904 = .ok (.if_icmp .eq 5, 3) := by decide +kernel
theorem d_L_law_907 : decode b_L_law 907 = .ok (.iconst 0, 1) := by decide +kernel
theorem d_L_law_908 : decode b_L_law 908 = .ok (.ireturn, 1) := by decide +kernel
theorem d_L_law_909 : decode b_L_law 909 = .ok (.iload 5, 2) := by decide +kernel
theorem d_L_law_911 : decode b_L_law 911 = .ok (.ifCond .ne 15, 3) := by decide +kernel
theorem d_L_law_914 : decode b_L_law 914 = .ok (.aload_n 3, 1) := by decide +kernel
theorem d_L_law_915 : decode b_L_law 915 = .ok (.iconst 0, 1) := by decide +kernel
theorem d_L_law_916 : decode b_L_law 916 = .ok (.laload, 1) := by decide +kernel
theorem d_L_law_917 : decode b_L_law 917 = .ok (.iload 6, 2) := by decide +kernel
theorem d_L_law_919 : decode b_L_law 919 = .ok (.i2l, 1) := by decide +kernel
theorem d_L_law_920 : decode b_L_law 920 = .ok (.lcmp, 1) := by decide +kernel
theorem d_L_law_921 : decode b_L_law 921 = .ok (.ifCond .eq 5, 3) := by decide +kernel
theorem d_L_law_924 : decode b_L_law 924 = .ok (.iconst 0, 1) := by decide +kernel
theorem d_L_law_925 : decode b_L_law 925 = .ok (.ireturn, 1) := by decide +kernel
theorem d_L_law_926 : decode b_L_law 926 = .ok (.goto 311, 3) := by decide +kernel
theorem d_L_law_929 : decode b_L_law 929 = .ok (.aload_n 1, 1) := by decide +kernel
theorem d_L_law_930 : decode b_L_law 930 = .ok (.aload_n 0, 1) := by decide +kernel
theorem d_L_law_931 : decode b_L_law 931 = .ok (.iload 4, 2) := by decide +kernel
theorem d_L_law_933 : decode b_L_law 933 = .ok (.iconst 1, 1) := by decide +kernel
theorem d_L_law_934 : decode b_L_law 934 = .ok (.iadd, 1) := by decide +kernel
theorem d_L_law_935 : decode b_L_law 935 = .ok (.iaload, 1) := by decide +kernel
theorem d_L_law_936 : decode b_L_law 936 = .ok (.aload_n 0, 1) := by decide +kernel
theorem d_L_law_937 : decode b_L_law 937 = .ok (.iload 4, 2) := by decide +kernel
theorem d_L_law_939 : decode b_L_law 939 = .ok (.iconst 2, 1) := by decide +kernel
theorem d_L_law_940 : decode b_L_law 940 = .ok (.iadd, 1) := by decide +kernel
theorem d_L_law_941 : decode b_L_law 941 = .ok (.iaload, 1) := by decide +kernel
theorem d_L_law_942 : decode b_L_law 942 = .ok (.aload_n 0, 1) := by decide +kernel
theorem d_L_law_943 : decode b_L_law 943 = .ok (.iload 4, 2) := by decide +kernel
theorem d_L_law_945 : decode b_L_law 945 = .ok (.iconst 3, 1) := by decide +kernel
theorem d_L_law_946 : decode b_L_law 946 = .ok (.iadd, 1) := by decide +kernel
theorem d_L_law_947 : decode b_L_law 947 = .ok (.iaload, 1) := by decide +kernel
theorem d_L_law_948 : decode b_L_law 948 = .ok (.aload_n 3, 1) := by decide +kernel
theorem d_L_law_949 : decode b_L_law 949 = .ok (.invokestatic 115, 3) := by decide +kernel
theorem d_L_law_952 : decode b_L_law 952 = .ok (.istore 5, 2) := by decide +kernel
theorem d_L_law_954 : decode b_L_law 954 = .ok (.aload_n 2, 1) := by decide +kernel
theorem d_L_law_955 : decode b_L_law 955 = .ok (.aload_n 0, 1) := by decide +kernel
theorem d_L_law_956 : decode b_L_law 956 = .ok (.iload 4, 2) := by decide +kernel
theorem d_L_law_958 : decode b_L_law 958 = .ok (.iconst 1, 1) := by decide +kernel
theorem d_L_law_959 : decode b_L_law 959 = .ok (.iadd, 1) := by decide +kernel
theorem d_L_law_960 : decode b_L_law 960 = .ok (.iaload, 1) := by decide +kernel
theorem d_L_law_961 : decode b_L_law 961 = .ok (.aload_n 0, 1) := by decide +kernel
theorem d_L_law_962 : decode b_L_law 962 = .ok (.iload 4, 2) := by decide +kernel
theorem d_L_law_964 : decode b_L_law 964 = .ok (.iconst 2, 1) := by decide +kernel
theorem d_L_law_965 : decode b_L_law 965 = .ok (.iadd, 1) := by decide +kernel
theorem d_L_law_966 : decode b_L_law 966 = .ok (.iaload, 1) := by decide +kernel
theorem d_L_law_967 : decode b_L_law 967 = .ok (.aload_n 0, 1) := by decide +kernel
theorem d_L_law_968 : decode b_L_law 968 = .ok (.iload 4, 2) := by decide +kernel
theorem d_L_law_970 : decode b_L_law 970 = .ok (.iconst 3, 1) := by decide +kernel
theorem d_L_law_971 : decode b_L_law 971 = .ok (.iadd, 1) := by decide +kernel
theorem d_L_law_972 : decode b_L_law 972 = .ok (.iaload, 1) := by decide +kernel
theorem d_L_law_973 : decode b_L_law 973 = .ok (.invokevirtual 118, 3) := by decide +kernel
theorem d_L_law_976 : decode b_L_law 976 = .ok (.istore 6, 2) := by decide +kernel
theorem d_L_law_978 : decode b_L_law 978 = .ok (.aload_n 2, 1) := by decide +kernel
theorem d_L_law_979 : decode b_L_law 979 = .ok (.invokevirtual 75, 3) := by decide +kernel
theorem d_L_law_982 : decode b_L_law 982 = .ok (.iload 5, 2) := by decide +kernel
theorem d_L_law_984 : decode b_L_law 984 = .ok (.if_icmp .eq 5, 3) := by decide +kernel
theorem d_L_law_987 : decode b_L_law 987 = .ok (.iconst 0, 1) := by decide +kernel
theorem d_L_law_988 : decode b_L_law 988 = .ok (.ireturn, 1) := by decide +kernel
theorem d_L_law_989 : decode b_L_law 989 = .ok (.iload 5, 2) := by decide +kernel
theorem d_L_law_991 : decode b_L_law 991 = .ok (.ifCond .ne 15, 3) := by decide +kernel
theorem d_L_law_994 : decode b_L_law 994 = .ok (.aload_n 3, 1) := by decide +kernel
theorem d_L_law_995 : decode b_L_law 995 = .ok (.iconst 0, 1) := by decide +kernel
theorem d_L_law_996 : decode b_L_law 996 = .ok (.laload, 1) := by decide +kernel
theorem d_L_law_997 : decode b_L_law 997 = .ok (.iload 6, 2) := by decide +kernel
theorem d_L_law_999 : decode b_L_law 999 = .ok (.i2l, 1) := by decide +kernel
theorem d_L_law_1000 : decode b_L_law 1000 = .ok (.lcmp, 1) := by decide +kernel
theorem d_L_law_1001 : decode b_L_law 1001 = .ok (.ifCond .eq 5, 3) := by decide +kernel
theorem d_L_law_1004 : decode b_L_law 1004 = .ok (.iconst 0, 1) := by decide +kernel
theorem d_L_law_1005 : decode b_L_law 1005 = .ok (.ireturn, 1) := by decide +kernel
theorem d_L_law_1006 : decode b_L_law 1006 = .ok (.goto 231, 3) := by decide +kernel
theorem d_L_law_1009 : decode b_L_law 1009 = .ok (.aload_n 1, 1) := by decide +kernel
theorem d_L_law_1010 : decode b_L_law 1010 = .ok (.aload_n 0, 1) := by decide +kernel
theorem d_L_law_1011 : decode b_L_law 1011 = .ok (.iload 4, 2) := by decide +kernel
theorem d_L_law_1013 : decode b_L_law 1013 = .ok (.iconst 1, 1) := by decide +kernel
theorem d_L_law_1014 : decode b_L_law 1014 = .ok (.iadd, 1) := by decide +kernel
theorem d_L_law_1015 : decode b_L_law 1015 = .ok (.iaload, 1) := by decide +kernel
theorem d_L_law_1016 : decode b_L_law 1016 = .ok (.aload_n 0, 1) := by decide +kernel
theorem d_L_law_1017 : decode b_L_law 1017 = .ok (.iload 4, 2) := by decide +kernel
theorem d_L_law_1019 : decode b_L_law 1019 = .ok (.iconst 2, 1) := by decide +kernel
theorem d_L_law_1020 : decode b_L_law 1020 = .ok (.iadd, 1) := by decide +kernel
theorem d_L_law_1021 : decode b_L_law 1021 = .ok (.iaload, 1) := by decide +kernel
theorem d_L_law_1022 : decode b_L_law 1022 = .ok (.aload_n 3, 1) := by decide +kernel
theorem d_L_law_1023 : decode b_L_law 1023 = .ok (.invokestatic 119, 3) := by decide +kernel
theorem d_L_law_1026 : decode b_L_law 1026 = .ok (.istore 5, 2) := by decide +kernel
theorem d_L_law_1028 : decode b_L_law 1028 = .ok (.aload_n 2, 1) := by decide +kernel
theorem d_L_law_1029 : decode b_L_law 1029 = .ok (.aload_n 0, 1) := by decide +kernel
theorem d_L_law_1030 : decode b_L_law 1030 = .ok (.iload 4, 2) := by decide +kernel
theorem d_L_law_1032 : decode b_L_law 1032 = .ok (.iconst 1, 1) := by decide +kernel
theorem d_L_law_1033 : decode b_L_law 1033 = .ok (.iadd, 1) := by decide +kernel
theorem d_L_law_1034 : decode b_L_law 1034 = .ok (.iaload, 1) := by decide +kernel
theorem d_L_law_1035 : decode b_L_law 1035 = .ok (.aload_n 0, 1) := by decide +kernel
theorem d_L_law_1036 : decode b_L_law 1036 = .ok (.iload 4, 2) := by decide +kernel
theorem d_L_law_1038 : decode b_L_law 1038 = .ok (.iconst 2, 1) := by decide +kernel
theorem d_L_law_1039 : decode b_L_law 1039 = .ok (.iadd, 1) := by decide +kernel
theorem d_L_law_1040 : decode b_L_law 1040 = .ok (.iaload, 1) := by decide +kernel
theorem d_L_law_1041 : decode b_L_law 1041 = .ok (.invokevirtual 121, 3) := by decide +kernel
theorem d_L_law_1044 : decode b_L_law 1044 = .ok (.istore 6, 2) := by decide +kernel
theorem d_L_law_1046 : decode b_L_law 1046 = .ok (.aload_n 2, 1) := by decide +kernel
theorem d_L_law_1047 : decode b_L_law 1047 = .ok (.invokevirtual 75, 3) := by decide +kernel
theorem d_L_law_1050 : decode b_L_law 1050 = .ok (.iload 5, 2) := by decide +kernel
theorem d_L_law_1052 : decode b_L_law 1052 = .ok (.if_icmp .eq 5, 3) := by decide +kernel
theorem d_L_law_1055 : decode b_L_law 1055 = .ok (.iconst 0, 1) := by decide +kernel
theorem d_L_law_1056 : decode b_L_law 1056 = .ok (.ireturn, 1) := by decide +kernel
theorem d_L_law_1057 : decode b_L_law 1057 = .ok (.iload 5, 2) := by decide +kernel
theorem d_L_law_1059 : decode b_L_law 1059 = .ok (.ifCond .ne 15, 3) := by decide +kernel
theorem d_L_law_1062 : decode b_L_law 1062 = .ok (.aload_n 3, 1) := by decide +kernel
theorem d_L_law_1063 : decode b_L_law 1063 = .ok (.iconst 0, 1) := by decide +kernel
theorem d_L_law_1064 : decode b_L_law 1064 = .ok (.laload, 1) := by decide +kernel
theorem d_L_law_1065 : decode b_L_law 1065 = .ok (.iload 6, 2) := by decide +kernel
theorem d_L_law_1067 : decode b_L_law 1067 = .ok (.i2l, 1) := by decide +kernel
theorem d_L_law_1068 : decode b_L_law 1068 = .ok (.lcmp, 1) := by decide +kernel
theorem d_L_law_1069 : decode b_L_law 1069 = .ok (.ifCond .eq 5, 3) := by decide +kernel
theorem d_L_law_1072 : decode b_L_law 1072 = .ok (.iconst 0, 1) := by decide +kernel
theorem d_L_law_1073 : decode b_L_law 1073 = .ok (.ireturn, 1) := by decide +kernel
theorem d_L_law_1074 : decode b_L_law 1074 = .ok (.goto 163, 3) := by decide +kernel
theorem d_L_law_1077 : decode b_L_law 1077 = .ok (.aload_n 1, 1) := by decide +kernel
theorem d_L_law_1078 : decode b_L_law 1078 = .ok (.aload_n 0, 1) := by decide +kernel
theorem d_L_law_1079 : decode b_L_law 1079 = .ok (.iload 4, 2) := by decide +kernel
theorem d_L_law_1081 : decode b_L_law 1081 = .ok (.iconst 1, 1) := by decide +kernel
theorem d_L_law_1082 : decode b_L_law 1082 = .ok (.iadd, 1) := by decide +kernel
theorem d_L_law_1083 : decode b_L_law 1083 = .ok (.iaload, 1) := by decide +kernel
theorem d_L_law_1084 : decode b_L_law 1084 = .ok (.aload_n 0, 1) := by decide +kernel
theorem d_L_law_1085 : decode b_L_law 1085 = .ok (.iload 4, 2) := by decide +kernel
theorem d_L_law_1087 : decode b_L_law 1087 = .ok (.iconst 2, 1) := by decide +kernel
theorem d_L_law_1088 : decode b_L_law 1088 = .ok (.iadd, 1) := by decide +kernel
theorem d_L_law_1089 : decode b_L_law 1089 = .ok (.iaload, 1) := by decide +kernel
theorem d_L_law_1090 : decode b_L_law 1090 = .ok (.aload_n 0, 1) := by decide +kernel
theorem d_L_law_1091 : decode b_L_law 1091 = .ok (.iload 4, 2) := by decide +kernel
theorem d_L_law_1093 : decode b_L_law 1093 = .ok (.iconst 3, 1) := by decide +kernel
theorem d_L_law_1094 : decode b_L_law 1094 = .ok (.iadd, 1) := by decide +kernel
theorem d_L_law_1095 : decode b_L_law 1095 = .ok (.iaload, 1) := by decide +kernel
theorem d_L_law_1096 : decode b_L_law 1096 = .ok (.aload_n 3, 1) := by decide +kernel
theorem d_L_law_1097 : decode b_L_law 1097 = .ok (.invokestatic 122, 3) := by decide +kernel
theorem d_L_law_1100 : decode b_L_law 1100 = .ok (.istore 5, 2) := by decide +kernel
theorem d_L_law_1102 : decode b_L_law 1102 = .ok (.aload_n 2, 1) := by decide +kernel
theorem d_L_law_1103 : decode b_L_law 1103 = .ok (.aload_n 0, 1) := by decide +kernel
theorem d_L_law_1104 : decode b_L_law 1104 = .ok (.iload 4, 2) := by decide +kernel
theorem d_L_law_1106 : decode b_L_law 1106 = .ok (.iconst 1, 1) := by decide +kernel
theorem d_L_law_1107 : decode b_L_law 1107 = .ok (.iadd, 1) := by decide +kernel
theorem d_L_law_1108 : decode b_L_law 1108 = .ok (.iaload, 1) := by decide +kernel
theorem d_L_law_1109 : decode b_L_law 1109 = .ok (.aload_n 0, 1) := by decide +kernel
theorem d_L_law_1110 : decode b_L_law 1110 = .ok (.iload 4, 2) := by decide +kernel
theorem d_L_law_1112 : decode b_L_law 1112 = .ok (.iconst 2, 1) := by decide +kernel
theorem d_L_law_1113 : decode b_L_law 1113 = .ok (.iadd, 1) := by decide +kernel
theorem d_L_law_1114 : decode b_L_law 1114 = .ok (.iaload, 1) := by decide +kernel
theorem d_L_law_1115 : decode b_L_law 1115 = .ok (.aload_n 0, 1) := by decide +kernel
theorem d_L_law_1116 : decode b_L_law 1116 = .ok (.iload 4, 2) := by decide +kernel
theorem d_L_law_1118 : decode b_L_law 1118 = .ok (.iconst 3, 1) := by decide +kernel
theorem d_L_law_1119 : decode b_L_law 1119 = .ok (.iadd, 1) := by decide +kernel
theorem d_L_law_1120 : decode b_L_law 1120 = .ok (.iaload, 1) := by decide +kernel
theorem d_L_law_1121 : decode b_L_law 1121 = .ok (.invokevirtual 124, 3) := by decide +kernel
theorem d_L_law_1124 : decode b_L_law 1124 = .ok (.istore 6, 2) := by decide +kernel
theorem d_L_law_1126 : decode b_L_law 1126 = .ok (.aload_n 2, 1) := by decide +kernel
theorem d_L_law_1127 : decode b_L_law 1127 = .ok (.invokevirtual 75, 3) := by decide +kernel
theorem d_L_law_1130 : decode b_L_law 1130 = .ok (.iload 5, 2) := by decide +kernel
theorem d_L_law_1132 : decode b_L_law 1132 = .ok (.if_icmp .eq 5, 3) := by decide +kernel
theorem d_L_law_1135 : decode b_L_law 1135 = .ok (.iconst 0, 1) := by decide +kernel
theorem d_L_law_1136 : decode b_L_law 1136 = .ok (.ireturn, 1) := by decide +kernel
theorem d_L_law_1137 : decode b_L_law 1137 = .ok (.iload 5, 2) := by decide +kernel
theorem d_L_law_1139 : decode b_L_law 1139 = .ok (.ifCond .ne 15, 3) := by decide +kernel
theorem d_L_law_1142 : decode b_L_law 1142 = .ok (.aload_n 3, 1) := by decide +kernel
theorem d_L_law_1143 : decode b_L_law 1143 = .ok (.iconst 0, 1) := by decide +kernel
theorem d_L_law_1144 : decode b_L_law 1144 = .ok (.laload, 1) := by decide +kernel
theorem d_L_law_1145 : decode b_L_law 1145 = .ok (.iload 6, 2) := by decide +kernel
theorem d_L_law_1147 : decode b_L_law 1147 = .ok (.i2l, 1) := by decide +kernel
theorem d_L_law_1148 : decode b_L_law 1148 = .ok (.lcmp, 1) := by decide +kernel
theorem d_L_law_1149 : decode b_L_law 1149 = .ok (.ifCond .eq 5, 3) := by decide +kernel
theorem d_L_law_1152 : decode b_L_law 1152 = .ok (.iconst 0, 1) := by decide +kernel
theorem d_L_law_1153 : decode b_L_law 1153 = .ok (.ireturn, 1) := by decide +kernel
theorem d_L_law_1154 : decode b_L_law 1154 = .ok (.goto 83, 3) := by decide +kernel
theorem d_L_law_1157 : decode b_L_law 1157 = .ok (.aload_n 1, 1) := by decide +kernel
theorem d_L_law_1158 : decode b_L_law 1158 = .ok (.aload_n 0, 1) := by decide +kernel
theorem d_L_law_1159 : decode b_L_law 1159 = .ok (.iload 4, 2) := by decide +kernel
theorem d_L_law_1161 : decode b_L_law 1161 = .ok (.iconst 1, 1) := by decide +kernel
theorem d_L_law_1162 : decode b_L_law 1162 = .ok (.iadd, 1) := by decide +kernel
theorem d_L_law_1163 : decode b_L_law 1163 = .ok (.iaload, 1) := by decide +kernel
theorem d_L_law_1164 : decode b_L_law 1164 = .ok (.aload_n 0, 1) := by decide +kernel
theorem d_L_law_1165 : decode b_L_law 1165 = .ok (.iload 4, 2) := by decide +kernel
theorem d_L_law_1167 : decode b_L_law 1167 = .ok (.iconst 2, 1) := by decide +kernel
theorem d_L_law_1168 : decode b_L_law 1168 = .ok (.iadd, 1) := by decide +kernel
theorem d_L_law_1169 : decode b_L_law 1169 = .ok (.iaload, 1) := by decide +kernel
theorem d_L_law_1170 : decode b_L_law 1170 = .ok (.aload_n 0, 1) := by decide +kernel
theorem d_L_law_1171 : decode b_L_law 1171 = .ok (.iload 4, 2) := by decide +kernel
theorem d_L_law_1173 : decode b_L_law 1173 = .ok (.iconst 3, 1) := by decide +kernel
theorem d_L_law_1174 : decode b_L_law 1174 = .ok (.iadd, 1) := by decide +kernel
theorem d_L_law_1175 : decode b_L_law 1175 = .ok (.iaload, 1) := by decide +kernel
theorem d_L_law_1176 : decode b_L_law 1176 = .ok (.aload_n 3, 1) := by decide +kernel
theorem d_L_law_1177 : decode b_L_law 1177 = .ok (.invokestatic 125, 3) := by decide +kernel
theorem d_L_law_1180 : decode b_L_law 1180 = .ok (.istore 5, 2) := by decide +kernel
theorem d_L_law_1182 : decode b_L_law 1182 = .ok (.aload_n 2, 1) := by decide +kernel
theorem d_L_law_1183 : decode b_L_law 1183 = .ok (.aload_n 0, 1) := by decide +kernel
theorem d_L_law_1184 : decode b_L_law 1184 = .ok (.iload 4, 2) := by decide +kernel
theorem d_L_law_1186 : decode b_L_law 1186 = .ok (.iconst 1, 1) := by decide +kernel
theorem d_L_law_1187 : decode b_L_law 1187 = .ok (.iadd, 1) := by decide +kernel
theorem d_L_law_1188 : decode b_L_law 1188 = .ok (.iaload, 1) := by decide +kernel
theorem d_L_law_1189 : decode b_L_law 1189 = .ok (.aload_n 0, 1) := by decide +kernel
theorem d_L_law_1190 : decode b_L_law 1190 = .ok (.iload 4, 2) := by decide +kernel
theorem d_L_law_1192 : decode b_L_law 1192 = .ok (.iconst 2, 1) := by decide +kernel
theorem d_L_law_1193 : decode b_L_law 1193 = .ok (.iadd, 1) := by decide +kernel
theorem d_L_law_1194 : decode b_L_law 1194 = .ok (.iaload, 1) := by decide +kernel
theorem d_L_law_1195 : decode b_L_law 1195 = .ok (.aload_n 0, 1) := by decide +kernel
theorem d_L_law_1196 : decode b_L_law 1196 = .ok (.iload 4, 2) := by decide +kernel
theorem d_L_law_1198 : decode b_L_law 1198 = .ok (.iconst 3, 1) := by decide +kernel
theorem d_L_law_1199 : decode b_L_law 1199 = .ok (.iadd, 1) := by decide +kernel
theorem d_L_law_1200 : decode b_L_law 1200 = .ok (.iaload, 1) := by decide +kernel
theorem d_L_law_1201 : decode b_L_law 1201 = .ok (.invokevirtual 127, 3) := by decide +kernel
theorem d_L_law_1204 : decode b_L_law 1204 = .ok (.istore 6, 2) := by decide +kernel
theorem d_L_law_1206 : decode b_L_law 1206 = .ok (.aload_n 2, 1) := by decide +kernel
theorem d_L_law_1207 : decode b_L_law 1207 = .ok (.invokevirtual 75, 3) := by decide +kernel
theorem d_L_law_1210 : decode b_L_law 1210 = .ok (.iload 5, 2) := by decide +kernel
theorem d_L_law_1212 : decode b_L_law 1212 = .ok (.if_icmp .eq 5, 3) := by decide +kernel
theorem d_L_law_1215 : decode b_L_law 1215 = .ok (.iconst 0, 1) := by decide +kernel
theorem d_L_law_1216 : decode b_L_law 1216 = .ok (.ireturn, 1) := by decide +kernel
theorem d_L_law_1217 : decode b_L_law 1217 = .ok (.iload 5, 2) := by decide +kernel
theorem d_L_law_1219 : decode b_L_law 1219 = .ok (.ifCond .ne 15, 3) := by decide +kernel
theorem d_L_law_1222 : decode b_L_law 1222 = .ok (.aload_n 3, 1) := by decide +kernel
theorem d_L_law_1223 : decode b_L_law 1223 = .ok (.iconst 0, 1) := by decide +kernel
theorem d_L_law_1224 : decode b_L_law 1224 = .ok (.laload, 1) := by decide +kernel
theorem d_L_law_1225 : decode b_L_law 1225 = .ok (.iload 6, 2) := by decide +kernel
theorem d_L_law_1227 : decode b_L_law 1227 = .ok (.i2l, 1) := by decide +kernel
theorem d_L_law_1228 : decode b_L_law 1228 = .ok (.lcmp, 1) := by decide +kernel
theorem d_L_law_1229 : decode b_L_law 1229 = .ok (.ifCond .eq 5, 3) := by decide +kernel
theorem d_L_law_1232 : decode b_L_law 1232 = .ok (.iconst 0, 1) := by decide +kernel
theorem d_L_law_1233 : decode b_L_law 1233 = .ok (.ireturn, 1) := by decide +kernel
theorem d_L_law_1234 : decode b_L_law 1234 = .ok (.goto 3, 3) := by decide +kernel
theorem d_L_law_1237 : decode b_L_law 1237 = .ok (.iinc 4 7, 3) := by decide +kernel
theorem d_L_law_1240 : decode b_L_law 1240 = .ok (.goto (-1217), 3) := by decide +kernel
theorem d_L_law_1243 : decode b_L_law 1243 = .ok (.iconst 1, 1) := by decide +kernel
theorem d_L_law_1244 : decode b_L_law 1244 = .ok (.ireturn, 1) := by decide +kernel
end
section
/-! Int32 and Int64 by integers -/
def iZ (z : Int) : Int32 := Int32.ofInt z
def lZ (z : Int) : Int64 := Int64.ofInt z
theorem iZ_toInt {z : Int} (h1 : -2147483648 ≤ z) (h2 : z < 2147483648) : (iZ z).toInt = z := Int32.toInt_ofInt_of_le (by omega) (by omega)
theorem lZ_toInt {z : Int} (h1 : -9223372036854775808 ≤ z) (h2 : z < 9223372036854775808) : (lZ z).toInt = z := Int64.toInt_ofInt_of_le (by omega) (by omega)
theorem lZ_add (a b : Int) : lZ a + lZ b = lZ (a + b) := (Int64.ofInt_add a b).symm
theorem lZ_sub (a b : Int) : lZ a - lZ b = lZ (a - b) := (Int64.ofInt_sub a b).symm
theorem lZ_mul (a b : Int) : lZ a * lZ b = lZ (a * b) := (Int64.ofInt_mul a b).symm
theorem lZ_neg (a : Int) : -lZ a = lZ (-a) := (Int64.ofInt_neg a).symm
theorem iZ_add (a b : Int) : iZ a + iZ b = iZ (a + b) := (Int32.ofInt_add a b).symm
theorem iZ_sub (a b : Int) : iZ a - iZ b = iZ (a - b) := (Int32.ofInt_sub a b).symm
theorem iZ_mul (a b : Int) : iZ a * iZ b = iZ (a * b) := (Int32.ofInt_mul a b).symm
theorem iZ_neg (a : Int) : -iZ a = iZ (-a) := (Int32.ofInt_neg a).symm
theorem lN_lZ (n : Nat) : lN n = lZ n := Int64.ofInt_eq_ofNat.symm
theorem nI_iZ (n : Nat) : nI n = iZ n := Int32.ofInt_eq_ofNat.symm
theorem iZ_of (x : Int32) : iZ x.toInt = x := Int32.ofInt_toInt x
theorem lZ_of (x : Int64) : lZ x.toInt = x := Int64.ofInt_toInt x
theorem lZ_i (z : Int) : (lZ z).toInt32 = iZ z := Int64.toInt32_ofInt
theorem iZ_l {z : Int} (h1 : -2147483648 ≤ z) (h2 : z < 2147483648) : (iZ z).toInt64 = lZ z := by
  apply Int64.toInt_inj.mp
  rw [Int32.toInt_toInt64, iZ_toInt h1 h2, lZ_toInt (by omega) (by omega)]
theorem iZ_lt {a b : Int} (h1 : -2147483648 ≤ a) (h2 : a < 2147483648) (h3 : -2147483648 ≤ b) (h4 : b < 2147483648) : iZ a < iZ b ↔ a < b := by
  rw [Int32.lt_iff_toInt_lt, iZ_toInt h1 h2, iZ_toInt h3 h4]
theorem iZ_le {a b : Int} (h1 : -2147483648 ≤ a) (h2 : a < 2147483648) (h3 : -2147483648 ≤ b) (h4 : b < 2147483648) : iZ a ≤ iZ b ↔ a ≤ b := by
  rw [Int32.le_iff_toInt_le, iZ_toInt h1 h2, iZ_toInt h3 h4]
theorem iZ_eq {a b : Int} (h1 : -2147483648 ≤ a) (h2 : a < 2147483648) (h3 : -2147483648 ≤ b) (h4 : b < 2147483648) : iZ a = iZ b ↔ a = b := by
  rw [← Int32.toInt_inj, iZ_toInt h1 h2, iZ_toInt h3 h4]
theorem lZ_lt {a b : Int} (h1 : -9223372036854775808 ≤ a) (h2 : a < 9223372036854775808) (h3 : -9223372036854775808 ≤ b) (h4 : b < 9223372036854775808) : lZ a < lZ b ↔ a < b := by
  rw [Int64.lt_iff_toInt_lt, lZ_toInt h1 h2, lZ_toInt h3 h4]
theorem lZ_shr16 {z : Int} (h1 : -9223372036854775808 ≤ z) (h2 : z < 9223372036854775808) : lZ z >>> ((16 : Int32).toInt64 &&& 63) = lZ (z / 65536) := by
  apply Int64.toInt_inj.mp
  rw [Jvm.Kit.i64_shr (k := 16) _ _ (by decide), lZ_toInt h1 h2, lZ_toInt (by omega) (by omega)]
  omega
theorem lZ_shr30 {z : Int} (h1 : -9223372036854775808 ≤ z) (h2 : z < 9223372036854775808) : lZ z >>> ((30 : Int32).toInt64 &&& 63) = lZ (z / 1073741824) := by
  apply Int64.toInt_inj.mp
  rw [Jvm.Kit.i64_shr (k := 30) _ _ (by decide), lZ_toInt h1 h2, lZ_toInt (by omega) (by omega)]
  omega
theorem lZ_shr46 {z : Int} (h1 : -9223372036854775808 ≤ z) (h2 : z < 9223372036854775808) : lZ z >>> ((46 : Int32).toInt64 &&& 63) = lZ (z / 70368744177664) := by
  apply Int64.toInt_inj.mp
  rw [Jvm.Kit.i64_shr (k := 46) _ _ (by decide), lZ_toInt h1 h2, lZ_toInt (by omega) (by omega)]
  omega
theorem lN_shr16 {n : Nat} (h : n < 9223372036854775808) : lN n >>> ((16 : Int32).toInt64 &&& 63) = lN (n / 65536) := by
  rw [lN_lZ, lN_lZ, lZ_shr16 (by omega) (by omega)]; rfl
theorem lN_shr30 {n : Nat} (h : n < 9223372036854775808) : lN n >>> ((30 : Int32).toInt64 &&& 63) = lN (n / 1073741824) := by
  rw [lN_lZ, lN_lZ, lZ_shr30 (by omega) (by omega)]; rfl
theorem lN_shr46 {n : Nat} (h : n < 9223372036854775808) : lN n >>> ((46 : Int32).toInt64 &&& 63) = lN (n / 70368744177664) := by
  rw [lN_lZ, lN_lZ, lZ_shr46 (by omega) (by omega)]; rfl
theorem lN_bvN (n : Nat) : (lN n).toBitVec = BitVec.ofNat 64 n := rfl
theorem lN_mask30 {n : Nat} (h : n < 9223372036854775808) : lN n &&& 1073741823 = lN (n % 1073741824) := by
  apply Int64.toInt_inj.mp
  rw [Jvm.Kit.i64_mask (k := 30) _ _ (by decide) (by decide), lN_lZ, lZ_toInt (by omega) (by omega), lN_lZ, lZ_toInt (by omega) (by omega)]
  omega
/-- the mask of 48 bits of a sum that may wrap around -/
theorem lN_mask48 (n : Nat) : lN n &&& 281474976710655 = lN (n % 281474976710656) := by
  apply Int64.toInt_inj.mp
  rw [Jvm.Kit.i64_mask (k := 48) _ _ (by decide) (by decide), lN_lZ, lN_lZ, lZ_toInt (z := ((n % 281474976710656 : Nat) : Int)) (by omega) (by omega)]
  show (Int64.ofInt (n : Int)).toInt % 2 ^ 48 = _
  rw [Int64.toInt_ofInt, Int.bmod_def]
  show (if (n : Int) % (18446744073709551616 : Nat) < ((18446744073709551616 : Nat) + 1) / 2 then (n : Int) % (18446744073709551616 : Nat) else (n : Int) % (18446744073709551616 : Nat) - (18446744073709551616 : Nat)) % 281474976710656 = _
  split <;> omega
theorem iZ_range (x : Int32) : -2147483648 ≤ x.toInt ∧ x.toInt < 2147483648 := ⟨x.le_toInt, x.toInt_lt⟩
theorem lZ_range (x : Int64) : -9223372036854775808 ≤ x.toInt ∧ x.toInt < 9223372036854775808 := ⟨x.le_toInt, x.toInt_lt⟩
/-- division that rounds down, as it is reckoned out of one that rounds to zero -/
theorem tt_floor {a b : Int} (hb : 0 < b) : (if a < a.tdiv b * b then a.tdiv b - 1 else a.tdiv b) = a / b := by
  have e1 := Int.mul_tdiv_add_tmod a b
  have e3 := Int.mul_ediv_add_emod a b
  have e4 := Int.emod_nonneg a (show b ≠ 0 by omega)
  have e5 := Int.emod_lt_of_pos a hb
  have e6 : a.tdiv b = a / b + if 0 ≤ a ∨ b ∣ a then 0 else b.sign := Int.tdiv_eq_ediv
  rw [Int.sign_eq_one_of_pos hb] at e6
  have e7 : a / b * b = b * (a / b) := Int.mul_comm _ _
  have e8 : (a / b + 1) * b = b * (a / b) + b := by rw [Int.add_mul, Int.one_mul, e7]
  by_cases h : 0 ≤ a ∨ b ∣ a
  · rw [if_pos h, Int.add_zero] at e6
    rw [e6, e7, if_neg (by omega)]
  · rw [if_neg h] at e6
    have h2 : a % b ≠ 0 := fun z => h (Or.inr (Int.dvd_of_emod_eq_zero z))
    rw [e6, e8, if_pos (by omega)]
    omega
theorem tt_floor2 {a b : Int} (hb : 0 < b) : (if a < 0 ∧ a.tdiv b * b ≠ a then a.tdiv b - 1 else a.tdiv b) = a / b := by
  rw [← tt_floor hb]
  have e1 := Int.mul_tdiv_add_tmod a b
  have e2 : a.tdiv b * b = b * a.tdiv b := Int.mul_comm _ _
  by_cases h : a < 0
  · have e3 : a.tmod b ≤ 0 := by
      have := Int.tmod_nonneg (a := -a) b (by omega)
      rw [Int.neg_tmod] at this
      omega
    by_cases h2 : a.tdiv b * b = a
    · rw [if_neg (fun z => z.2 h2), if_neg (by omega)]
    · rw [if_pos ⟨h, h2⟩, if_pos (by omega)]
  · have e3 : 0 ≤ a.tmod b := Int.tmod_nonneg b (by omega)
    rw [if_neg (fun z => h z.1), if_neg (by omega)]
theorem lZ_div {a b : Int} (h1 : -9223372036854775808 ≤ a) (h2 : a < 9223372036854775808) (hb : 0 < b) (hb2 : b < 9223372036854775808) : lZ a / lZ b = lZ (a.tdiv b) := by
  apply Int64.toInt_inj.mp
  have q : (a.tdiv b).natAbs ≤ a.natAbs := by rw [Int.natAbs_tdiv]; exact Nat.div_le_self _ _
  rw [Jvm.Kit.i64_div (by rw [lZ_toInt h1 h2, lZ_toInt (by omega) hb2]; omega), lZ_toInt h1 h2, lZ_toInt (by omega) hb2]
  by_cases z : a.tdiv b = 9223372036854775808
  · exfalso
    have e6 : a.tdiv b = a / b + if 0 ≤ a ∨ b ∣ a then 0 else b.sign := Int.tdiv_eq_ediv
    rw [Int.sign_eq_one_of_pos hb] at e6
    have e9 : a / b ≤ 0 ∨ 0 < a := by
      by_cases w : 0 < a
      · exact Or.inr w
      · exact Or.inl (Int.ediv_le_of_le_mul hb (by omega))
    rcases e9 with w | w
    · split at e6 <;> omega
    · omega
  · rw [lZ_toInt (by omega) (by omega)]
end
section
/-! what a place's tides are: the state, and what each call answers, in integers -/
abbrev TS : Type := Int × (Nat → Nat) × (Nat → Nat) × (Nat → Nat) × (Nat → Nat → Nat) × (Nat → Nat → Nat) × (Nat → Nat)
def tt_lev (g : TS) : Int := g.1
def tt_amp (g : TS) : Nat → Nat := g.2.1
def tt_spd (g : TS) : Nat → Nat := g.2.2.1
def tt_pha (g : TS) : Nat → Nat := g.2.2.2.1
def tt_fac (g : TS) : Nat → Nat → Nat := g.2.2.2.2.1
def tt_shf (g : TS) : Nat → Nat → Nat := g.2.2.2.2.2.1
def tt_day (g : TS) : Nat → Nat := g.2.2.2.2.2.2
def tt_ok (g : TS) : Prop := (-1000000 ≤ tt_lev g ∧ tt_lev g ≤ 1000000) ∧ (∀ i, i < 8 → tt_amp g i ≤ 100000 ∧ tt_spd g i < 1099511627776 ∧ tt_pha g i < 281474976710656) ∧ (∀ i, i < 8 → ∀ y, y < 10 → tt_fac g i y ≤ 81920 ∧ tt_shf g i y < 281474976710656) ∧ ∀ y, y < 10 → tt_day g y = 365 ∨ tt_day g y = 366
/-- days before a year -/
def tt_db (d : Nat → Nat) : Nat → Nat
  | 0 => 0
  | n + 1 => tt_db d n + d n
def tt_fst (g : TS) (y : Nat) : Nat := 1440 * tt_db (tt_day g) y
theorem tt_db_le (d : Nat → Nat) {a b : Nat} (h : a ≤ b) : tt_db d a ≤ tt_db d b := by
  induction b with
  | zero => rw [show a = 0 by omega]; exact Nat.le_refl _
  | succ n ih =>
    by_cases e : a = n + 1
    · rw [e]; exact Nat.le_refl _
    · exact Nat.le_trans (ih (by omega)) (Nat.le_add_right _ _)
theorem tt_db_in {d : Nat → Nat} (hd : ∀ y, y < 10 → d y = 365 ∨ d y = 366) : ∀ n, n ≤ 10 → 365 * n ≤ tt_db d n ∧ tt_db d n ≤ 366 * n := by
  intro n
  induction n with
  | zero => intro _; exact ⟨Nat.le_refl _, Nat.le_refl _⟩
  | succ n ih =>
    intro h
    have h1 := ih (by omega)
    have h2 := hd n (by omega)
    show 365 * (n + 1) ≤ tt_db d n + d n ∧ tt_db d n + d n ≤ 366 * (n + 1)
    omega
theorem tt_db_lt {d : Nat → Nat} (hd : ∀ y, y < 10 → d y = 365 ∨ d y = 366) {n : Nat} (h : n < 10) : tt_db d n < tt_db d (n + 1) := by
  have h2 := hd n h
  show tt_db d n < tt_db d n + d n
  omega
/-- the year of a minute -/
def tt_yrA (d : Nat → Nat) (m : Nat) : Nat → Nat
  | 0 => 0
  | n + 1 => if 1440 * tt_db d (n + 1) ≤ m then n + 1 else tt_yrA d m n
def tt_yr (g : TS) (m : Nat) : Nat := tt_yrA (tt_day g) m 9
theorem tt_yrA_le (d : Nat → Nat) (m n : Nat) : tt_yrA d m n ≤ n := by
  induction n with
  | zero => exact Nat.le_refl _
  | succ n ih =>
    unfold tt_yrA
    split
    · exact Nat.le_refl _
    · omega
theorem tt_yrA_fst (d : Nat → Nat) (m n : Nat) : 1440 * tt_db d (tt_yrA d m n) ≤ m := by
  induction n with
  | zero => exact Nat.zero_le _
  | succ n ih =>
    unfold tt_yrA
    split
    · assumption
    · exact ih
theorem tt_yrA_nxt (d : Nat → Nat) (m n : Nat) : ∀ y, tt_yrA d m n < y → y ≤ n → m < 1440 * tt_db d y := by
  induction n with
  | zero => intro y h1 h2; omega
  | succ n ih =>
    intro y
    unfold tt_yrA
    split
    · intro h1 h2; omega
    · intro h1 h2
      by_cases e : y = n + 1
      · rw [e]; omega
      · exact ih y h1 (by omega)
theorem tt_yr_lt (g : TS) (m : Nat) : tt_yr g m < 10 := by
  have := tt_yrA_le (tt_day g) m 9
  show tt_yrA (tt_day g) m 9 < 10
  omega
theorem tt_yr_is {g : TS} {m y : Nat} (h0 : y < 10) (h1 : tt_fst g y ≤ m) (h2 : y < 9 → m < tt_fst g (y + 1)) : tt_yr g m = y := by
  have a1 := tt_yrA_le (tt_day g) m 9
  have a2 := tt_yrA_fst (tt_day g) m 9
  have a3 := tt_yrA_nxt (tt_day g) m 9
  unfold tt_yr
  generalize tt_yrA (tt_day g) m 9 = z at a1 a2 a3 ⊢
  unfold tt_fst at h1 h2
  rcases Nat.lt_trichotomy z y with h | h | h
  · have := a3 y h (by omega)
    omega
  · exact h
  · have h3 := h2 (by omega)
    have h4 := tt_db_le (tt_day g) (show y + 1 ≤ z from h)
    omega
/-- a position on the wheel -/
def tt_pos (g : TS) (i m y : Nat) : Nat := (tt_pha g i + tt_spd g i * m + tt_shf g i y) % 281474976710656
theorem tt_pos_lt (g : TS) (i m y : Nat) : tt_pos g i m y < 281474976710656 := Nat.mod_lt _ (by decide)
/-- the cosine -/
def tt_cr (x : Nat) : Nat := if x / 70368744177664 % 2 = 1 then 1073741824 - x / 65536 % 1073741824 else x / 65536 % 1073741824
def tt_cs (x : Nat) : Nat := tt_cr x * tt_cr x / 1073741824
def tt_ce (s : Nat) : Nat := 22401992 - 960477 * s / 1073741824
def tt_cf (s : Nat) : Nat := 272375561 - tt_ce s * s / 1073741824
def tt_cg (s : Nat) : Nat := 1324675870 - tt_cf s * s / 1073741824
def tt_cc (s : Nat) : Int := 1073741824 - ((tt_cg s * s / 1073741824 : Nat) : Int)
def tt_cos (x : Nat) : Int := if x / 70368744177664 = 1 ∨ x / 70368744177664 = 2 then - tt_cc (tt_cs x) else tt_cc (tt_cs x)
theorem tt_mul_div {a s A : Nat} (h : a ≤ A) (hs : s ≤ 1073741824) : a * s / 1073741824 ≤ A := by
  have h1 : a * s ≤ A * 1073741824 := Nat.mul_le_mul h hs
  have h2 : a * s / 1073741824 ≤ A * 1073741824 / 1073741824 := Nat.div_le_div_right h1
  rw [Nat.mul_div_cancel _ (by decide)] at h2
  exact h2
theorem tt_cr_le (x : Nat) : tt_cr x ≤ 1073741824 := by
  unfold tt_cr
  have := Nat.mod_lt (x / 65536) (show 0 < 1073741824 by decide)
  split <;> omega
theorem tt_cs_le (x : Nat) : tt_cs x ≤ 1073741824 := tt_mul_div (tt_cr_le x) (tt_cr_le x)
theorem tt_ce_in {s : Nat} (hs : s ≤ 1073741824) : tt_ce s ≤ 22401992 ∧ 960477 * s / 1073741824 ≤ 960477 := ⟨Nat.sub_le _ _, tt_mul_div (Nat.le_refl _) hs⟩
theorem tt_cf_in {s : Nat} (hs : s ≤ 1073741824) : tt_cf s ≤ 272375561 ∧ tt_ce s * s / 1073741824 ≤ 22401992 := ⟨Nat.sub_le _ _, tt_mul_div (tt_ce_in hs).1 hs⟩
theorem tt_cg_in {s : Nat} (hs : s ≤ 1073741824) : tt_cg s ≤ 1324675870 ∧ tt_cf s * s / 1073741824 ≤ 272375561 := ⟨Nat.sub_le _ _, tt_mul_div (tt_cf_in hs).1 hs⟩
theorem tt_cc_in {s : Nat} (hs : s ≤ 1073741824) : -1073741824 ≤ tt_cc s ∧ tt_cc s ≤ 1073741824 := by
  have h := tt_mul_div (tt_cg_in hs).1 hs
  unfold tt_cc
  omega
theorem tt_cos_in (x : Nat) : -1073741824 ≤ tt_cos x ∧ tt_cos x ≤ 1073741824 := by
  have h := tt_cc_in (tt_cs_le x)
  unfold tt_cos
  split <;> omega
/-- one constituent's part of a height -/
def tt_prt (g : TS) (m y i : Nat) : Int := ((tt_amp g i * tt_fac g i y : Nat) : Int) * tt_cos (tt_pos g i m y) / 65536
def tt_sum (g : TS) (m y : Nat) : Nat → Int
  | 0 => 536870912
  | n + 1 => tt_sum g m y n + tt_prt g m y n
def tt_hgt (g : TS) (m : Nat) : Int := tt_sum g m (tt_yr g m) 8 / 1073741824 + tt_lev g
theorem tt_af_le {g : TS} (h : tt_ok g) {i y : Nat} (hi : i < 8) (hy : y < 10) : tt_amp g i * tt_fac g i y ≤ 8192000000 := Nat.mul_le_mul (h.2.1 i hi).1 (h.2.2.1 i hi y hy).1
theorem tt_prd {a : Nat} {c : Int} (ha : a ≤ 8192000000) (h1 : -1073741824 ≤ c) (h2 : c ≤ 1073741824) : -8796093022208000000 ≤ (a : Int) * c ∧ (a : Int) * c ≤ 8796093022208000000 := by
  have e1 : (a : Int) * c ≤ (a : Int) * 1073741824 := Int.mul_le_mul_of_nonneg_left h2 (by omega)
  have e2 : (a : Int) * (-1073741824) ≤ (a : Int) * c := Int.mul_le_mul_of_nonneg_left h1 (by omega)
  omega
theorem tt_prt_in {g : TS} (h : tt_ok g) {m i y : Nat} (hi : i < 8) (hy : y < 10) : -134217728000000 ≤ tt_prt g m y i ∧ tt_prt g m y i ≤ 134217728000000 := by
  have e := tt_cos_in (tt_pos g i m y)
  have e2 := tt_prd (tt_af_le h hi hy) e.1 e.2
  unfold tt_prt
  omega
theorem tt_sum_in {g : TS} (h : tt_ok g) {m y : Nat} (hy : y < 10) : ∀ n : Nat, n ≤ 8 → 536870912 - 134217728000000 * (n : Int) ≤ tt_sum g m y n ∧ tt_sum g m y n ≤ 536870912 + 134217728000000 * (n : Int) := by
  intro n
  induction n with
  | zero => intro _; show 536870912 - 134217728000000 * ((0 : Nat) : Int) ≤ 536870912 ∧ 536870912 ≤ 536870912 + 134217728000000 * ((0 : Nat) : Int); omega
  | succ n ih =>
    intro hn
    have h1 := ih (by omega)
    have h2 := tt_prt_in h (m := m) (show n < 8 by omega) hy
    show 536870912 - 134217728000000 * ((n + 1 : Nat) : Int) ≤ tt_sum g m y n + tt_prt g m y n ∧ tt_sum g m y n + tt_prt g m y n ≤ 536870912 + 134217728000000 * ((n + 1 : Nat) : Int)
    omega
theorem tt_hgt_in {g : TS} (h : tt_ok g) (m : Nat) : -2000000 ≤ tt_hgt g m ∧ tt_hgt g m ≤ 2000000 := by
  have h1 := tt_sum_in h (m := m) (tt_yr_lt g m) 8 (Nat.le_refl _)
  have h2 := h.1
  unfold tt_hgt
  omega
/-- the extremes of a day -/
def tt_bh (h : Nat → Int) (v : Int) : Nat → Nat → Nat
  | 0, b => b
  | n + 1, b => if h b = v then tt_bh h v n (b + 1) else b
def tt_nx (h : Nat → Int) (m : Nat) : Nat := tt_bh h (h m) (1440 - (m + 1)) (m + 1)
def tt_T (h : Nat → Int) (m : Nat) : Bool := decide (1 ≤ m) && (decide (h (m - 1) ≠ h m) && (decide (tt_nx h m < 1440) && (decide (h (m - 1) < h m) == decide (h (tt_nx h m) < h m))))
def tt_L (h : Nat → Int) (n : Nat) : List Nat := (List.range n).filter (tt_T h)
theorem tt_L_succ (h : Nat → Int) (n : Nat) : tt_L h (n + 1) = if tt_T h n then tt_L h n ++ [n] else tt_L h n := by
  unfold tt_L
  rw [List.range_succ, List.filter_append]
  cases e : tt_T h n <;> simp [e]
theorem tt_L_len (h : Nat → Int) (n : Nat) : (tt_L h n).length ≤ n := by
  have := List.length_filter_le (tt_T h) (List.range n)
  rw [List.length_range] at this
  exact this
theorem tt_L_0 (h : Nat → Int) : tt_L h 0 = [] := rfl
theorem tt_T_0 (h : Nat → Int) : tt_T h 0 = false := rfl
theorem tt_L_len1 (h : Nat → Int) (n : Nat) : (tt_L h (n + 1)).length ≤ n := by
  induction n with
  | zero => rw [tt_L_succ, tt_T_0]; exact Nat.le_refl _
  | succ n ih =>
    rw [tt_L_succ]
    split
    · rw [List.length_append]; exact Nat.add_le_add_right ih 1
    · omega
theorem tt_bh_ge (h : Nat → Int) (v : Int) : ∀ n b, b ≤ tt_bh h v n b ∧ tt_bh h v n b ≤ b + n := by
  intro n
  induction n with
  | zero => intro b; exact ⟨Nat.le_refl _, Nat.le_refl _⟩
  | succ n ih =>
    intro b
    unfold tt_bh
    have := ih (b + 1)
    split <;> omega
theorem tt_bh_same (h : Nat → Int) (v : Int) : ∀ n b j, b ≤ j → j < tt_bh h v n b → h j = v := by
  intro n
  induction n with
  | zero => intro b j h1 h2; simp only [tt_bh] at h2; omega
  | succ n ih =>
    intro b j h1 h2
    unfold tt_bh at h2
    split at h2
    · rename_i e
      by_cases q : j = b
      · rw [q]; exact e
      · exact ih (b + 1) j (by omega) h2
    · omega
theorem tt_bh_at (h : Nat → Int) (v : Int) : ∀ n b, tt_bh h v n b < b + n → h (tt_bh h v n b) ≠ v := by
  intro n
  induction n with
  | zero => intro b h1; simp only [tt_bh] at h1; omega
  | succ n ih =>
    intro b h1
    unfold tt_bh at h1 ⊢
    split at h1
    · rename_i e
      rw [if_pos e]
      exact ih (b + 1) (by omega)
    · rename_i e
      rw [if_neg e]
      exact e
theorem tt_bh_is {h : Nat → Int} {v : Int} {n b k : Nat} (h1 : b ≤ k) (h2 : k < b + n) (h3 : ∀ j, b ≤ j → j < k → h j = v) (h4 : h k ≠ v) : tt_bh h v n b = k := by
  have a1 := tt_bh_ge h v n b
  have a2 := tt_bh_same h v n b
  have a3 := tt_bh_at h v n b
  generalize tt_bh h v n b = z at a1 a2 a3 ⊢
  rcases Nat.lt_trichotomy z k with q | q | q
  · exact absurd (h3 z a1.1 q) (a3 (by omega))
  · exact q
  · exact absurd (a2 k h1 q) h4
/-- heights that are all higher by the same have the same extremes -/
theorem tt_bh_add (h : Nat → Int) (v w : Int) : ∀ n b, tt_bh (fun k => h k + w) (v + w) n b = tt_bh h v n b := by
  intro n
  induction n with
  | zero => intro b; rfl
  | succ n ih =>
    intro b
    unfold tt_bh
    rw [ih (b + 1)]
    by_cases e : h b = v
    · rw [if_pos e, if_pos (by rw [e])]
    · rw [if_neg e, if_neg (by omega)]
theorem tt_T_add (h : Nat → Int) (w : Int) (m : Nat) : tt_T (fun k => h k + w) m = tt_T h m := by
  have e : tt_nx (fun k => h k + w) m = tt_nx h m := tt_bh_add h (h m) w _ _
  unfold tt_T
  rw [e]
  have e1 : decide (h (m - 1) + w ≠ h m + w) = decide (h (m - 1) ≠ h m) := decide_eq_decide.mpr (by omega)
  have e2 : decide (h (m - 1) + w < h m + w) = decide (h (m - 1) < h m) := decide_eq_decide.mpr (by omega)
  have e3 : decide (h (tt_nx h m) + w < h m + w) = decide (h (tt_nx h m) < h m) := decide_eq_decide.mpr (by omega)
  simp only [e1, e2, e3]
theorem tt_L_add (h : Nat → Int) (w : Int) (n : Nat) : tt_L (fun k => h k + w) n = tt_L h n := by
  unfold tt_L
  rw [show tt_T (fun k => h k + w) = tt_T h from funext (tt_T_add h w)]
end
section
/-! the search for extremes, row by row -/
theorem tt_T_flat {h : Nat → Int} {m : Nat} (e : h (m - 1) = h m) : tt_T h m = false := by
  unfold tt_T
  simp [e]
theorem tt_L_skip {h : Nat → Int} {a : Nat} : ∀ b, a ≤ b → (∀ j, a ≤ j → j < b → tt_T h j = false) → tt_L h b = tt_L h a := by
  intro b
  induction b with
  | zero => intro h1 _; rw [show a = 0 by omega]
  | succ n ih =>
    intro h1 h2
    by_cases e : a = n + 1
    · rw [e]
    · rw [tt_L_succ, h2 n (by omega) (by omega)]
      exact ih (by omega) (fun j q1 q2 => h2 j q1 (by omega))
/-- at minute k the row begins at r, and it came by c -/
def tt_row (h : Nat → Int) (k r : Nat) (c : Int) : Prop := r < k ∧ k ≤ 1440 ∧ (∀ j, r ≤ j → j < k → h j = h r) ∧ ((r = 0 ∧ c = 0) ∨ (1 ≤ r ∧ h (r - 1) < h r ∧ c = 1) ∨ (1 ≤ r ∧ h r < h (r - 1) ∧ c = -1))
theorem tt_row_0 (h : Nat → Int) : tt_row h 1 0 0 := ⟨by omega, by omega, fun j _ q => by rw [show j = 0 by omega], Or.inl ⟨rfl, rfl⟩⟩
theorem tt_row_on {h : Nat → Int} {k r : Nat} {c : Int} (q : tt_row h k r c) (hk : k < 1440) (e : h k = h r) : tt_row h (k + 1) r c :=
  ⟨Nat.lt_succ_of_lt q.1, by omega, fun j h1 h2 => by
    by_cases e1 : j = k
    · rw [e1]; exact e
    · exact q.2.2.1 j h1 (by omega), q.2.2.2⟩
theorem tt_row_T {h : Nat → Int} {k r : Nat} {c : Int} (q : tt_row h k r c) (hk : k < 1440) (e : h k ≠ h r) : tt_T h r = true ↔ (c = -1 ∧ h r < h k) ∨ (c = 1 ∧ h k < h r) := by
  obtain ⟨q1, q2, q3, q4⟩ := q
  have hn : tt_nx h r = k := tt_bh_is (by omega) (by omega) (fun j a b => q3 j (by omega) b) e
  unfold tt_T
  rw [hn]
  rcases q4 with ⟨a, b⟩ | ⟨a, b, d⟩ | ⟨a, b, d⟩
  · subst a; subst b
    simp
  · subst d
    have e1 : decide (1 ≤ r) = true := decide_eq_true a
    have e2 : decide (h (r - 1) ≠ h r) = true := decide_eq_true (by omega)
    have e3 : decide (k < 1440) = true := decide_eq_true hk
    have e4 : decide (h (r - 1) < h r) = true := decide_eq_true b
    rw [e1, e2, e3, e4]
    by_cases z : h k < h r
    · simp [z]
    · simp [z]
  · subst d
    have e1 : decide (1 ≤ r) = true := decide_eq_true a
    have e2 : decide (h (r - 1) ≠ h r) = true := decide_eq_true (by omega)
    have e3 : decide (k < 1440) = true := decide_eq_true hk
    have e4 : decide (h (r - 1) < h r) = false := decide_eq_false (by omega)
    rw [e1, e2, e3, e4]
    by_cases z : h k < h r
    · have z2 : ¬ h r < h k := by omega
      simp [z, z2]
    · have z2 : h r < h k := by omega
      simp [z, z2]
theorem tt_row_flat {h : Nat → Int} {k r : Nat} {c : Int} (q : tt_row h k r c) : ∀ j, r < j → j < k → tt_T h j = false := fun j a b =>
  tt_T_flat (by rw [q.2.2.1 j (by omega) b, q.2.2.1 (j - 1) (by omega) (by omega)])
theorem tt_row_L {h : Nat → Int} {k r : Nat} {c : Int} (q : tt_row h k r c) : tt_L h k = if tt_T h r then tt_L h r ++ [r] else tt_L h r := by
  rw [tt_L_skip k (show r + 1 ≤ k from q.1) (fun j a b => tt_row_flat q j a b), tt_L_succ]
theorem tt_row_up {h : Nat → Int} {k r : Nat} {c : Int} (q : tt_row h k r c) (hk : k < 1440) (e : h r < h k) : tt_row h (k + 1) k 1 :=
  ⟨by omega, by omega, fun j a b => by rw [show j = k by omega], Or.inr (Or.inl ⟨by have := q.1; omega, by rw [q.2.2.1 (k - 1) (by have := q.1; omega) (by have := q.1; omega)]; exact e, rfl⟩)⟩
theorem tt_row_down {h : Nat → Int} {k r : Nat} {c : Int} (q : tt_row h k r c) (hk : k < 1440) (e : h k < h r) : tt_row h (k + 1) k (-1) :=
  ⟨by omega, by omega, fun j a b => by rw [show j = k by omega], Or.inr (Or.inr ⟨by have := q.1; omega, by rw [q.2.2.1 (k - 1) (by have := q.1; omega) (by have := q.1; omega)]; exact e, rfl⟩)⟩
theorem tt_row_end {h : Nat → Int} {r : Nat} {c : Int} (q : tt_row h 1440 r c) : tt_L h 1440 = tt_L h r := by
  rw [tt_row_L q]
  have e : tt_T h r = false := by
    have hge := tt_bh_ge h (h r) (1440 - (r + 1)) (r + 1)
    have hat := tt_bh_at h (h r) (1440 - (r + 1)) (r + 1)
    have q1 := q.1
    have hn : ¬ tt_nx h r < 1440 := by
      intro z
      unfold tt_nx at z
      exact hat (by omega) (q.2.2.1 _ (by omega) z)
    unfold tt_T
    simp [hn]
  rw [e]; rfl
/-- the k-th extreme, and of what kind -/
theorem tt_L_get {h : Nat → Int} {n k : Nat} (hk : k < (tt_L h n).length) : (tt_L h n).getD k 0 < n ∧ tt_T h ((tt_L h n).getD k 0) = true := by
  have e : (tt_L h n).getD k 0 = (tt_L h n)[k] := by simp [List.getD, hk]
  rw [e]
  have := List.getElem_mem hk
  unfold tt_L at this
  rw [List.mem_filter, List.mem_range] at this
  exact this
theorem tt_T_kind {h : Nat → Int} {m : Nat} (q : tt_T h m = true) : 1 ≤ m ∧ h (m - 1) ≠ h m ∧ tt_nx h m < 1440 ∧ (h (m - 1) < h m ↔ h (tt_nx h m) < h m) := by
  unfold tt_T at q
  simp only [Bool.and_eq_true, decide_eq_true_eq, beq_iff_eq, decide_eq_decide] at q
  exact ⟨q.1, q.2.1, q.2.2.1, q.2.2.2⟩
/-- the signs of a line -/
def tt_dg (v u : Nat) : Nat := 48 + v / u % 10
def tt_wd (w : Nat) : List Nat := if w < 10 then [tt_dg w 1] else if w < 100 then [tt_dg w 10, tt_dg w 1] else [tt_dg w 100, tt_dg w 10, tt_dg w 1]
def tt_hd (y d m : Nat) : List Nat := [tt_dg y 1, 32, tt_dg d 100, tt_dg d 10, tt_dg d 1, 32, tt_dg (m / 60) 10, tt_dg (m / 60) 1, 58, tt_dg (m % 60) 10, tt_dg (m % 60) 1]
def tt_kd (b : Bool) : List Nat := if b then [32, 72, 73, 71, 72, 32] else [32, 76, 79, 87, 32]
def tt_ht (z : Int) : List Nat := (if z < 0 then [45] else []) ++ tt_wd (z.natAbs / 10000) ++ [46, tt_dg (z.natAbs % 10000) 1000, tt_dg (z.natAbs % 10000) 100, tt_dg (z.natAbs % 10000) 10, tt_dg (z.natAbs % 10000) 1]
def tt_ln (y d m : Nat) (b : Bool) (z : Int) : List Nat := tt_hd y d m ++ tt_kd b ++ tt_ht z
/-- the sum of n heights -/
def tt_sm (h : Nat → Int) (m : Nat) : Nat → Int
  | 0 => 0
  | n + 1 => tt_sm h m n + h (m + n)
theorem tt_sm_in {h : Nat → Int} (hh : ∀ k, -2000000 ≤ h k ∧ h k ≤ 2000000) (m : Nat) : ∀ n : Nat, -2000000 * (n : Int) ≤ tt_sm h m n ∧ tt_sm h m n ≤ 2000000 * (n : Int) := by
  intro n
  induction n with
  | zero => show -2000000 * ((0 : Nat) : Int) ≤ 0 ∧ 0 ≤ 2000000 * ((0 : Nat) : Int); omega
  | succ n ih =>
    have h2 := hh (m + n)
    show -2000000 * ((n + 1 : Nat) : Int) ≤ tt_sm h m n + h (m + n) ∧ tt_sm h m n + h (m + n) ≤ 2000000 * ((n + 1 : Nat) : Int)
    omega
/-- the first minute of a long enough stretch above -/
def tt_ab (h : Nat → Int) (v : Int) (sp : Nat) : Nat → Nat → Nat → Option Nat
  | 0, _, _ => none
  | n + 1, m, r => if v ≤ h m then (if r + 1 = sp then some (m + 1 - sp) else tt_ab h v sp n (m + 1) (r + 1)) else tt_ab h v sp n (m + 1) 0
end
section
/-! rows of our own: calls that write nothing, calls that write -/
section TQ
variable {p : Program} {l : Launch} {e : Env} {R : Room} {s : State} {m : MethodId} {args : Array Value} {below : List Frame} {meth : Method} {c : Code} {H : Heap} {locs : List Loc} {cells slots : Nat} {Q : State → Prop}
variable {pc : Nat} {ls : Array Slot} {rest st0 : List Value} {a : Array Value} {mc ms : Nat} {free : Addr → Prop}
/-- a method's end: it returned v, and F says what of the heap -/
def tq_Q (F : Option Value → Heap → Heap → Prop) : Array Value → State → Outcome → State → Prop := fun _ st oc t => ∃ v, oc = .returned v ∧ F v st.heap t.heap
def tq_n : Addr → Prop := fun _ => False
/-- .. it returned r, and the heap is as it was -/
abbrev tq_P (r : Option Value) : Array Value → State → Outcome → State → Prop := tq_Q (fun v H H1 => v = r ∧ H1 = H)
theorem tq_call {F : Option Value → Heap → Heap → Prop} (hr : va_Run p l e R s m args below meth c H locs cells slots mc ms (F0 m pc ls st0) rest (tq_Q F a) free)
    (kk : ∀ (v : Option Value) (H1 : Heap) (L : List Loc), F v H H1 → (∀ q ∈ L, free q.base) → W p l e R s m args below meth c H1 (locs ++ L) (cells + mc) (slots + ms) Q (F0 m (pc + 3) ls (v.toList ++ rest))) : W p l e R s m args below meth c H locs cells slots Q (F0 m pc ls st0) := by
  intro T hT X
  obtain ⟨v, st₀, t, T', L, h0, X', hL, e1, e2, ⟨v', hv, hF⟩, st⟩ := hr T hT X
  cases hv
  rw [h0, ← e1] at hF
  obtain ⟨t2, a1, b1⟩ := kk v T'.heap L hF hL T' rfl X'
  exact ⟨t2, st t2 a1, b1⟩
theorem tq_pure {r : Option Value} (hr : va_Run p l e R s m args below meth c H locs cells slots 0 0 (F0 m pc ls st0) rest (tq_P r a) tq_n)
    (kk : W p l e R s m args below meth c H locs cells slots Q (F0 m (pc + 3) ls (r.toList ++ rest))) : W p l e R s m args below meth c H locs cells slots Q (F0 m pc ls st0) := by
  refine tq_call hr (fun v H1 L hF hL => ?_)
  obtain ⟨rfl, rfl⟩ := hF
  have hL0 : L = [] := by
    cases L with
    | nil => rfl
    | cons q t => exact absurd (hL q List.mem_cons_self) (fun z => z)
  subst hL0
  rw [List.append_nil]
  exact kk
/-- the number on the top by another term -/
theorem tq_ti {x y : Int32} (h : x = y) (k : W p l e R s m args below meth c H locs cells slots Q (F0 m pc ls (.int y :: rest))) : W p l e R s m args below meth c H locs cells slots Q (F0 m pc ls (.int x :: rest)) := h ▸ k
theorem tq_tl {x y : Int64} (h : x = y) (k : W p l e R s m args below meth c H locs cells slots Q (F0 m pc ls (.long y :: rest))) : W p l e R s m args below meth c H locs cells slots Q (F0 m pc ls (.long x :: rest)) := h ▸ k
theorem tq_tv {x y : Value} (h : x = y) (k : W p l e R s m args below meth c H locs cells slots Q (F0 m pc ls (y :: rest))) : W p l e R s m args below meth c H locs cells slots Q (F0 m pc ls (x :: rest)) := h ▸ k
end TQ
/-! a contract's start: what the tables and the heap hold; it moves with tables that grow warmer -/
def tb (K : State → Heap → Prop) (av : List Value) : Array Value → State → Prop := va_Pc av (fun U => K U U.heap)
def tmov (K : State → Heap → Prop) : Prop := ∀ (u U : State) (H : Heap), u.WarmedH U.vm → K u H → K U H
theorem tb_S {K : State → Heap → Prop} {s : State} {H : Heap} {As : List Value} (hm : tmov K) (h : K s H) : PreS s H (tb K As) As :=
  ⟨fun _ U _ _ q => ⟨q.1, hm U _ _ (State.WarmedH.refl U) q.2⟩, fun U hU hW => ⟨rfl, by show K U U.heap; rw [hU]; exact hm s U H hW h⟩⟩
theorem tb_V {K : State → Heap → Prop} {s : State} {H : Heap} {C : String} {b : Addr} {As : List Value} (hm : tmov K) (h : K s H) (hr : ∃ cellB : Cell, H[b]? = some cellB ∧ cellB.vm.isStatics = false ∧ s.vm.findClass C = some cellB.cls) : PreV s H C b (tb K (.ref b :: As)) As :=
  ⟨fun _ U _ _ q => ⟨q.1, hm U _ _ (State.WarmedH.refl U) q.2⟩, hr, fun U hU hW => ⟨rfl, by show K U U.heap; rw [hU]; exact hm s U H hW h⟩⟩
end
section
/-! calls: what a call site needs, out of the tables' words -/
theorem wT_in {y : MethodName} {b : ByteArray} {n : Nat} {r : Option FieldType} {Ts : List Cond} (hT : ∀ w ∈ TT, w ∈ Ts) (hc : Cond.code y b n r ∈ TT) : GoodIn Ts (wT y b n r) := fun w h => by
  rcases List.mem_cons.mp h with e | h
  · rw [e]; exact ⟨hT _ hc, Or.inl rfl⟩
  · exact ⟨hT _ h, good_of_word (TT_good w h)⟩
theorem wT_T {y : MethodName} {b : ByteArray} {n : Nat} {r : Option FieldType} : ∀ w ∈ TT, w ∈ wT y b n r := fun _ h => List.mem_cons_of_mem _ h
theorem wH_T {y : MethodName} {b : ByteArray} {n : Nat} {r : Option FieldType} {h : List (Nat × Nat × Nat × Nat)} : ∀ w ∈ TT, w ∈ wH y b n r h := fun _ h => List.mem_cons_of_mem _ h
theorem tcV {R : Room} {s : State} {args : Array Value} {Ts : List Cond} {own C : String} {i maxL n mc ms : Nat} {y : MethodName} {b : ByteArray} {r : Option FieldType} {rm : Room} (k : tkV own i C y b maxL r n) (ht : ∀ w ∈ Ts, w.before args s = true) (hT : ∀ w ∈ TT, w ∈ Ts) (hR : rm.cells = mc ∧ rm.slots = ms ∧ rm.frames + 1 ≤ R.frames ∧ 8 + (maxL + 11) + rm.locals ≤ R.locals) : CallW R s args own C i y b maxL r (wT y b maxL r) rm mc ms n := by
  obtain ⟨k1, k2, k3, k4, k5, k6, k7⟩ := k
  refine ⟨⟨hR.1, hR.2.1, hR.2.2.1, hR.2.2.2, pay_in ht (wT_in hT k5), List.mem_cons_self, ht _ (hT _ k5), ht _ (hT _ k4), k6, fun sig h => ?_, ht _ (hT _ k1)⟩, ht _ (hT _ k2), ht _ (hT _ k3)⟩
  rw [h] at k7
  exact (Option.some.inj k7).symm
theorem tcS {R : Room} {s : State} {args : Array Value} {Ts : List Cond} {own : String} {i maxL n mc ms : Nat} {y : MethodName} {b : ByteArray} {r : Option FieldType} {rm : Room} (k : tkS own i y b maxL r n) (ht : ∀ w ∈ Ts, w.before args s = true) (hT : ∀ w ∈ TT, w ∈ Ts) (hR : rm.cells = mc ∧ rm.slots = ms ∧ rm.frames + 1 ≤ R.frames ∧ 8 + (maxL + 11) + rm.locals ≤ R.locals) : CallB R s args own i y b maxL r (wT y b maxL r) rm mc ms n ∧ (Cond.static y).before args s = true := by
  obtain ⟨k1, k2, k4, k5, k6, k7⟩ := k
  refine ⟨⟨hR.1, hR.2.1, hR.2.2.1, hR.2.2.2, pay_in ht (wT_in hT k5), List.mem_cons_self, ht _ (hT _ k5), ht _ (hT _ k4), k6, fun sig h => ?_, ht _ (hT _ k1)⟩, ht _ (hT _ k2)⟩
  rw [h] at k7
  exact (Option.some.inj k7).symm
section TR
variable {p : Program} {l : Launch} {e : Env} {R : Room} {s : State} {m : MethodId} {args : Array Value} {below : List Frame} {meth : Method} {c : Code} {H : Heap} {locs : List Loc} {cells slots : Nat} {Q : State → Prop}
variable {pc : Nat} {ls : Array Slot} {rest st0 : List Value} {cc b : ByteArray} {nL i maxL n : Nat} {own C : String} {y : MethodName} {r : Option FieldType} {rm : Room} {Ts : List Cond} {K : State → Heap → Prop} {As : List Value} {rv : Option Value} {a0 : Addr}
/-- a virtual call of a method that writes nothing -/
theorem tq_V (S : CallFix p m c cc nL s args Ts own) (hT : ∀ w ∈ TT, w ∈ Ts) (hM : Met l y (wT y b maxL r) rm (tb K (.ref a0 :: As)) (tq_P rv) 0 0 tq_n) (k : tkV own i C y b maxL r n) (hmv : tmov K) (hK : K s H) (hrc : ∃ cellB : Cell, H[a0]? = some cellB ∧ cellB.vm.isStatics = false ∧ s.vm.findClass C = some cellB.cls)
    (hn : As.length = n) (hsz : ls.size = nL) (hst : st0 = As.reverse ++ .ref a0 :: rest) (hW : (rest.map fun v => v.category).sum ≤ 8) (hd : decode cc pc = .ok (.invokevirtual i, 3)) (hR : rm.cells = 0 ∧ rm.slots = 0 ∧ rm.frames + 1 ≤ R.frames ∧ 8 + (maxL + 11) + rm.locals ≤ R.locals) (hf : cells ≤ R.cells ∧ slots ≤ R.slots)
    (kk : W p l e R s m args below meth c H locs cells slots Q (F0 m (pc + 3) ls (rv.toList ++ rest))) : W p l e R s m args below meth c H locs cells slots Q (F0 m pc ls st0) :=
  tq_pure (va_runV S hM (tcV k S.2.2.2.2 hT hR) (tb_V hmv hK hrc) rfl hn hsz hst (lv_room hW) hd hf) kk
/-- a static call of a method that writes nothing -/
theorem tq_S (S : CallFix p m c cc nL s args Ts own) (hT : ∀ w ∈ TT, w ∈ Ts) (hM : Met l y (wT y b maxL r) rm (tb K As) (tq_P rv) 0 0 tq_n) (k : tkS own i y b maxL r n) (hmv : tmov K) (hK : K s H)
    (hn : As.length = n) (hsz : ls.size = nL) (hst : st0 = As.reverse ++ rest) (hW : (rest.map fun v => v.category).sum ≤ 8) (hd : decode cc pc = .ok (.invokestatic i, 3)) (hR : rm.cells = 0 ∧ rm.slots = 0 ∧ rm.frames + 1 ≤ R.frames ∧ 8 + (maxL + 11) + rm.locals ≤ R.locals) (hf : cells ≤ R.cells ∧ slots ≤ R.slots)
    (kk : W p l e R s m args below meth c H locs cells slots Q (F0 m (pc + 3) ls (rv.toList ++ rest))) : W p l e R s m args below meth c H locs cells slots Q (F0 m pc ls st0) :=
  tq_pure (va_runS S hM (tcS k S.2.2.2.2 hT hR) (tb_S hmv hK) rfl hn hsz hst (lv_room hW) hd hf) kk
variable {D : va_G} {cl : List vw_C} {tys : List (ClassId × FieldType)} {ws : va_W}
theorem tq_iald (hexec : p.tables.exec = Jvm.exec) (hb : c.code = cc) (hK : va_K D cl tys s) (hP : va_P D cl ws H) (q0 t0 : Nat) {cA : ClassId} {f : Nat → Int32} {j : Nat} (ha : ws[q0]? = some (a0, .inl (cA, n, .inl f))) (ht : tys[t0]? = some (cA, .int)) (hj : j < n) (hn : n < 2 ^ 31) (hdg : decode cc pc = .ok (.iaload, 1))
    (kk : W p l e R s m args below meth c H locs cells slots Q (F0 m (pc + 1) ls (.int (f j) :: rest))) : W p l e R s m args below meth c H locs cells slots Q (F0 m pc ls (.int (nI j) :: .ref a0 :: rest)) :=
  va_iald hexec hb hK hP q0 t0 ha ht (vp_in_nI hj hn) hdg (by rw [nI_clamp (by omega)]; exact kk)
theorem tq_lald (hexec : p.tables.exec = Jvm.exec) (hb : c.code = cc) (hK : va_K D cl tys s) (hP : va_P D cl ws H) (q0 t0 : Nat) {cA : ClassId} {f : Nat → Int64} {j : Nat} (ha : ws[q0]? = some (a0, .inl (cA, n, .inr (.inl f)))) (ht : tys[t0]? = some (cA, .long)) (hj : j < n) (hn : n < 2 ^ 31) (hdg : decode cc pc = .ok (.laload, 1))
    (kk : W p l e R s m args below meth c H locs cells slots Q (F0 m (pc + 1) ls (.long (f j) :: rest))) : W p l e R s m args below meth c H locs cells slots Q (F0 m pc ls (.int (nI j) :: .ref a0 :: rest)) :=
  va_lald hexec hb hK hP q0 t0 ha ht (vp_in_nI hj hn) hdg (by rw [nI_clamp (by omega)]; exact kk)
/-- a row of an array of arrays -/
theorem tq_aald (hexec : p.tables.exec = Jvm.exec) (hb : c.code = cc) (hK : va_K D cl tys s) (hP : va_P D cl ws H) (q0 t0 : Nat) {cA : ClassId} {f : Nat → Option Nat} {j z : Nat} {ty : FieldType} (ha : ws[q0]? = some (a0, .inl (cA, n, .inr (.inr (.inr (.inr f)))))) (ht : tys[t0]? = some (cA, ty)) (hty : ty.isReference = true) (hj : j < n) (hn : n < 2 ^ 31) (hz : f j = some z) (hdg : decode cc pc = .ok (.aaload, 1))
    (kk : W p l e R s m args below meth c H locs cells slots Q (F0 m (pc + 1) ls (.ref z :: rest))) : W p l e R s m args below meth c H locs cells slots Q (F0 m pc ls (.int (nI j) :: .ref a0 :: rest)) := by
  refine W.aald (v := va_rf (f j)) (ty := ty) hexec hb (hP q0 _ ha) ((hK.2 t0 _ ht).1 n (fun j => va_rf (f j))) hty (fun q => by cases q) (by show ¬ (nI j < 0 ∨ (arrV _ _ _).slots.size ≤ _); rw [arrV_size]; exact vp_in_nI hj hn) (by show (arrV _ _ _).slots[_]? = _; rw [nI_clamp (by omega), arrV_read _ _ hj]) rfl rfl hdg ?_
  rw [hz]
  exact kk
end TR
/-! the class's object and its arrays -/
def tk (D : va_G) (ci : Nat → ClassId) (U : State) : Prop := va_K D tcl [(ci 0, .int), (ci 1, .long), (ci 2, .array .int), (ci 3, .array .long), (ci 4, .boolean)] U
theorem tk.moved {D : va_G} {ci : Nat → ClassId} {u U : State} (hW : u.WarmedH U.vm) (h : tk D ci u) : tk D ci U := va_K.moved hW.alike h
abbrev tx_w (ci : Nat → ClassId) (ad : Nat → Nat) (g : TS) (tc td : Int32) (tn : Nat → Int32) : va_W :=
  [(ad 0, .inr (0, [.int (iZ (tt_lev g)), .ref (ad 1), .ref (ad 2), .ref (ad 3), .ref (ad 4), .ref (ad 5), .ref (ad 6), .ref (ad 7), .int tc, .int td])),
   (ad 1, .inl (ci 0, 8, .inl (fun j => nI (tt_amp g j)))), (ad 2, .inl (ci 1, 8, .inr (.inl (fun j => lN (tt_spd g j))))), (ad 3, .inl (ci 1, 8, .inr (.inl (fun j => lN (tt_pha g j))))),
   (ad 4, .inl (ci 2, 8, .inr (.inr (.inr (.inr (fun j => some (ad (8 + j)))))))), (ad 5, .inl (ci 3, 8, .inr (.inr (.inr (.inr (fun j => some (ad (16 + j)))))))),
   (ad 6, .inl (ci 0, 11, .inl (fun j => nI (tt_fst g j)))), (ad 7, .inl (ci 0, 1440, .inl tn))]
def tx (D : va_G) (ci : Nat → ClassId) (ad : Nat → Nat) (g : TS) (tc td : Int32) (tn : Nat → Int32) (H : Heap) : Prop :=
  va_P D tcl (tx_w ci ad g tc td tn) H ∧ (∀ i, i < 8 → va_P D tcl [(ad (8 + i), .inl (ci 0, 10, .inl (fun j => nI (tt_fac g i j))))] H) ∧ ∀ i, i < 8 → va_P D tcl [(ad (16 + i), .inl (ci 1, 10, .inr (.inl (fun j => lN (tt_shf g i j)))))] H
/-- what a method of the class that writes nothing begins with -/
def wX (D : va_G) (ci : Nat → ClassId) (ad : Nat → Nat) (g : TS) (tc td : Int32) (tn : Nat → Int32) (U : State) (H : Heap) : Prop := tk D ci U ∧ tt_ok g ∧ tx D ci ad g tc td tn H
theorem wX_mv {D : va_G} {ci : Nat → ClassId} {ad : Nat → Nat} {g : TS} {tc td : Int32} {tn : Nat → Int32} : tmov (wX D ci ad g tc td tn) := fun _ _ _ hW h => ⟨tk.moved hW h.1, h.2⟩
def wN : State → Heap → Prop := fun _ _ => True
theorem wN_mv : tmov wN := fun _ _ _ _ _ => trivial
theorem wX_rc {D : va_G} {ci : Nat → ClassId} {ad : Nat → Nat} {g : TS} {tc td : Int32} {tn : Nat → Int32} {s : State} {H : Heap} (h : wX D ci ad g tc td tn s H) : ∃ cellB : Cell, H[ad 0]? = some cellB ∧ cellB.vm.isStatics = false ∧ s.vm.findClass RX = some cellB.cls := va_recv (q0 := 0) h.1 h.2.2.1 (q := (RX, TX, 10)) (ci := 0) rfl rfl
abbrev rP (f n : Nat) : Room := { frames := f, cells := 0, slots := 0, locals := n }
end
section
/-! the class's leaves: what they answer. Written by wip/whole/gen.py -/
def zb (c : Prop) [Decidable c] : Int32 := if c then 1 else 0
theorem zb_1 {c : Prop} [Decidable c] (h : c) : some (Value.int 1) = some (Value.int (zb c)) := by rw [zb, if_pos h]
theorem zb_0 {c : Prop} [Decidable c] (h : ¬ c) : some (Value.int 0) = some (Value.int (zb c)) := by rw [zb, if_neg h]
theorem iv_lt0 {v : Int32} : v < 0 ↔ v.toInt < 0 := by rw [Int32.lt_iff_toInt_lt, Int32.toInt_zero]
theorem iv_le {v : Int32} {n : Nat} (h : n < 2 ^ 31) : nI n ≤ v ↔ (n : Int) ≤ v.toInt := by rw [Int32.le_iff_toInt_le, nI_toInt h]
theorem lv_lt0 {x : Int64} : lg_cmp x (lN 0) < 0 ↔ x.toInt < 0 := by rw [lg_cmp_lt, Int64.lt_iff_toInt_lt]; rfl
theorem lv_geN {x : Int64} {n : Nat} (h : n < 2 ^ 63) : 0 ≤ lg_cmp x (lN n) ↔ (n : Int) ≤ x.toInt := by rw [lg_cmp_ge, Int64.le_iff_toInt_le, pk_lT h]
set_option maxHeartbeats 4000000 in
set_option maxRecDepth 100000 in
theorem c_X_isConstituent (l : Launch) (v : Int32) : Met l y_X_isConstituent (wT y_X_isConstituent b_X_isConstituent 1 (some .boolean)) (rP 0 0) (tb (wN) [.int v]) (tq_P (some (.int (zb (0 ≤ v.toInt ∧ v.toInt < 8))))) 0 0 tq_n := by
  refine Met.ofW (cc := b_X_isConstituent) (maxL := 1) (ret := (some .boolean)) (by decide) rfl ?_
  intro p e s m args below meth c s₁ B hml hv
  obtain ⟨rfl, hv⟩ := hv
  have hx := B.exec
  have hb := B.bytes
  have hr := B.returns
  have hts := atoms_spec (ws := wT y_X_isConstituent b_X_isConstituent 1 (some .boolean)) B.pre
  have hT : ∀ w ∈ TT, w ∈ wT y_X_isConstituent b_X_isConstituent 1 (some .boolean) := wT_T
  have hown : s.vm.findClass RX = some m.cls := findClass_of_methodNamed B.named
  have hlocks := B.notSynchronized
  have hl := lv_entry ([.int v]) (n := 1) (Nat.le_of_ble_eq_true rfl)
  rw [lg_entry_eq]
  generalize (lg_sl ([.int v]) ++ List.replicate (1 - (lg_sl ([.int v])).length) Slot.unset).toArray = ls at hl ⊢
  have hl : lv_has ls 1 [(0, .int v)] := hl
  refine lv_iload_n hx hb d_X_isConstituent_0 rfl (lv_at hl 0 rfl) ?_
  refine lv_if_lt hx hb d_X_isConstituent_1 (tgt := 14) (by decide) (fun h1 => ?_) (fun h1 => ?_)
  · have h1 := iv_lt0.mp h1
    refine lv_iconst hx hb d_X_isConstituent_14 (v := (nI 0)) rfl ?_
    exact W.zret hx hb hr narrow_b0 (fun t ht hW => ⟨_, rfl, ⟨zb_0 (by omega), ht⟩⟩) (fun q hq => nomatch hq) d_X_isConstituent_15
  · have h1 := mt iv_lt0.mpr h1
    refine lv_iload_n hx hb d_X_isConstituent_4 rfl (lv_at hl 0 rfl) ?_
    refine lv_bipush hx hb d_X_isConstituent_5 (v := (nI 8)) rfl ?_
    refine lv_icmp_ge hx hb d_X_isConstituent_7 (tgt := 14) (by decide) (fun h2 => ?_) (fun h2 => ?_)
    · have h2 := (iv_le (by decide)).mp h2
      refine lv_iconst hx hb d_X_isConstituent_14 (v := (nI 0)) rfl ?_
      exact W.zret hx hb hr narrow_b0 (fun t ht hW => ⟨_, rfl, ⟨zb_0 (by omega), ht⟩⟩) (fun q hq => nomatch hq) d_X_isConstituent_15
    · have h2 := mt (iv_le (by decide)).mpr h2
      refine lv_iconst hx hb d_X_isConstituent_10 (v := (nI 1)) rfl ?_
      refine lv_goto hx hb d_X_isConstituent_11 (tgt := 15) (by decide) ?_
      exact W.zret hx hb hr narrow_b1 (fun t ht hW => ⟨_, rfl, ⟨zb_1 (by omega), ht⟩⟩) (fun q hq => nomatch hq) d_X_isConstituent_15
set_option maxHeartbeats 4000000 in
set_option maxRecDepth 100000 in
theorem c_X_isYear (l : Launch) (v : Int32) : Met l y_X_isYear (wT y_X_isYear b_X_isYear 1 (some .boolean)) (rP 0 0) (tb (wN) [.int v]) (tq_P (some (.int (zb (0 ≤ v.toInt ∧ v.toInt < 10))))) 0 0 tq_n := by
  refine Met.ofW (cc := b_X_isYear) (maxL := 1) (ret := (some .boolean)) (by decide) rfl ?_
  intro p e s m args below meth c s₁ B hml hv
  obtain ⟨rfl, hv⟩ := hv
  have hx := B.exec
  have hb := B.bytes
  have hr := B.returns
  have hts := atoms_spec (ws := wT y_X_isYear b_X_isYear 1 (some .boolean)) B.pre
  have hT : ∀ w ∈ TT, w ∈ wT y_X_isYear b_X_isYear 1 (some .boolean) := wT_T
  have hown : s.vm.findClass RX = some m.cls := findClass_of_methodNamed B.named
  have hlocks := B.notSynchronized
  have hl := lv_entry ([.int v]) (n := 1) (Nat.le_of_ble_eq_true rfl)
  rw [lg_entry_eq]
  generalize (lg_sl ([.int v]) ++ List.replicate (1 - (lg_sl ([.int v])).length) Slot.unset).toArray = ls at hl ⊢
  have hl : lv_has ls 1 [(0, .int v)] := hl
  refine lv_iload_n hx hb d_X_isYear_0 rfl (lv_at hl 0 rfl) ?_
  refine lv_if_lt hx hb d_X_isYear_1 (tgt := 14) (by decide) (fun h1 => ?_) (fun h1 => ?_)
  · have h1 := iv_lt0.mp h1
    refine lv_iconst hx hb d_X_isYear_14 (v := (nI 0)) rfl ?_
    exact W.zret hx hb hr narrow_b0 (fun t ht hW => ⟨_, rfl, ⟨zb_0 (by omega), ht⟩⟩) (fun q hq => nomatch hq) d_X_isYear_15
  · have h1 := mt iv_lt0.mpr h1
    refine lv_iload_n hx hb d_X_isYear_4 rfl (lv_at hl 0 rfl) ?_
    refine lv_bipush hx hb d_X_isYear_5 (v := (nI 10)) rfl ?_
    refine lv_icmp_ge hx hb d_X_isYear_7 (tgt := 14) (by decide) (fun h2 => ?_) (fun h2 => ?_)
    · have h2 := (iv_le (by decide)).mp h2
      refine lv_iconst hx hb d_X_isYear_14 (v := (nI 0)) rfl ?_
      exact W.zret hx hb hr narrow_b0 (fun t ht hW => ⟨_, rfl, ⟨zb_0 (by omega), ht⟩⟩) (fun q hq => nomatch hq) d_X_isYear_15
    · have h2 := mt (iv_le (by decide)).mpr h2
      refine lv_iconst hx hb d_X_isYear_10 (v := (nI 1)) rfl ?_
      refine lv_goto hx hb d_X_isYear_11 (tgt := 15) (by decide) ?_
      exact W.zret hx hb hr narrow_b1 (fun t ht hW => ⟨_, rfl, ⟨zb_1 (by omega), ht⟩⟩) (fun q hq => nomatch hq) d_X_isYear_15
set_option maxHeartbeats 4000000 in
set_option maxRecDepth 100000 in
theorem c_X_isPosition (l : Launch) (v : Int64) : Met l y_X_isPosition (wT y_X_isPosition b_X_isPosition 2 (some .boolean)) (rP 0 0) (tb (wN) [.long v]) (tq_P (some (.int (zb (0 ≤ v.toInt ∧ v.toInt < 281474976710656))))) 0 0 tq_n := by
  refine Met.ofW (cc := b_X_isPosition) (maxL := 2) (ret := (some .boolean)) (by decide) rfl ?_
  intro p e s m args below meth c s₁ B hml hv
  obtain ⟨rfl, hv⟩ := hv
  have hx := B.exec
  have hb := B.bytes
  have hr := B.returns
  have hts := atoms_spec (ws := wT y_X_isPosition b_X_isPosition 2 (some .boolean)) B.pre
  have hT : ∀ w ∈ TT, w ∈ wT y_X_isPosition b_X_isPosition 2 (some .boolean) := wT_T
  have hown : s.vm.findClass RX = some m.cls := findClass_of_methodNamed B.named
  have hlocks := B.notSynchronized
  have hl := lv_entry ([.long v]) (n := 2) (Nat.le_of_ble_eq_true rfl)
  rw [lg_entry_eq]
  generalize (lg_sl ([.long v]) ++ List.replicate (2 - (lg_sl ([.long v])).length) Slot.unset).toArray = ls at hl ⊢
  have hl : lv_has ls 2 [(0, .long v)] := hl
  refine lv_lload_n hx hb d_X_isPosition_0 rfl (lv_at hl 0 rfl) ?_
  refine lv_lconst hx hb d_X_isPosition_1 (v := (lN 0)) rfl ?_
  refine W.lcmp hx hb d_X_isPosition_2 ?_
  refine lv_if_lt hx hb d_X_isPosition_3 (tgt := 18) (by decide) (fun h1 => ?_) (fun h1 => ?_)
  · have h1 := lv_lt0.mp h1
    refine lv_iconst hx hb d_X_isPosition_18 (v := (nI 0)) rfl ?_
    exact W.zret hx hb hr narrow_b0 (fun t ht hW => ⟨_, rfl, ⟨zb_0 (by omega), ht⟩⟩) (fun q hq => nomatch hq) d_X_isPosition_19
  · have h1 := mt lv_lt0.mpr h1
    refine lv_lload_n hx hb d_X_isPosition_6 rfl (lv_at hl 0 rfl) ?_
    refine lv_ldc2 hx hb (v := (lN 281474976710656)) hown (hts _ (hT _ k_X_171)) d_X_isPosition_7 ?_
    refine W.lcmp hx hb d_X_isPosition_10 ?_
    refine lv_if_ge hx hb d_X_isPosition_11 (tgt := 18) (by decide) (fun h2 => ?_) (fun h2 => ?_)
    · have h2 := (lv_geN (by decide)).mp h2
      refine lv_iconst hx hb d_X_isPosition_18 (v := (nI 0)) rfl ?_
      exact W.zret hx hb hr narrow_b0 (fun t ht hW => ⟨_, rfl, ⟨zb_0 (by omega), ht⟩⟩) (fun q hq => nomatch hq) d_X_isPosition_19
    · have h2 := mt (lv_geN (by decide)).mpr h2
      refine lv_iconst hx hb d_X_isPosition_14 (v := (nI 1)) rfl ?_
      refine lv_goto hx hb d_X_isPosition_15 (tgt := 19) (by decide) ?_
      exact W.zret hx hb hr narrow_b1 (fun t ht hW => ⟨_, rfl, ⟨zb_1 (by omega), ht⟩⟩) (fun q hq => nomatch hq) d_X_isPosition_19
set_option maxHeartbeats 4000000 in
set_option maxRecDepth 100000 in
theorem c_X_isMinute (l : Launch) (D : va_G) (ci : Nat → ClassId) (ad : Nat → Nat) (g : TS) (tc td : Int32) (tn : Nat → Int32) (v : Int32) : Met l y_X_isMinute (wT y_X_isMinute b_X_isMinute 2 (some .boolean)) (rP 0 0) (tb (wX D ci ad g tc td tn) [.ref (ad 0), .int v]) (tq_P (some (.int (zb (0 ≤ v.toInt ∧ v.toInt < (tt_fst g 10 : Nat)))))) 0 0 tq_n := by
  refine Met.ofW (cc := b_X_isMinute) (maxL := 2) (ret := (some .boolean)) (by decide) rfl ?_
  intro p e s m args below meth c s₁ B hml hv
  obtain ⟨rfl, hK, hg, hX⟩ := hv
  have hx := B.exec
  have hb := B.bytes
  have hr := B.returns
  have hts := atoms_spec (ws := wT y_X_isMinute b_X_isMinute 2 (some .boolean)) B.pre
  have hT : ∀ w ∈ TT, w ∈ wT y_X_isMinute b_X_isMinute 2 (some .boolean) := wT_T
  have hown : s.vm.findClass RX = some m.cls := findClass_of_methodNamed B.named
  have hlocks := B.notSynchronized
  have hl := lv_entry ([.ref (ad 0), .int v]) (n := 2) (Nat.le_of_ble_eq_true rfl)
  rw [lg_entry_eq]
  generalize (lg_sl ([.ref (ad 0), .int v]) ++ List.replicate (2 - (lg_sl ([.ref (ad 0), .int v])).length) Slot.unset).toArray = ls at hl ⊢
  have hl : lv_has ls 2 [(0, .ref (ad 0)), (1, .int v)] := hl
  have hdb := tt_db_in hg.2.2.2 10 (Nat.le_refl _)
  refine lv_iload_n hx hb d_X_isMinute_0 rfl (lv_at hl 1 rfl) ?_
  refine lv_if_lt hx hb d_X_isMinute_1 (tgt := 19) (by decide) (fun h1 => ?_) (fun h1 => ?_)
  · have h1 := iv_lt0.mp h1
    refine lv_iconst hx hb d_X_isMinute_19 (v := (nI 0)) rfl ?_
    exact W.zret hx hb hr narrow_b0 (fun t ht hW => ⟨_, rfl, ⟨zb_0 (by omega), ht⟩⟩) (fun q hq => nomatch hq) d_X_isMinute_20
  · have h1 := mt iv_lt0.mpr h1
    refine lv_iload_n hx hb d_X_isMinute_4 rfl (lv_at hl 1 rfl) ?_
    refine lv_aload_n hx hb d_X_isMinute_5 rfl (lv_at hl 0 rfl) ?_
    refine va_get hx hb hts (fun w h => hT w (uX_in w h)) hown hK hX.1 0 rfl rfl 6 (by decide) (hts _ (hT _ k_X_30)) (fun _ h => h) rfl d_X_isMinute_6 ?_
    refine lv_bipush hx hb d_X_isMinute_9 (v := (nI 10)) rfl ?_
    refine tq_iald hx hb hK hX.1 6 0 rfl rfl (by decide) (by decide) d_X_isMinute_11 ?_
    refine lv_icmp_ge hx hb d_X_isMinute_12 (tgt := 19) (by decide) (fun h2 => ?_) (fun h2 => ?_)
    · have h2 := (iv_le (by unfold tt_fst; omega)).mp h2
      refine lv_iconst hx hb d_X_isMinute_19 (v := (nI 0)) rfl ?_
      exact W.zret hx hb hr narrow_b0 (fun t ht hW => ⟨_, rfl, ⟨zb_0 (by omega), ht⟩⟩) (fun q hq => nomatch hq) d_X_isMinute_20
    · have h2 := mt (iv_le (by unfold tt_fst; omega)).mpr h2
      refine lv_iconst hx hb d_X_isMinute_15 (v := (nI 1)) rfl ?_
      refine lv_goto hx hb d_X_isMinute_16 (tgt := 20) (by decide) ?_
      exact W.zret hx hb hr narrow_b1 (fun t ht hW => ⟨_, rfl, ⟨zb_1 (by omega), ht⟩⟩) (fun q hq => nomatch hq) d_X_isMinute_20
set_option maxHeartbeats 4000000 in
set_option maxRecDepth 100000 in
theorem c_X_isDay (l : Launch) (D : va_G) (ci : Nat → ClassId) (ad : Nat → Nat) (g : TS) (tc td : Int32) (tn : Nat → Int32) (v : Int32) : Met l y_X_isDay (wT y_X_isDay b_X_isDay 2 (some .boolean)) (rP 0 0) (tb (wX D ci ad g tc td tn) [.ref (ad 0), .int v]) (tq_P (some (.int (zb (0 ≤ v.toInt ∧ v.toInt < (tt_db (tt_day g) 10 : Nat)))))) 0 0 tq_n := by
  refine Met.ofW (cc := b_X_isDay) (maxL := 2) (ret := (some .boolean)) (by decide) rfl ?_
  intro p e s m args below meth c s₁ B hml hv
  obtain ⟨rfl, hK, hg, hX⟩ := hv
  have hx := B.exec
  have hb := B.bytes
  have hr := B.returns
  have hts := atoms_spec (ws := wT y_X_isDay b_X_isDay 2 (some .boolean)) B.pre
  have hT : ∀ w ∈ TT, w ∈ wT y_X_isDay b_X_isDay 2 (some .boolean) := wT_T
  have hown : s.vm.findClass RX = some m.cls := findClass_of_methodNamed B.named
  have hlocks := B.notSynchronized
  have hl := lv_entry ([.ref (ad 0), .int v]) (n := 2) (Nat.le_of_ble_eq_true rfl)
  rw [lg_entry_eq]
  generalize (lg_sl ([.ref (ad 0), .int v]) ++ List.replicate (2 - (lg_sl ([.ref (ad 0), .int v])).length) Slot.unset).toArray = ls at hl ⊢
  have hl : lv_has ls 2 [(0, .ref (ad 0)), (1, .int v)] := hl
  have hdb := tt_db_in hg.2.2.2 10 (Nat.le_refl _)
  refine lv_iload_n hx hb d_X_isDay_0 rfl (lv_at hl 1 rfl) ?_
  refine lv_if_lt hx hb d_X_isDay_1 (tgt := 23) (by decide) (fun h1 => ?_) (fun h1 => ?_)
  · have h1 := iv_lt0.mp h1
    refine lv_iconst hx hb d_X_isDay_23 (v := (nI 0)) rfl ?_
    exact W.zret hx hb hr narrow_b0 (fun t ht hW => ⟨_, rfl, ⟨zb_0 (by omega), ht⟩⟩) (fun q hq => nomatch hq) d_X_isDay_24
  · have h1 := mt iv_lt0.mpr h1
    refine lv_iload_n hx hb d_X_isDay_4 rfl (lv_at hl 1 rfl) ?_
    refine lv_aload_n hx hb d_X_isDay_5 rfl (lv_at hl 0 rfl) ?_
    refine va_get hx hb hts (fun w h => hT w (uX_in w h)) hown hK hX.1 0 rfl rfl 6 (by decide) (hts _ (hT _ k_X_30)) (fun _ h => h) rfl d_X_isDay_6 ?_
    refine lv_bipush hx hb d_X_isDay_9 (v := (nI 10)) rfl ?_
    refine tq_iald hx hb hK hX.1 6 0 rfl rfl (by decide) (by decide) d_X_isDay_11 ?_
    refine lv_sipush hx hb d_X_isDay_12 (v := (nI 1440)) rfl ?_
    refine lv_idiv hx hb d_X_isDay_15 (by decide) ?_
    refine tq_ti (show _ = (nI (tt_db (tt_day g) 10)) from (by rw [pk_div (by unfold tt_fst; omega) (by decide) (by decide)]; congr 1; unfold tt_fst; omega)) ?_
    refine lv_icmp_ge hx hb d_X_isDay_16 (tgt := 23) (by decide) (fun h2 => ?_) (fun h2 => ?_)
    · have h2 := (iv_le (by omega)).mp h2
      refine lv_iconst hx hb d_X_isDay_23 (v := (nI 0)) rfl ?_
      exact W.zret hx hb hr narrow_b0 (fun t ht hW => ⟨_, rfl, ⟨zb_0 (by omega), ht⟩⟩) (fun q hq => nomatch hq) d_X_isDay_24
    · have h2 := mt (iv_le (by omega)).mpr h2
      refine lv_iconst hx hb d_X_isDay_19 (v := (nI 1)) rfl ?_
      refine lv_goto hx hb d_X_isDay_20 (tgt := 24) (by decide) ?_
      exact W.zret hx hb hr narrow_b1 (fun t ht hW => ⟨_, rfl, ⟨zb_1 (by omega), ht⟩⟩) (fun q hq => nomatch hq) d_X_isDay_24
end
section
/-! the class's heights. Written by wip/whole/gen.py -/
section G13
variable {p : Program} {l : Launch} {e : Env} {R : Room} {s : State} {m : MethodId} {args : Array Value} {below : List Frame} {meth : Method} {c : Code} {H : Heap} {locs : List Loc} {cells slots : Nat} {Q : State → Prop} {Ts : List Cond}
variable {D : va_G} {ci : Nat → ClassId} {ad : Nat → Nat} {g : TS} {tc td : Int32} {tn : Nat → Int32}
set_option maxHeartbeats 4000000 in
set_option maxRecDepth 100000 in
theorem l_X_yearOf (hx : p.tables.exec = Jvm.exec) (hb : c.code = b_X_yearOf) (hts : ∀ w ∈ Ts, w.before args s = true) (hT : ∀ w ∈ TT, w ∈ Ts) (hown : s.vm.findClass RX = some m.cls) (hK : tk D ci s) (hg : tt_ok g) (hX : tx D ci ad g tc td tn H) {mm : Nat} (hmm : mm < 2147483648)
    (kk : ∀ (ls : Array Slot), lv_has ls 3 [(2, .int (nI (tt_yr g mm))), (0, .ref (ad 0)), (1, .int (nI mm))] → W p l e R s m args below meth c H locs cells slots Q (F0 m 26 ls [])) :
    ∀ (n y : Nat) (ls : Array Slot), y + n = 9 → tt_fst g y ≤ mm → lv_has ls 3 [(2, .int (nI y)), (0, .ref (ad 0)), (1, .int (nI mm))] → W p l e R s m args below meth c H locs cells slots Q (F0 m 2 ls []) := by
  intro n
  induction n with
  | zero =>
    intro y ls hy hf hl
    obtain rfl : y = 9 := by omega
    refine lv_iload_n hx hb d_X_yearOf_2 rfl (lv_at hl 0 rfl) ?_
    refine lv_bipush hx hb d_X_yearOf_3 (v := (nI 9)) rfl ?_
    refine lv_icmp_ge hx hb d_X_yearOf_5 (tgt := 26) (by decide) (fun _ => ?_) (fun hno => absurd (nI_le (Nat.le_refl 9) (by decide)) hno)
    rw [← tt_yr_is (g := g) (m := mm) (y := 9) (by decide) hf (fun h => absurd h (by decide))] at hl
    exact kk ls hl
  | succ n ih =>
    intro y ls hy hf hl
    have hf1 : tt_fst g (y + 1) < 2147483648 := by
      have h9 := (tt_db_in hg.2.2.2 (y + 1) (by omega)).2
      unfold tt_fst
      omega
    refine lv_iload_n hx hb d_X_yearOf_2 rfl (lv_at hl 0 rfl) ?_
    refine lv_bipush hx hb d_X_yearOf_3 (v := (nI 9)) rfl ?_
    refine lv_icmp_ge hx hb d_X_yearOf_5 (tgt := 26) (by decide) (fun hyes => absurd hyes (nI_ge (show y < 9 by omega) (by decide))) (fun _ => ?_)
    refine lv_iload_n hx hb d_X_yearOf_8 rfl (lv_at hl 2 rfl) ?_
    refine lv_aload_n hx hb d_X_yearOf_9 rfl (lv_at hl 1 rfl) ?_
    refine va_get hx hb hts (fun w h => hT w (uX_in w h)) hown hK hX.1 0 rfl rfl 6 (by decide) (hts _ (hT _ k_X_30)) (fun _ h => h) rfl d_X_yearOf_10 ?_
    refine lv_iload_n hx hb d_X_yearOf_13 rfl (lv_at hl 0 rfl) ?_
    refine lv_iconst hx hb d_X_yearOf_14 (v := (nI 1)) rfl ?_
    refine lv_iadd hx hb d_X_yearOf_15 ?_
    refine tq_ti (show _ = (nI (y + 1)) from nI_add y 1) ?_
    refine tq_iald hx hb hK hX.1 6 0 rfl rfl (show y + 1 < 11 by omega) (by decide) d_X_yearOf_16 ?_
    refine lv_icmp_lt hx hb d_X_yearOf_17 (tgt := 26) (by decide) (fun h1 => ?_) (fun h1 => ?_)
    · have h1 := (nI_ltI hmm hf1).mp h1
      rw [← tt_yr_is (g := g) (m := mm) (y := y) (by omega) hf (fun _ => h1)] at hl
      exact kk ls hl
    · have h1 := mt (nI_ltI hmm hf1).mpr h1
      refine lv_iinc hx hb d_X_yearOf_20 hl (k := 0) rfl (v := (nI (y + 1))) (by rw [show Int32.ofInt 1 = 1 from rfl]; exact nI_1 y) (by decide) (lv' := [(2, .int (nI (y + 1))), (0, .ref (ad 0)), (1, .int (nI mm))]) rfl (fun ls hl => ?_)
      refine lv_goto hx hb d_X_yearOf_23 (tgt := 2) (by decide) ?_
      exact ih (y + 1) ls (by omega) (by omega) hl
end G13
set_option maxHeartbeats 4000000 in
set_option maxRecDepth 100000 in
theorem c_X_yearOf (l : Launch) (D : va_G) (ci : Nat → ClassId) (ad : Nat → Nat) (g : TS) (tc td : Int32) (tn : Nat → Int32) {mm : Nat} (hmm : mm < 2147483648) : Met l y_X_yearOf (wT y_X_yearOf b_X_yearOf 3 (some .int)) (rP 0 0) (tb (wX D ci ad g tc td tn) [.ref (ad 0), .int (nI mm)]) (tq_P (some (.int (nI (tt_yr g mm))))) 0 0 tq_n := by
  refine Met.ofW (cc := b_X_yearOf) (maxL := 3) (ret := (some .int)) (by decide) rfl ?_
  intro p e s m args below meth c s₁ B hml hv
  obtain ⟨rfl, hK, hg, hX⟩ := hv
  have hx := B.exec
  have hb := B.bytes
  have hr := B.returns
  have hts := atoms_spec (ws := wT y_X_yearOf b_X_yearOf 3 (some .int)) B.pre
  have hT : ∀ w ∈ TT, w ∈ wT y_X_yearOf b_X_yearOf 3 (some .int) := wT_T
  have hown : s.vm.findClass RX = some m.cls := findClass_of_methodNamed B.named
  have hlocks := B.notSynchronized
  have hl := lv_entry ([.ref (ad 0), .int (nI mm)]) (n := 3) (Nat.le_of_ble_eq_true rfl)
  rw [lg_entry_eq]
  generalize (lg_sl ([.ref (ad 0), .int (nI mm)]) ++ List.replicate (3 - (lg_sl ([.ref (ad 0), .int (nI mm)])).length) Slot.unset).toArray = ls at hl ⊢
  have hl : lv_has ls 3 [(0, .ref (ad 0)), (1, .int (nI mm))] := hl
  refine lv_iconst hx hb d_X_yearOf_0 (v := (nI 0)) rfl ?_
  refine lv_istore_n hx hb d_X_yearOf_1 rfl hl (by decide) (lv' := [(2, .int (nI 0)), (0, .ref (ad 0)), (1, .int (nI mm))]) rfl (fun ls hl => ?_)
  refine l_X_yearOf hx hb hts hT hown hK hg hX hmm (fun ls hl => ?_) 9 0 ls rfl (Nat.zero_le _) hl
  refine lv_iload_n hx hb d_X_yearOf_26 rfl (lv_at hl 0 rfl) ?_
  exact W.iret hx hb hr (fun t ht hW => ⟨_, rfl, ⟨rfl, ht⟩⟩) (fun q hq => nomatch hq) d_X_yearOf_27
set_option maxHeartbeats 4000000 in
set_option maxRecDepth 100000 in
theorem c_X_positionAt (l : Launch) (D : va_G) (ci : Nat → ClassId) (ad : Nat → Nat) (g : TS) (tc td : Int32) (tn : Nat → Int32) {i mm y : Nat} (hi : i < 8) (hmm : mm < 2147483648) (hy : y < 10) : Met l y_X_positionAt (wT y_X_positionAt b_X_positionAt 4 (some .long)) (rP 0 0) (tb (wX D ci ad g tc td tn) [.ref (ad 0), .int (nI i), .int (nI mm), .int (nI y)]) (tq_P (some (.long (lN (tt_pos g i mm y))))) 0 0 tq_n := by
  refine Met.ofW (cc := b_X_positionAt) (maxL := 4) (ret := (some .long)) (by decide) rfl ?_
  intro p e s m args below meth c s₁ B hml hv
  obtain ⟨rfl, hK, hg, hX⟩ := hv
  have hx := B.exec
  have hb := B.bytes
  have hr := B.returns
  have hts := atoms_spec (ws := wT y_X_positionAt b_X_positionAt 4 (some .long)) B.pre
  have hT : ∀ w ∈ TT, w ∈ wT y_X_positionAt b_X_positionAt 4 (some .long) := wT_T
  have hown : s.vm.findClass RX = some m.cls := findClass_of_methodNamed B.named
  have hlocks := B.notSynchronized
  have hl := lv_entry ([.ref (ad 0), .int (nI i), .int (nI mm), .int (nI y)]) (n := 4) (Nat.le_of_ble_eq_true rfl)
  rw [lg_entry_eq]
  generalize (lg_sl ([.ref (ad 0), .int (nI i), .int (nI mm), .int (nI y)]) ++ List.replicate (4 - (lg_sl ([.ref (ad 0), .int (nI i), .int (nI mm), .int (nI y)])).length) Slot.unset).toArray = ls at hl ⊢
  have hl : lv_has ls 4 [(0, .ref (ad 0)), (1, .int (nI i)), (2, .int (nI mm)), (3, .int (nI y))] := hl
  refine lv_aload_n hx hb d_X_positionAt_0 rfl (lv_at hl 0 rfl) ?_
  refine va_get hx hb hts (fun w h => hT w (uX_in w h)) hown hK hX.1 0 rfl rfl 3 (by decide) (hts _ (hT _ k_X_17)) (fun _ h => h) rfl d_X_positionAt_1 ?_
  refine lv_iload_n hx hb d_X_positionAt_4 rfl (lv_at hl 1 rfl) ?_
  refine tq_lald hx hb hK hX.1 3 1 rfl rfl hi (by decide) d_X_positionAt_5 ?_
  refine lv_aload_n hx hb d_X_positionAt_6 rfl (lv_at hl 0 rfl) ?_
  refine va_get hx hb hts (fun w h => hT w (uX_in w h)) hown hK hX.1 0 rfl rfl 2 (by decide) (hts _ (hT _ k_X_13)) (fun _ h => h) rfl d_X_positionAt_7 ?_
  refine lv_iload_n hx hb d_X_positionAt_10 rfl (lv_at hl 1 rfl) ?_
  refine tq_lald hx hb hK hX.1 2 1 rfl rfl hi (by decide) d_X_positionAt_11 ?_
  refine lv_iload_n hx hb d_X_positionAt_12 rfl (lv_at hl 2 rfl) ?_
  refine lv_i2l hx hb d_X_positionAt_13 (v := (nI mm).toInt64) rfl ?_
  refine tq_tl (show _ = (lN mm) from nI_l hmm) ?_
  refine lv_lmul hx hb d_X_positionAt_14 ?_
  refine tq_tl (show _ = (lN (tt_spd g i * mm)) from lN_mul _ _) ?_
  refine lv_ladd hx hb d_X_positionAt_15 ?_
  refine tq_tl (show _ = (lN (tt_pha g i + tt_spd g i * mm)) from lN_add _ _) ?_
  refine lv_aload_n hx hb d_X_positionAt_16 rfl (lv_at hl 0 rfl) ?_
  refine va_get hx hb hts (fun w h => hT w (uX_in w h)) hown hK hX.1 0 rfl rfl 5 (by decide) (hts _ (hT _ k_X_27)) (fun _ h => h) rfl d_X_positionAt_17 ?_
  refine lv_iload_n hx hb d_X_positionAt_20 rfl (lv_at hl 1 rfl) ?_
  refine tq_aald hx hb hK hX.1 5 3 rfl rfl rfl hi (by decide) rfl d_X_positionAt_21 ?_
  refine lv_iload_n hx hb d_X_positionAt_22 rfl (lv_at hl 3 rfl) ?_
  refine tq_lald hx hb hK (hX.2.2 i hi) 0 1 rfl rfl hy (by decide) d_X_positionAt_23 ?_
  refine lv_ladd hx hb d_X_positionAt_24 ?_
  refine tq_tl (show _ = (lN (tt_pha g i + tt_spd g i * mm + tt_shf g i y)) from lN_add _ _) ?_
  refine lv_ldc2 hx hb (v := (lN 281474976710655)) hown (hts _ (hT _ k_X_173)) d_X_positionAt_25 ?_
  refine lv_land hx hb d_X_positionAt_28 ?_
  refine tq_tl (show _ = (lN (tt_pos g i mm y)) from lN_mask48 _) ?_
  exact W.lret hx hb hr (fun t ht hW => ⟨_, rfl, ⟨rfl, ht⟩⟩) (fun q hq => nomatch hq) d_X_positionAt_29
end
section
/-! the class's cosine and heights. Written by wip/whole/gen.py -/
section G14
variable {p : Program} {l : Launch} {e : Env} {R : Room} {s : State} {m : MethodId} {args : Array Value} {below : List Frame} {meth : Method} {c : Code} {H : Heap} {locs : List Loc} {cells slots : Nat} {Q : State → Prop} {Ts : List Cond}
variable {D : va_G} {ci : Nat → ClassId} {ad : Nat → Nat} {g : TS} {tc td : Int32} {tn : Nat → Int32}
set_option maxHeartbeats 4000000 in
set_option maxRecDepth 100000 in
theorem l_X_cos (hx : p.tables.exec = Jvm.exec) (hb : c.code = b_X_cosineOf) (hts : ∀ w ∈ Ts, w.before args s = true) (hT : ∀ w ∈ TT, w ∈ Ts) (hown : s.vm.findClass RX = some m.cls) {n : Nat} (hn : n < 281474976710656) (kk : ∀ ls : Array Slot, W p l e R s m args below meth c H locs cells slots Q (F0 m 115 ls [.int (iZ (tt_cos n))])) {ls : Array Slot} (hl : lv_has ls 15 [(3, .long (lN (tt_cr n))), (2, .int (nI (n / 70368744177664))), (0, .long (lN n))]) : W p l e R s m args below meth c H locs cells slots Q (F0 m 31 ls []) := by
  have hq : n / 70368744177664 < 4 := by omega
  have hr := tt_cr_le n
  have hs := tt_cs_le n
  have hrr : tt_cr n * tt_cr n ≤ 1073741824 * 1073741824 := Nat.mul_le_mul hr hr
  refine lv_lload_n hx hb d_X_cosineOf_31 rfl (lv_at hl 0 rfl) ?_
  refine lv_lload_n hx hb d_X_cosineOf_32 rfl (lv_at hl 0 rfl) ?_
  refine lv_lmul hx hb d_X_cosineOf_33 ?_
  refine tq_tl (show _ = (lN (tt_cr n * tt_cr n)) from lN_mul _ _) ?_
  refine lv_bipush hx hb d_X_cosineOf_34 (v := (nI 30)) rfl ?_
  refine lv_lshr hx hb d_X_cosineOf_36 (v := ((lN (tt_cr n * tt_cr n)) >>> ((nI 30).toInt64 &&& 63))) rfl ?_
  refine tq_tl (show _ = (lN (tt_cs n)) from lN_shr30 (by omega)) ?_
  refine lv_lstore hx hb d_X_cosineOf_37 hl (by decide) (lv' := [(5, .long (lN (tt_cs n))), (3, .long (lN (tt_cr n))), (2, .int (nI (n / 70368744177664))), (0, .long (lN n))]) rfl (fun ls hl => ?_)
  refine lv_ldc2 hx hb (v := (lN 22401992)) hown (hts _ (hT _ k_X_179)) d_X_cosineOf_39 ?_
  refine lv_ldc2 hx hb (v := (lN 960477)) hown (hts _ (hT _ k_X_181)) d_X_cosineOf_42 ?_
  refine lv_lload hx hb d_X_cosineOf_45 (lv_at hl 0 rfl) ?_
  refine lv_lmul hx hb d_X_cosineOf_47 ?_
  refine tq_tl (show _ = (lN (960477 * tt_cs n)) from lN_mul _ _) ?_
  refine lv_bipush hx hb d_X_cosineOf_48 (v := (nI 30)) rfl ?_
  refine lv_lshr hx hb d_X_cosineOf_50 (v := ((lN (960477 * tt_cs n)) >>> ((nI 30).toInt64 &&& 63))) rfl ?_
  refine tq_tl (show _ = (lN (960477 * tt_cs n / 1073741824)) from lN_shr30 (by omega)) ?_
  have h1 := (tt_ce_in hs).2
  refine lv_lsub hx hb d_X_cosineOf_51 ?_
  refine tq_tl (show _ = (lN (tt_ce (tt_cs n))) from lN_sub (by omega)) ?_
  have h2 : tt_ce (tt_cs n) * tt_cs n ≤ 22401992 * 1073741824 := Nat.mul_le_mul (tt_ce_in hs).1 hs
  refine lv_lstore hx hb d_X_cosineOf_52 hl (by decide) (lv' := [(7, .long (lN (tt_ce (tt_cs n)))), (5, .long (lN (tt_cs n))), (3, .long (lN (tt_cr n))), (2, .int (nI (n / 70368744177664))), (0, .long (lN n))]) rfl (fun ls hl => ?_)
  refine lv_ldc2 hx hb (v := (lN 272375561)) hown (hts _ (hT _ k_X_183)) d_X_cosineOf_54 ?_
  refine lv_lload hx hb d_X_cosineOf_57 (lv_at hl 0 rfl) ?_
  refine lv_lload hx hb d_X_cosineOf_59 (lv_at hl 1 rfl) ?_
  refine lv_lmul hx hb d_X_cosineOf_61 ?_
  refine tq_tl (show _ = (lN (tt_ce (tt_cs n) * tt_cs n)) from lN_mul _ _) ?_
  refine lv_bipush hx hb d_X_cosineOf_62 (v := (nI 30)) rfl ?_
  refine lv_lshr hx hb d_X_cosineOf_64 (v := ((lN (tt_ce (tt_cs n) * tt_cs n)) >>> ((nI 30).toInt64 &&& 63))) rfl ?_
  refine tq_tl (show _ = (lN (tt_ce (tt_cs n) * tt_cs n / 1073741824)) from lN_shr30 (by omega)) ?_
  have h3 := (tt_cf_in hs).2
  refine lv_lsub hx hb d_X_cosineOf_65 ?_
  refine tq_tl (show _ = (lN (tt_cf (tt_cs n))) from lN_sub (by omega)) ?_
  have h4 : tt_cf (tt_cs n) * tt_cs n ≤ 272375561 * 1073741824 := Nat.mul_le_mul (tt_cf_in hs).1 hs
  refine lv_lstore hx hb d_X_cosineOf_66 hl (by decide) (lv' := [(9, .long (lN (tt_cf (tt_cs n)))), (7, .long (lN (tt_ce (tt_cs n)))), (5, .long (lN (tt_cs n))), (3, .long (lN (tt_cr n))), (2, .int (nI (n / 70368744177664))), (0, .long (lN n))]) rfl (fun ls hl => ?_)
  refine lv_ldc2 hx hb (v := (lN 1324675870)) hown (hts _ (hT _ k_X_185)) d_X_cosineOf_68 ?_
  refine lv_lload hx hb d_X_cosineOf_71 (lv_at hl 0 rfl) ?_
  refine lv_lload hx hb d_X_cosineOf_73 (lv_at hl 2 rfl) ?_
  refine lv_lmul hx hb d_X_cosineOf_75 ?_
  refine tq_tl (show _ = (lN (tt_cf (tt_cs n) * tt_cs n)) from lN_mul _ _) ?_
  refine lv_bipush hx hb d_X_cosineOf_76 (v := (nI 30)) rfl ?_
  refine lv_lshr hx hb d_X_cosineOf_78 (v := ((lN (tt_cf (tt_cs n) * tt_cs n)) >>> ((nI 30).toInt64 &&& 63))) rfl ?_
  refine tq_tl (show _ = (lN (tt_cf (tt_cs n) * tt_cs n / 1073741824)) from lN_shr30 (by omega)) ?_
  have h5 := (tt_cg_in hs).2
  refine lv_lsub hx hb d_X_cosineOf_79 ?_
  refine tq_tl (show _ = (lN (tt_cg (tt_cs n))) from lN_sub (by omega)) ?_
  have h6 : tt_cg (tt_cs n) * tt_cs n ≤ 1324675870 * 1073741824 := Nat.mul_le_mul (tt_cg_in hs).1 hs
  refine lv_lstore hx hb d_X_cosineOf_80 hl (by decide) (lv' := [(11, .long (lN (tt_cg (tt_cs n)))), (9, .long (lN (tt_cf (tt_cs n)))), (7, .long (lN (tt_ce (tt_cs n)))), (5, .long (lN (tt_cs n))), (3, .long (lN (tt_cr n))), (2, .int (nI (n / 70368744177664))), (0, .long (lN n))]) rfl (fun ls hl => ?_)
  refine lv_ldc2 hx hb (v := (lN 1073741824)) hown (hts _ (hT _ k_X_177)) d_X_cosineOf_82 ?_
  refine lv_lload hx hb d_X_cosineOf_85 (lv_at hl 0 rfl) ?_
  refine lv_lload hx hb d_X_cosineOf_87 (lv_at hl 3 rfl) ?_
  refine lv_lmul hx hb d_X_cosineOf_89 ?_
  refine tq_tl (show _ = (lN (tt_cg (tt_cs n) * tt_cs n)) from lN_mul _ _) ?_
  refine lv_bipush hx hb d_X_cosineOf_90 (v := (nI 30)) rfl ?_
  refine lv_lshr hx hb d_X_cosineOf_92 (v := ((lN (tt_cg (tt_cs n) * tt_cs n)) >>> ((nI 30).toInt64 &&& 63))) rfl ?_
  refine tq_tl (show _ = (lN (tt_cg (tt_cs n) * tt_cs n / 1073741824)) from lN_shr30 (by omega)) ?_
  refine lv_lsub hx hb d_X_cosineOf_93 ?_
  refine tq_tl (show _ = (lZ (tt_cc (tt_cs n))) from (by rw [lN_lZ, lN_lZ, lZ_sub]; rfl)) ?_
  refine lv_lstore hx hb d_X_cosineOf_94 hl (by decide) (lv' := [(13, .long (lZ (tt_cc (tt_cs n)))), (11, .long (lN (tt_cg (tt_cs n)))), (9, .long (lN (tt_cf (tt_cs n)))), (7, .long (lN (tt_ce (tt_cs n)))), (5, .long (lN (tt_cs n))), (3, .long (lN (tt_cr n))), (2, .int (nI (n / 70368744177664))), (0, .long (lN n))]) rfl (fun ls hl => ?_)
  refine lv_iload_n hx hb d_X_cosineOf_96 rfl (lv_at hl 6 rfl) ?_
  refine lv_iconst hx hb d_X_cosineOf_97 (v := (nI 1)) rfl ?_
  refine lv_icmp_eq hx hb d_X_cosineOf_98 (tgt := 106) (by decide) (fun h7 => ?_) (fun h7 => ?_)
  · have h7 := (nI_eq (by omega) (by decide)).mp h7
    refine lv_lload hx hb d_X_cosineOf_106 (lv_at hl 0 rfl) ?_
    refine lv_lneg hx hb d_X_cosineOf_108 ?_
    refine tq_tl (show _ = (lZ (- tt_cc (tt_cs n))) from lZ_neg _) ?_
    refine lv_goto hx hb d_X_cosineOf_109 (tgt := 114) (by decide) ?_
    refine lv_l2i hx hb d_X_cosineOf_114 (v := (lZ (- tt_cc (tt_cs n))).toInt32) rfl ?_
    refine tq_ti (show _ = (iZ (tt_cos n)) from ((lZ_i _).trans (by unfold tt_cos; rw [if_pos (Or.inl h7)]))) ?_
    exact kk _
  · have h7 := mt (nI_eq (by omega) (by decide)).mpr h7
    refine lv_iload_n hx hb d_X_cosineOf_101 rfl (lv_at hl 6 rfl) ?_
    refine lv_iconst hx hb d_X_cosineOf_102 (v := (nI 2)) rfl ?_
    refine lv_icmp_ne hx hb d_X_cosineOf_103 (tgt := 112) (by decide) (fun h8 => ?_) (fun h8 => ?_)
    · have h8 := mt (nI_eq (by omega) (by decide)).mpr h8
      refine lv_lload hx hb d_X_cosineOf_112 (lv_at hl 0 rfl) ?_
      refine lv_l2i hx hb d_X_cosineOf_114 (v := (lZ (tt_cc (tt_cs n))).toInt32) rfl ?_
      refine tq_ti (show _ = (iZ (tt_cos n)) from ((lZ_i _).trans (by unfold tt_cos; rw [if_neg (fun h => h.elim h7 h8)]))) ?_
      exact kk _
    · have h8 := (nI_eq (by omega) (by decide)).mp h8
      refine lv_lload hx hb d_X_cosineOf_106 (lv_at hl 0 rfl) ?_
      refine lv_lneg hx hb d_X_cosineOf_108 ?_
      refine tq_tl (show _ = (lZ (- tt_cc (tt_cs n))) from lZ_neg _) ?_
      refine lv_goto hx hb d_X_cosineOf_109 (tgt := 114) (by decide) ?_
      refine lv_l2i hx hb d_X_cosineOf_114 (v := (lZ (- tt_cc (tt_cs n))).toInt32) rfl ?_
      refine tq_ti (show _ = (iZ (tt_cos n)) from ((lZ_i _).trans (by unfold tt_cos; rw [if_pos (Or.inr h8)]))) ?_
      exact kk _
end G14
set_option maxHeartbeats 4000000 in
set_option maxRecDepth 100000 in
theorem c_X_cosineOf (l : Launch) {n : Nat} (hn : n < 281474976710656) : Met l y_X_cosineOf (wT y_X_cosineOf b_X_cosineOf 15 (some .int)) (rP 0 0) (tb (wN) [.long (lN n)]) (tq_P (some (.int (iZ (tt_cos n))))) 0 0 tq_n := by
  refine Met.ofW (cc := b_X_cosineOf) (maxL := 15) (ret := (some .int)) (by decide) rfl ?_
  intro p e s m args below meth c s₁ B hml hv
  obtain ⟨rfl, hv⟩ := hv
  have hx := B.exec
  have hb := B.bytes
  have hr := B.returns
  have hts := atoms_spec (ws := wT y_X_cosineOf b_X_cosineOf 15 (some .int)) B.pre
  have hT : ∀ w ∈ TT, w ∈ wT y_X_cosineOf b_X_cosineOf 15 (some .int) := wT_T
  have hown : s.vm.findClass RX = some m.cls := findClass_of_methodNamed B.named
  have hlocks := B.notSynchronized
  have hl := lv_entry ([.long (lN n)]) (n := 15) (Nat.le_of_ble_eq_true rfl)
  rw [lg_entry_eq]
  generalize (lg_sl ([.long (lN n)]) ++ List.replicate (15 - (lg_sl ([.long (lN n)])).length) Slot.unset).toArray = ls at hl ⊢
  have hl : lv_has ls 15 [(0, .long (lN n))] := hl
  refine lv_lload_n hx hb d_X_cosineOf_0 rfl (lv_at hl 0 rfl) ?_
  refine lv_bipush hx hb d_X_cosineOf_1 (v := (nI 46)) rfl ?_
  refine lv_lshr hx hb d_X_cosineOf_3 (v := ((lN n) >>> ((nI 46).toInt64 &&& 63))) rfl ?_
  refine tq_tl (show _ = (lN (n / 70368744177664)) from lN_shr46 (by omega)) ?_
  refine lv_l2i hx hb d_X_cosineOf_4 (v := (lN (n / 70368744177664)).toInt32) rfl ?_
  refine tq_ti (show _ = (nI (n / 70368744177664)) from lN_i _) ?_
  refine lv_istore_n hx hb d_X_cosineOf_5 rfl hl (by decide) (lv' := [(2, .int (nI (n / 70368744177664))), (0, .long (lN n))]) rfl (fun ls hl => ?_)
  refine lv_lload_n hx hb d_X_cosineOf_6 rfl (lv_at hl 1 rfl) ?_
  refine lv_bipush hx hb d_X_cosineOf_7 (v := (nI 16)) rfl ?_
  refine lv_lshr hx hb d_X_cosineOf_9 (v := ((lN n) >>> ((nI 16).toInt64 &&& 63))) rfl ?_
  refine tq_tl (show _ = (lN (n / 65536)) from lN_shr16 (by omega)) ?_
  refine lv_ldc2 hx hb (v := (lN 1073741823)) hown (hts _ (hT _ k_X_175)) d_X_cosineOf_10 ?_
  refine lv_land hx hb d_X_cosineOf_13 ?_
  refine tq_tl (show _ = (lN (n / 65536 % 1073741824)) from lN_mask30 (by omega)) ?_
  refine lv_lstore_n hx hb d_X_cosineOf_14 rfl hl (by decide) (lv' := [(3, .long (lN (n / 65536 % 1073741824))), (2, .int (nI (n / 70368744177664))), (0, .long (lN n))]) rfl (fun ls hl => ?_)
  refine lv_iload_n hx hb d_X_cosineOf_15 rfl (lv_at hl 1 rfl) ?_
  refine lv_iconst hx hb d_X_cosineOf_16 (v := (nI 1)) rfl ?_
  refine lv_icmp_eq hx hb d_X_cosineOf_17 (tgt := 25) (by decide) (fun h1 => ?_) (fun h1 => ?_)
  · have h1 := (nI_eq (by omega) (by decide)).mp h1
    have e9 : tt_cr n = 1073741824 - n / 65536 % 1073741824 := by unfold tt_cr; rw [if_pos (by omega)]
    refine lv_ldc2 hx hb (v := (lN 1073741824)) hown (hts _ (hT _ k_X_177)) d_X_cosineOf_25 ?_
    refine lv_lload_n hx hb d_X_cosineOf_28 rfl (lv_at hl 0 rfl) ?_
    refine lv_lsub hx hb d_X_cosineOf_29 ?_
    refine tq_tl (show _ = (lN (tt_cr n)) from (e9 ▸ lN_sub (by omega))) ?_
    refine lv_lstore_n hx hb d_X_cosineOf_30 rfl hl (by decide) (lv' := [(3, .long (lN (tt_cr n))), (2, .int (nI (n / 70368744177664))), (0, .long (lN n))]) rfl (fun ls hl => ?_)
    exact l_X_cos hx hb hts hT hown hn (fun ls => W.iret hx hb hr (fun t ht hW => ⟨_, rfl, ⟨rfl, ht⟩⟩) (fun q hq => nomatch hq) d_X_cosineOf_115) hl
  · have h1 := mt (nI_eq (by omega) (by decide)).mpr h1
    refine lv_iload_n hx hb d_X_cosineOf_20 rfl (lv_at hl 1 rfl) ?_
    refine lv_iconst hx hb d_X_cosineOf_21 (v := (nI 3)) rfl ?_
    refine lv_icmp_ne hx hb d_X_cosineOf_22 (tgt := 31) (by decide) (fun h2 => ?_) (fun h2 => ?_)
    · have h2 := mt (nI_eq (by omega) (by decide)).mpr h2
      have e9 : tt_cr n = n / 65536 % 1073741824 := by unfold tt_cr; rw [if_neg (by omega)]
      rw [← e9] at hl
      exact l_X_cos hx hb hts hT hown hn (fun ls => W.iret hx hb hr (fun t ht hW => ⟨_, rfl, ⟨rfl, ht⟩⟩) (fun q hq => nomatch hq) d_X_cosineOf_115) hl
    · have h2 := (nI_eq (by omega) (by decide)).mp h2
      have e9 : tt_cr n = 1073741824 - n / 65536 % 1073741824 := by unfold tt_cr; rw [if_pos (by omega)]
      refine lv_ldc2 hx hb (v := (lN 1073741824)) hown (hts _ (hT _ k_X_177)) d_X_cosineOf_25 ?_
      refine lv_lload_n hx hb d_X_cosineOf_28 rfl (lv_at hl 0 rfl) ?_
      refine lv_lsub hx hb d_X_cosineOf_29 ?_
      refine tq_tl (show _ = (lN (tt_cr n)) from (e9 ▸ lN_sub (by omega))) ?_
      refine lv_lstore_n hx hb d_X_cosineOf_30 rfl hl (by decide) (lv' := [(3, .long (lN (tt_cr n))), (2, .int (nI (n / 70368744177664))), (0, .long (lN n))]) rfl (fun ls hl => ?_)
      exact l_X_cos hx hb hts hT hown hn (fun ls => W.iret hx hb hr (fun t ht hW => ⟨_, rfl, ⟨rfl, ht⟩⟩) (fun q hq => nomatch hq) d_X_cosineOf_115) hl
set_option maxHeartbeats 4000000 in
set_option maxRecDepth 100000 in
theorem c_X_partAt (l : Launch) (D : va_G) (ci : Nat → ClassId) (ad : Nat → Nat) (g : TS) (tc td : Int32) (tn : Nat → Int32) {i mm y : Nat} (hi : i < 8) (hmm : mm < 2147483648) (hy : y < 10) : Met l y_X_partAt (wT y_X_partAt b_X_partAt 6 (some .long)) (rP 1 34) (tb (wX D ci ad g tc td tn) [.ref (ad 0), .int (nI i), .int (nI mm), .int (nI y)]) (tq_P (some (.long (lZ (tt_prt g mm y i))))) 0 0 tq_n := by
  refine Met.ofW (cc := b_X_partAt) (maxL := 6) (ret := (some .long)) (by decide) rfl ?_
  intro p e s m args below meth c s₁ B hml hv
  obtain ⟨rfl, hK, hg, hX⟩ := hv
  have hx := B.exec
  have hb := B.bytes
  have hr := B.returns
  have hts := atoms_spec (ws := wT y_X_partAt b_X_partAt 6 (some .long)) B.pre
  have hT : ∀ w ∈ TT, w ∈ wT y_X_partAt b_X_partAt 6 (some .long) := wT_T
  have hown : s.vm.findClass RX = some m.cls := findClass_of_methodNamed B.named
  have hlocks := B.notSynchronized
  have hl := lv_entry ([.ref (ad 0), .int (nI i), .int (nI mm), .int (nI y)]) (n := 6) (Nat.le_of_ble_eq_true rfl)
  rw [lg_entry_eq]
  generalize (lg_sl ([.ref (ad 0), .int (nI i), .int (nI mm), .int (nI y)]) ++ List.replicate (6 - (lg_sl ([.ref (ad 0), .int (nI i), .int (nI mm), .int (nI y)])).length) Slot.unset).toArray = ls at hl ⊢
  have hl : lv_has ls 6 [(0, .ref (ad 0)), (1, .int (nI i)), (2, .int (nI mm)), (3, .int (nI y))] := hl
  have ha := (hg.2.1 i hi).1
  have hf := (hg.2.2.1 i hi y hy).1
  refine lv_aload_n hx hb d_X_partAt_0 rfl (lv_at hl 0 rfl) ?_
  refine va_get hx hb hts (fun w h => hT w (uX_in w h)) hown hK hX.1 0 rfl rfl 1 (by decide) (hts _ (hT _ k_X_9)) (fun _ h => h) rfl d_X_partAt_1 ?_
  refine lv_iload_n hx hb d_X_partAt_4 rfl (lv_at hl 1 rfl) ?_
  refine tq_iald hx hb hK hX.1 1 0 rfl rfl hi (by decide) d_X_partAt_5 ?_
  refine lv_i2l hx hb d_X_partAt_6 (v := (nI (tt_amp g i)).toInt64) rfl ?_
  refine tq_tl (show _ = (lN (tt_amp g i)) from nI_l (by omega)) ?_
  refine lv_aload_n hx hb d_X_partAt_7 rfl (lv_at hl 0 rfl) ?_
  refine va_get hx hb hts (fun w h => hT w (uX_in w h)) hown hK hX.1 0 rfl rfl 4 (by decide) (hts _ (hT _ k_X_22)) (fun _ h => h) rfl d_X_partAt_8 ?_
  refine lv_iload_n hx hb d_X_partAt_11 rfl (lv_at hl 1 rfl) ?_
  refine tq_aald hx hb hK hX.1 4 2 rfl rfl rfl hi (by decide) rfl d_X_partAt_12 ?_
  refine lv_iload_n hx hb d_X_partAt_13 rfl (lv_at hl 3 rfl) ?_
  refine tq_iald hx hb hK (hX.2.1 i hi) 0 0 rfl rfl hy (by decide) d_X_partAt_14 ?_
  refine lv_i2l hx hb d_X_partAt_15 (v := (nI (tt_fac g i y)).toInt64) rfl ?_
  refine tq_tl (show _ = (lN (tt_fac g i y)) from nI_l (by omega)) ?_
  refine lv_lmul hx hb d_X_partAt_16 ?_
  refine tq_tl (show _ = (lN (tt_amp g i * tt_fac g i y)) from lN_mul _ _) ?_
  refine lv_lstore hx hb d_X_partAt_17 hl (by decide) (lv' := [(4, .long (lN (tt_amp g i * tt_fac g i y))), (0, .ref (ad 0)), (1, .int (nI i)), (2, .int (nI mm)), (3, .int (nI y))]) rfl (fun ls hl => ?_)
  refine lv_lload hx hb d_X_partAt_19 (lv_at hl 0 rfl) ?_
  refine lv_aload_n hx hb d_X_partAt_21 rfl (lv_at hl 1 rfl) ?_
  refine lv_iload_n hx hb d_X_partAt_22 rfl (lv_at hl 2 rfl) ?_
  refine lv_iload_n hx hb d_X_partAt_23 rfl (lv_at hl 3 rfl) ?_
  refine lv_iload_n hx hb d_X_partAt_24 rfl (lv_at hl 4 rfl) ?_
  refine tq_V ⟨hx, hb, hml, hown, hts⟩ hT (c_X_positionAt l D ci ad g tc td tn hi hmm hy) lk_X_109 wX_mv ⟨hK, hg, hX⟩ (wX_rc ⟨hK, hg, hX⟩) rfl hl.1 rfl (Nat.le_of_ble_eq_true rfl) d_X_partAt_25 ⟨rfl, rfl, Nat.le_of_ble_eq_true rfl, Nat.le_of_ble_eq_true rfl⟩ ⟨Nat.zero_le _, Nat.zero_le _⟩ ?_
  refine tq_S ⟨hx, hb, hml, hown, hts⟩ hT (c_X_cosineOf l (tt_pos_lt g i mm y)) lk_X_115 wN_mv trivial rfl hl.1 rfl (Nat.le_of_ble_eq_true rfl) d_X_partAt_28 ⟨rfl, rfl, Nat.le_of_ble_eq_true rfl, Nat.le_of_ble_eq_true rfl⟩ ⟨Nat.zero_le _, Nat.zero_le _⟩ ?_
  have hc := tt_cos_in (tt_pos g i mm y)
  have hpr := tt_prd (tt_af_le hg hi hy) hc.1 hc.2
  refine lv_i2l hx hb d_X_partAt_31 (v := (iZ (tt_cos (tt_pos g i mm y))).toInt64) rfl ?_
  refine tq_tl (show _ = (lZ (tt_cos (tt_pos g i mm y))) from iZ_l (by omega) (by omega)) ?_
  refine lv_lmul hx hb d_X_partAt_32 ?_
  refine tq_tl (show _ = (lZ (((tt_amp g i * tt_fac g i y : Nat) : Int) * tt_cos (tt_pos g i mm y))) from (by rw [lN_lZ, lZ_mul])) ?_
  refine lv_bipush hx hb d_X_partAt_33 (v := (nI 16)) rfl ?_
  refine lv_lshr hx hb d_X_partAt_35 (v := ((lZ (((tt_amp g i * tt_fac g i y : Nat) : Int) * tt_cos (tt_pos g i mm y))) >>> ((nI 16).toInt64 &&& 63))) rfl ?_
  refine tq_tl (show _ = (lZ (tt_prt g mm y i)) from lZ_shr16 (by omega) (by omega)) ?_
  exact W.lret hx hb hr (fun t ht hW => ⟨_, rfl, ⟨rfl, ht⟩⟩) (fun q hq => nomatch hq) d_X_partAt_36
section G14b
variable {p : Program} {l : Launch} {e : Env} {R : Room} {s : State} {m : MethodId} {args : Array Value} {below : List Frame} {meth : Method} {c : Code} {H : Heap} {locs : List Loc} {cells slots : Nat} {Q : State → Prop} {Ts : List Cond}
variable {D : va_G} {ci : Nat → ClassId} {ad : Nat → Nat} {g : TS} {tc td : Int32} {tn : Nat → Int32}
set_option maxHeartbeats 4000000 in
set_option maxRecDepth 100000 in
theorem l_X_heightAt (hx : p.tables.exec = Jvm.exec) (hb : c.code = b_X_heightAt) (hts : ∀ w ∈ Ts, w.before args s = true) (hT : ∀ w ∈ TT, w ∈ Ts) (hown : s.vm.findClass RX = some m.cls) (hml : c.maxLocals = 6) (hK : tk D ci s) (hg : tt_ok g) (hX : tx D ci ad g tc td tn H) (hR : 1 + 1 ≤ R.frames ∧ 8 + (6 + 11) + 34 ≤ R.locals) (hf : cells ≤ R.cells ∧ slots ≤ R.slots) {mm y : Nat} (hmm : mm < 2147483648) (hy : y < 10)
    (kk : ∀ (ls : Array Slot), lv_has ls 6 [(5, .int (nI 8)), (3, .long (lZ (tt_sum g mm y 8))), (2, .int (nI y)), (0, .ref (ad 0)), (1, .int (nI mm))] → W p l e R s m args below meth c H locs cells slots Q (F0 m 47 ls [])) :
    ∀ (n k : Nat) (ls : Array Slot), k + n = 8 → lv_has ls 6 [(5, .int (nI k)), (3, .long (lZ (tt_sum g mm y k))), (2, .int (nI y)), (0, .ref (ad 0)), (1, .int (nI mm))] → W p l e R s m args below meth c H locs cells slots Q (F0 m 13 ls []) := by
  intro n
  induction n with
  | zero =>
    intro k ls hk hl
    obtain rfl : k = 8 := by omega
    refine lv_iload hx hb d_X_heightAt_13 (lv_at hl 0 rfl) ?_
    refine lv_bipush hx hb d_X_heightAt_15 (v := (nI 8)) rfl ?_
    refine lv_icmp_ge hx hb d_X_heightAt_17 (tgt := 47) (by decide) (fun _ => ?_) (fun hno => absurd (nI_le (Nat.le_refl 8) (by decide)) hno)
    exact kk ls hl
  | succ n ih =>
    intro k ls hk hl
    have hk8 : k < 8 := by omega
    have ha := (hg.2.1 k hk8).1
    refine lv_iload hx hb d_X_heightAt_13 (lv_at hl 0 rfl) ?_
    refine lv_bipush hx hb d_X_heightAt_15 (v := (nI 8)) rfl ?_
    refine lv_icmp_ge hx hb d_X_heightAt_17 (tgt := 47) (by decide) (fun hyes => absurd hyes (nI_ge hk8 (by decide))) (fun _ => ?_)
    refine lv_aload_n hx hb d_X_heightAt_20 rfl (lv_at hl 3 rfl) ?_
    refine va_get hx hb hts (fun w h => hT w (uX_in w h)) hown hK hX.1 0 rfl rfl 1 (by decide) (hts _ (hT _ k_X_9)) (fun _ h => h) rfl d_X_heightAt_21 ?_
    refine lv_iload hx hb d_X_heightAt_24 (lv_at hl 0 rfl) ?_
    refine tq_iald hx hb hK hX.1 1 0 rfl rfl hk8 (by decide) d_X_heightAt_26 ?_
    refine lv_if_eq hx hb d_X_heightAt_27 (tgt := 41) (by decide) (fun h1 => ?_) (fun h1 => ?_)
    · have h1 : tt_amp g k = 0 := (nI_eq (by omega) (by decide)).mp h1
      have e1 : tt_sum g mm y (k + 1) = tt_sum g mm y k := by show tt_sum g mm y k + tt_prt g mm y k = _; unfold tt_prt; rw [h1]; simp
      refine lv_iinc hx hb d_X_heightAt_41 hl (k := 0) rfl (v := (nI (k + 1))) (by rw [show Int32.ofInt 1 = 1 from rfl]; exact nI_1 k) (by decide) (lv' := [(5, .int (nI (k + 1))), (3, .long (lZ (tt_sum g mm y k))), (2, .int (nI y)), (0, .ref (ad 0)), (1, .int (nI mm))]) rfl (fun ls hl => ?_)
      refine lv_goto hx hb d_X_heightAt_44 (tgt := 13) (by decide) ?_
      rw [← e1] at hl
      exact ih (k + 1) ls (by omega) hl
    · refine lv_lload_n hx hb d_X_heightAt_30 rfl (lv_at hl 1 rfl) ?_
      refine lv_aload_n hx hb d_X_heightAt_31 rfl (lv_at hl 3 rfl) ?_
      refine lv_iload hx hb d_X_heightAt_32 (lv_at hl 0 rfl) ?_
      refine lv_iload_n hx hb d_X_heightAt_34 rfl (lv_at hl 4 rfl) ?_
      refine lv_iload_n hx hb d_X_heightAt_35 rfl (lv_at hl 2 rfl) ?_
      refine tq_V ⟨hx, hb, hml, hown, hts⟩ hT (c_X_partAt l D ci ad g tc td tn hk8 hmm hy) lk_X_189 wX_mv ⟨hK, hg, hX⟩ (wX_rc ⟨hK, hg, hX⟩) rfl hl.1 rfl (Nat.le_of_ble_eq_true rfl) d_X_heightAt_36 ⟨rfl, rfl, hR⟩ hf ?_
      refine lv_ladd hx hb d_X_heightAt_39 ?_
      refine tq_tl (show _ = (lZ (tt_sum g mm y (k + 1))) from lZ_add _ _) ?_
      refine lv_lstore_n hx hb d_X_heightAt_40 rfl hl (by decide) (lv' := [(3, .long (lZ (tt_sum g mm y (k + 1)))), (5, .int (nI k)), (2, .int (nI y)), (0, .ref (ad 0)), (1, .int (nI mm))]) rfl (fun ls hl => ?_)
      refine lv_iinc hx hb d_X_heightAt_41 hl (k := 1) rfl (v := (nI (k + 1))) (by rw [show Int32.ofInt 1 = 1 from rfl]; exact nI_1 k) (by decide) (lv' := [(5, .int (nI (k + 1))), (3, .long (lZ (tt_sum g mm y (k + 1)))), (2, .int (nI y)), (0, .ref (ad 0)), (1, .int (nI mm))]) rfl (fun ls hl => ?_)
      refine lv_goto hx hb d_X_heightAt_44 (tgt := 13) (by decide) ?_
      exact ih (k + 1) ls (by omega) hl
end G14b
set_option maxHeartbeats 4000000 in
set_option maxRecDepth 100000 in
theorem c_X_heightAt (l : Launch) (D : va_G) (ci : Nat → ClassId) (ad : Nat → Nat) (g : TS) (tc td : Int32) (tn : Nat → Int32) {mm : Nat} (hmm : mm < 2147483648) : Met l y_X_heightAt (wT y_X_heightAt b_X_heightAt 6 (some .int)) (rP 2 59) (tb (wX D ci ad g tc td tn) [.ref (ad 0), .int (nI mm)]) (tq_P (some (.int (iZ (tt_hgt g mm))))) 0 0 tq_n := by
  refine Met.ofW (cc := b_X_heightAt) (maxL := 6) (ret := (some .int)) (by decide) rfl ?_
  intro p e s m args below meth c s₁ B hml hv
  obtain ⟨rfl, hK, hg, hX⟩ := hv
  have hx := B.exec
  have hb := B.bytes
  have hr := B.returns
  have hts := atoms_spec (ws := wT y_X_heightAt b_X_heightAt 6 (some .int)) B.pre
  have hT : ∀ w ∈ TT, w ∈ wT y_X_heightAt b_X_heightAt 6 (some .int) := wT_T
  have hown : s.vm.findClass RX = some m.cls := findClass_of_methodNamed B.named
  have hlocks := B.notSynchronized
  have hl := lv_entry ([.ref (ad 0), .int (nI mm)]) (n := 6) (Nat.le_of_ble_eq_true rfl)
  rw [lg_entry_eq]
  generalize (lg_sl ([.ref (ad 0), .int (nI mm)]) ++ List.replicate (6 - (lg_sl ([.ref (ad 0), .int (nI mm)])).length) Slot.unset).toArray = ls at hl ⊢
  have hl : lv_has ls 6 [(0, .ref (ad 0)), (1, .int (nI mm))] := hl
  refine lv_aload_n hx hb d_X_heightAt_0 rfl (lv_at hl 0 rfl) ?_
  refine lv_iload_n hx hb d_X_heightAt_1 rfl (lv_at hl 1 rfl) ?_
  refine tq_V ⟨hx, hb, hml, hown, hts⟩ hT (c_X_yearOf l D ci ad g tc td tn hmm) lk_X_103 wX_mv ⟨hK, hg, hX⟩ (wX_rc ⟨hK, hg, hX⟩) rfl hl.1 rfl (Nat.le_of_ble_eq_true rfl) d_X_heightAt_2 ⟨rfl, rfl, Nat.le_of_ble_eq_true rfl, Nat.le_of_ble_eq_true rfl⟩ ⟨Nat.zero_le _, Nat.zero_le _⟩ ?_
  have hy := tt_yr_lt g mm
  refine lv_istore_n hx hb d_X_heightAt_5 rfl hl (by decide) (lv' := [(2, .int (nI (tt_yr g mm))), (0, .ref (ad 0)), (1, .int (nI mm))]) rfl (fun ls hl => ?_)
  refine lv_ldc2 hx hb (v := (lN 536870912)) hown (hts _ (hT _ k_X_187)) d_X_heightAt_6 ?_
  refine tq_tl (show _ = (lZ (tt_sum g mm (tt_yr g mm) 0)) from rfl) ?_
  refine lv_lstore_n hx hb d_X_heightAt_9 rfl hl (by decide) (lv' := [(3, .long (lZ (tt_sum g mm (tt_yr g mm) 0))), (2, .int (nI (tt_yr g mm))), (0, .ref (ad 0)), (1, .int (nI mm))]) rfl (fun ls hl => ?_)
  refine lv_iconst hx hb d_X_heightAt_10 (v := (nI 0)) rfl ?_
  refine lv_istore hx hb d_X_heightAt_11 hl (by decide) (lv' := [(5, .int (nI 0)), (3, .long (lZ (tt_sum g mm (tt_yr g mm) 0))), (2, .int (nI (tt_yr g mm))), (0, .ref (ad 0)), (1, .int (nI mm))]) rfl (fun ls hl => ?_)
  refine l_X_heightAt hx hb hts hT hown hml hK hg hX ⟨Nat.le_of_ble_eq_true rfl, Nat.le_of_ble_eq_true rfl⟩ ⟨Nat.zero_le _, Nat.zero_le _⟩ hmm hy (fun ls hl => ?_) 8 0 ls rfl hl
  have hs := tt_sum_in hg (m := mm) hy 8 (Nat.le_refl _)
  refine lv_lload_n hx hb d_X_heightAt_47 rfl (lv_at hl 1 rfl) ?_
  refine lv_bipush hx hb d_X_heightAt_48 (v := (nI 30)) rfl ?_
  refine lv_lshr hx hb d_X_heightAt_50 (v := ((lZ (tt_sum g mm (tt_yr g mm) 8)) >>> ((nI 30).toInt64 &&& 63))) rfl ?_
  refine tq_tl (show _ = (lZ (tt_sum g mm (tt_yr g mm) 8 / 1073741824)) from lZ_shr30 (by omega) (by omega)) ?_
  refine lv_l2i hx hb d_X_heightAt_51 (v := (lZ (tt_sum g mm (tt_yr g mm) 8 / 1073741824)).toInt32) rfl ?_
  refine tq_ti (show _ = (iZ (tt_sum g mm (tt_yr g mm) 8 / 1073741824)) from lZ_i _) ?_
  refine lv_aload_n hx hb d_X_heightAt_52 rfl (lv_at hl 3 rfl) ?_
  refine va_get hx hb hts (fun w h => hT w (uX_in w h)) hown hK hX.1 0 rfl rfl 0 (by decide) (hts _ (hT _ k_X_56)) (fun _ h => h) rfl d_X_heightAt_53 ?_
  refine lv_iadd hx hb d_X_heightAt_56 ?_
  refine tq_ti (show _ = (iZ (tt_hgt g mm)) from iZ_add _ _) ?_
  exact W.iret hx hb hr (fun t ht hW => ⟨_, rfl, ⟨rfl, ht⟩⟩) (fun q hq => nomatch hq) d_X_heightAt_57
end
section
/-! exceptions: what their making needs; rows for 'throw new E("..")' in the class, and for a call that throws -/
abbrev eA : String := "java/lang/IllegalArgumentException"
abbrev eI : String := "java/lang/IndexOutOfBoundsException"
abbrev eN : List String := ["java/lang/RuntimeException", "java/lang/Exception"]
def eB : List Cond := [.declares (Bundle.initS "java/lang/RuntimeException"), .declares (Bundle.initS "java/lang/Exception"), .declares (Bundle.initS Bundle.tN), .castable eA eA, .castable eI eI]
def eS : List (Nat × String) := [(51, "no such level"), (65, "no such constituent"), (69, "no such amplitude"), (73, "no such speed"), (79, "no such phase"), (87, "no such constituent or year"), (90, "no such factor"), (92, "no such shift"), (94, "no such year"), (96, "a year has 365 or 366 days"), (101, "no such minute"), (107, "no such constituent or minute"), (113, "no such position"), (122, "no such number of minutes"), (133, "no such day"), (142, "no such day or extreme"), (147, "no such question"), (159, "no such character"), (165, "no such span")]
/-- the two statics of Throwable, and the words that are not carried by a method's own list -/
def wE (U : State) (H : Heap) : Prop := vx_Zq Bundle.tN "UNASSIGNED_STACK" Bundle.steD (fun _ => False) U H ∧ vx_Zq Bundle.tN "SUPPRESSED_SENTINEL" Bundle.listD (fun _ => False) U H ∧ (∀ w ∈ eB, va_Nw w U) ∧ (∀ q ∈ eS, ∃ sa, vk_R RX q.1 q.2 sa U) ∧ va_Nc eA eI U ∧ va_Nc eI eA U
theorem eB_warm {s U : State} (hW : s.WarmedH U.vm) (h : ∀ w ∈ eB, va_Nw w s) : ∀ w ∈ eB, va_Nw w U := by
  intro w hw
  have hz := h w hw
  simp only [eB, List.mem_cons, List.not_mem_nil, or_false] at hw
  rcases hw with rfl | rfl | rfl | rfl | rfl
  · exact va_Nw.warmD hW hz
  · exact va_Nw.warmD hW hz
  · exact va_Nw.warmD hW hz
  · exact va_Nw.warmC hW hz
  · exact va_Nw.warmC hW hz
theorem wE_mv : tmov wE := fun _ _ _ hW h => ⟨vx_Zq.moved hW.alike h.1, vx_Zq.moved hW.alike h.2.1, eB_warm hW h.2.2.1, fun q hq => by
  obtain ⟨sa, h9⟩ := h.2.2.2.1 q hq
  exact ⟨sa, vk_R.warm hW h9⟩, va_Nc.moved hW.alike h.2.2.2.2.1, va_Nc.moved hW.alike h.2.2.2.2.2⟩
theorem vz_mk {C n d : String} {A : Nat → Prop} {U : State} {H H1 : Heap} (hz : vx_Zq C n d (fun _ => False) U H) (hq : ∀ (a : Nat) (cell : Cell), H[a]? = some cell → cell.vm.isStatics = true → H1[a]? = some cell ∧ ¬ A a) : vx_Zq C n d A U H1 := by
  obtain ⟨h1, c, k, i, f, a, cell, q1, q2, q3, q4, q5, q6, q7, q8, q9, -⟩ := hz
  refine ⟨?_, c, k, i, f, a, cell, q1, q2, q3, q4, (hq a cell q5 q6).1, q6, q7, q8, q9, (hq a cell q5 q6).2⟩
  rcases h1 with ⟨cf, kf, fi, f, a, cell, w1, w2, w3, w4, w5, w6, w7, -⟩ | ⟨t, cf, kf, fi, f, a, cell, w1, w2, w3, w4, w5, w6, w7, -⟩
  · exact Or.inl ⟨cf, kf, fi, f, a, cell, w1, w2, w3, w4, (hq a cell w5 w6).1, w6, w7, (hq a cell w5 w6).2⟩
  · exact Or.inr ⟨t, cf, kf, fi, f, a, cell, w1, w2, w3, w4, (hq a cell w5 w6).1, w6, w7, (hq a cell w5 w6).2⟩
theorem wE_kept {U : State} {H H1 : Heap} (h : wE U H) (hq : ∀ (a : Nat) (cell : Cell), H[a]? = some cell → cell.vm.isStatics = true → H1[a]? = some cell) : wE U H1 := ⟨vz_mk h.1 (fun a cell h1 h2 => ⟨hq a cell h1 h2, fun z => z⟩), vz_mk h.2.1 (fun a cell h1 h2 => ⟨hq a cell h1 h2, fun z => z⟩), h.2.2⟩
theorem eA_in : ∀ w ∈ (vx_atS RX 53 eA eN).filter goodWord, w ∈ TT := fun w h => List.mem_filter.mpr ⟨by revert w h; decide +kernel, (List.mem_filter.mp h).2⟩
theorem eI_in : ∀ w ∈ (vx_atS RX 67 eI eN).filter goodWord, w ∈ TT := fun w h => List.mem_filter.mpr ⟨by revert w h; decide +kernel, (List.mem_filter.mp h).2⟩
theorem eA_B : ∀ w ∈ (vx_atS RX 53 eA eN).filter (fun w => !goodWord w), w ∈ eB := by decide +kernel
theorem eI_B : ∀ w ∈ (vx_atS RX 67 eI eN).filter (fun w => !goodWord w), w ∈ eB := by decide +kernel
theorem eB_use {args : Array Value} {s : State} (h : ∀ w ∈ eB, va_Nw w s) : ∀ w ∈ eB, w.before args s = true := by
  intro w hw
  have hz := h w hw
  simp only [eB, List.mem_cons, List.not_mem_nil, or_false] at hw
  rcases hw with rfl | rfl | rfl | rfl | rfl <;> exact va_Nw.use rfl hz
theorem eA_at {args : Array Value} {s : State} {H : Heap} (hts : ∀ w ∈ TT, w.before args s = true) (h : wE s H) : ∀ w ∈ vx_atS RX 53 eA eN, w.before args s = true := vx_hat (fun w hw => hts w (eA_in w hw)) eA_B (eB_use h.2.2.1)
theorem eI_at {args : Array Value} {s : State} {H : Heap} (hts : ∀ w ∈ TT, w.before args s = true) (h : wE s H) : ∀ w ∈ vx_atS RX 67 eI eN, w.before args s = true := vx_hat (fun w hw => hts w (eI_in w hw)) eI_B (eB_use h.2.2.1)
theorem eA_ot : ∀ w ∈ Cond.classLink RX 49 eA :: Cond.initialized eA :: vx_atS RX 53 eA eN, vx_ot w = true := by decide +kernel
theorem eI_ot : ∀ w ∈ Cond.classLink RX 63 eI :: Cond.initialized eI :: vx_atS RX 67 eI eN, vx_ot w = true := by decide +kernel
section TWX
variable {p : Program} {l : Launch} {e : Env} {R : Room} {s : State} {m : MethodId} {args : Array Value} {below : List Frame} {meth : Method} {c : Code} {H : Heap} {locs : List Loc} {cells slots : Nat} {Q : State → Prop}
variable {Qc : Array Value → State → Outcome → State → Prop} {XC : String → State → State → Prop} {mc ms pc is : Nat} {free : Addr → Prop} {A : Nat → Prop} {cc : ByteArray} {ls : Array Slot} {rest st0 : List Value} {text : String}
theorem tw_A (hx : p.tables.exec = Jvm.exec) (hb : c.code = cc) (hl : l.stackTraces = false) (hown : s.vm.findClass RX = some m.cls) (hts : ∀ w ∈ TT, w.before args s = true) (hE : wE s s.heap) (hU : ∀ C n d, vx_Zq C n d (fun _ => False) s s.heap → vx_Zq C n d A s s.heap) (hq : (is, text) ∈ eS) (hS : va_S A s.heap H locs) (hsize : ls.size = c.maxLocals)
    (d0 : decode cc pc = .ok (.new 49, 3)) (d3 : decode cc (pc + 3) = .ok (.dup, 1)) (d4 : decode cc (pc + 4) = .ok (.ldc is, 2)) (d6 : decode cc (pc + 6) = .ok (.invokespecial 53, 3)) (d9 : decode cc (pc + 9) = .ok (.athrow, 1)) (hno : ∀ x ∈ c.exceptionTable.toList, False)
    (hR : 5 < R.frames ∧ (rest.map fun v => v.category).sum + 82 ≤ R.locals ∧ cells + 1 ≤ R.cells ∧ slots + 6 ≤ R.slots) (hlocks : meth.locks = false) (hx9 : ∀ t : State, s.vm.Alike t.vm → H.size ≤ t.heap.size → (∀ q : Nat, q < H.size → t.heap[q]? = H[q]?) → XC eA s t) (hf : ∀ z ∈ locs, free z.base) (hc : cells + 1 ≤ mc) (hs : slots + 6 ≤ ms) :
    W p l e R s m args below meth c H locs cells slots (vx_MQ below Qc XC args s mc ms free) (F0 m pc ls rest) := by
  obtain ⟨sa, hstr⟩ := hE.2.2.2.1 _ hq
  exact vx_throwS hx hb hl hown (by decide +kernel) (by decide +kernel) (hts _ k_X_49) (hts _ k_ini_IllegalArgumentException) hstr (eA_at hts hE) eA_ot (hU _ _ _ hE.1) (hU _ _ _ hE.2.1) hS hsize d0 d3 d4 d6 d9 (fun x hx => (hno x hx).elim) hR.1 hR.2.1 hR.2.2.1 hR.2.2.2 hlocks hx9 hf hc hs
theorem tw_I (hx : p.tables.exec = Jvm.exec) (hb : c.code = cc) (hl : l.stackTraces = false) (hown : s.vm.findClass RX = some m.cls) (hts : ∀ w ∈ TT, w.before args s = true) (hE : wE s s.heap) (hU : ∀ C n d, vx_Zq C n d (fun _ => False) s s.heap → vx_Zq C n d A s s.heap) (hq : (is, text) ∈ eS) (hS : va_S A s.heap H locs) (hsize : ls.size = c.maxLocals)
    (d0 : decode cc pc = .ok (.new 63, 3)) (d3 : decode cc (pc + 3) = .ok (.dup, 1)) (d4 : decode cc (pc + 4) = .ok (.ldc is, 2)) (d6 : decode cc (pc + 6) = .ok (.invokespecial 67, 3)) (d9 : decode cc (pc + 9) = .ok (.athrow, 1)) (hno : ∀ x ∈ c.exceptionTable.toList, False)
    (hR : 5 < R.frames ∧ (rest.map fun v => v.category).sum + 82 ≤ R.locals ∧ cells + 1 ≤ R.cells ∧ slots + 6 ≤ R.slots) (hlocks : meth.locks = false) (hx9 : ∀ t : State, s.vm.Alike t.vm → H.size ≤ t.heap.size → (∀ q : Nat, q < H.size → t.heap[q]? = H[q]?) → XC eI s t) (hf : ∀ z ∈ locs, free z.base) (hc : cells + 1 ≤ mc) (hs : slots + 6 ≤ ms) :
    W p l e R s m args below meth c H locs cells slots (vx_MQ below Qc XC args s mc ms free) (F0 m pc ls rest) := by
  obtain ⟨sa, hstr⟩ := hE.2.2.2.1 _ hq
  exact vx_throwS hx hb hl hown (by decide +kernel) (by decide +kernel) (hts _ k_X_63) (hts _ k_ini_IndexOutOfBoundsException) hstr (eI_at hts hE) eI_ot (hU _ _ _ hE.1) (hU _ _ _ hE.2.1) hS hsize d0 d3 d4 d6 d9 (fun x hx => (hno x hx).elim) hR.1 hR.2.1 hR.2.2.1 hR.2.2.2 hlocks hx9 hf hc hs
/-- a method that throws, whatever it does: a contract's end -/
def tw_N : Array Value → State → Outcome → State → Prop := fun _ _ _ _ => False
/-- a call that throws -/
theorem tw_call {a : Array Value} (hr : vx_Run p l e R s m args below meth c H locs cells slots mc ms (F0 m pc ls st0) rest (tw_N a) XC free)
    (kx : ∀ (E : String) (ce : Cell) (q9 : Addr) (st t : State) (L : List Loc), st.heap = H → XC E st t → (∀ z ∈ L, free z.base) → t.heap[q9]? = some ce → ce.vm = .none → s.vm.findClass E = some ce.cls → vx_W p l e R s m args below meth c t.heap (locs ++ L) (cells + mc) (slots + ms) Q (F0 m pc ls rest) q9) : W p l e R s m args below meth c H locs cells slots Q (F0 m pc ls st0) := by
  intro T hT X
  rcases hr T hT X with ⟨v, st₀, t, T', L, h0, X', hL, e1, e2, hF, st⟩ | ⟨q, st₀, t, T', L, E, ce, h0, X', hL, e1, e2, hXC, hce, hcv, hcl, st⟩
  · exact absurd hF (fun z => z)
  · obtain ⟨t2, a1, b1⟩ := kx E ce q st₀ t L h0 hXC hL hce hcv hcl T' e1 X'
    exact ⟨t2, st.trans a1, b1⟩
end TWX
end
section
/-! the class's questions: what they answer, when they throw. Written by wip/whole/gen.py -/
theorem zb_t {c : Prop} [Decidable c] (h : ¬ zb c = 0) : c := by
  by_cases q : c
  · exact q
  · exact absurd (by rw [zb, if_neg q]) h
theorem zb_f {c : Prop} [Decidable c] (h : zb c = 0) : ¬ c := by
  intro q
  rw [zb, if_pos q] at h
  exact absurd h (by decide)
theorem iv_ge0 {v : Int32} : 0 ≤ v ↔ 0 ≤ v.toInt := by rw [Int32.le_iff_toInt_le, Int32.toInt_zero]
theorem iv_eq0 {v : Int32} : v = 0 ↔ v.toInt = 0 := by rw [← Int32.toInt_inj, Int32.toInt_zero]
def wXE (D : va_G) (ci : Nat → ClassId) (ad : Nat → Nat) (g : TS) (tc td : Int32) (tn : Nat → Int32) (U : State) (H : Heap) : Prop := wX D ci ad g tc td tn U H ∧ wE U H
theorem wXE_mv {D : va_G} {ci : Nat → ClassId} {ad : Nat → Nat} {g : TS} {tc td : Int32} {tn : Nat → Int32} : tmov (wXE D ci ad g tc td tn) := fun _ _ _ hW h => ⟨wX_mv _ _ _ hW h.1, wE_mv _ _ _ hW h.2⟩
set_option maxHeartbeats 4000000 in
set_option maxRecDepth 100000 in
theorem c_X_first (l : Launch) (D : va_G) (ci : Nat → ClassId) (ad : Nat → Nat) (g : TS) (tc td : Int32) (tn : Nat → Int32) {y : Nat} (hy : y ≤ 10) : Met l y_X_first (wT y_X_first b_X_first 2 (some .int)) (rP 1 20) (tb (wX D ci ad g tc td tn) [.ref (ad 0), .int (nI y)]) (tq_P (some (.int (nI (tt_fst g y))))) 0 0 tq_n := by
  refine Met.ofW (cc := b_X_first) (maxL := 2) (ret := (some .int)) (by decide) rfl ?_
  intro p e s m args below meth c s₁ B hml hv
  obtain ⟨rfl, hK, hg, hX⟩ := hv
  have hx := B.exec
  have hb := B.bytes
  have hr := B.returns
  have hts := atoms_spec (ws := wT y_X_first b_X_first 2 (some .int)) B.pre
  have hT : ∀ w ∈ TT, w ∈ wT y_X_first b_X_first 2 (some .int) := wT_T
  have hown : s.vm.findClass RX = some m.cls := findClass_of_methodNamed B.named
  have hlocks := B.notSynchronized
  have hl := lv_entry ([.ref (ad 0), .int (nI y)]) (n := 2) (Nat.le_of_ble_eq_true rfl)
  rw [lg_entry_eq]
  generalize (lg_sl ([.ref (ad 0), .int (nI y)]) ++ List.replicate (2 - (lg_sl ([.ref (ad 0), .int (nI y)])).length) Slot.unset).toArray = ls at hl ⊢
  have hl : lv_has ls 2 [(0, .ref (ad 0)), (1, .int (nI y))] := hl
  have ev : (nI y).toInt = y := nI_toInt (by omega)
  refine lv_iload_n hx hb d_X_first_0 rfl (lv_at hl 1 rfl) ?_
  refine tq_S ⟨hx, hb, hml, hown, hts⟩ hT (c_X_isYear l (nI y)) lk_X_84 wN_mv trivial rfl hl.1 rfl (Nat.le_of_ble_eq_true rfl) d_X_first_1 ⟨rfl, rfl, Nat.le_of_ble_eq_true rfl, Nat.le_of_ble_eq_true rfl⟩ ⟨Nat.zero_le _, Nat.zero_le _⟩ ?_
  refine lv_if_ne hx hb d_X_first_4 (tgt := 23) (by decide) (fun q1 => ?_) (fun q1 => ?_)
  · have q1 := zb_t q1
    refine lv_aload_n hx hb d_X_first_23 rfl (lv_at hl 0 rfl) ?_
    refine va_get hx hb hts (fun w h => hT w (uX_in w h)) hown hK hX.1 0 rfl rfl 6 (by decide) (hts _ (hT _ k_X_30)) (fun _ h => h) rfl d_X_first_24 ?_
    refine lv_iload_n hx hb d_X_first_27 rfl (lv_at hl 1 rfl) ?_
    refine tq_iald hx hb hK hX.1 6 0 rfl rfl (by omega) (by decide) d_X_first_28 ?_
    exact W.iret hx hb hr (fun t ht hW => ⟨_, rfl, ⟨rfl, ht⟩⟩) (fun q hq => nomatch hq) d_X_first_29
  · have q1 := zb_f q1
    refine lv_iload_n hx hb d_X_first_7 rfl (lv_at hl 1 rfl) ?_
    refine lv_bipush hx hb d_X_first_8 (v := (nI 10)) rfl ?_
    refine lv_icmp_eq hx hb d_X_first_10 (tgt := 23) (by decide) (fun q2 => ?_) (fun q2 => ?_)
    · have q2 := Int32.toInt_inj.symm.mp q2
      rw [nI_toInt (n := 10) (by decide)] at q2
      refine lv_aload_n hx hb d_X_first_23 rfl (lv_at hl 0 rfl) ?_
      refine va_get hx hb hts (fun w h => hT w (uX_in w h)) hown hK hX.1 0 rfl rfl 6 (by decide) (hts _ (hT _ k_X_30)) (fun _ h => h) rfl d_X_first_24 ?_
      refine lv_iload_n hx hb d_X_first_27 rfl (lv_at hl 1 rfl) ?_
      refine tq_iald hx hb hK hX.1 6 0 rfl rfl (by omega) (by decide) d_X_first_28 ?_
      exact W.iret hx hb hr (fun t ht hW => ⟨_, rfl, ⟨rfl, ht⟩⟩) (fun q hq => nomatch hq) d_X_first_29
    · have q2 := mt Int32.toInt_inj.symm.mpr q2
      rw [nI_toInt (n := 10) (by decide)] at q2
      exfalso
      omega
set_option maxHeartbeats 4000000 in
set_option maxRecDepth 100000 in
theorem x_X_first (l : Launch) (htr : l.stackTraces = false) (D : va_G) (ci : Nat → ClassId) (ad : Nat → Nat) (g : TS) (tc td : Int32) (tn : Nat → Int32) (v : Int32) (hv0 : ¬ (0 ≤ v.toInt ∧ v.toInt ≤ 10)) : vx_Met l y_X_first (wT y_X_first b_X_first 2 (some .int)) ({ frames := 6, cells := 1, slots := 6, locals := 82 }) (tb (wXE D ci ad g tc td tn) [.ref (ad 0), .int v]) tw_N (vx_X (fun _ : Unit => True) (fun E _ _ => E = eI) (fun _ => False)) 1 6 tq_n := by
  refine vx_ofW (cc := b_X_first) (maxL := 2) (ret := (some .int)) (by decide) rfl ?_
  intro p e s m args below meth c s₁ B hml hno hv
  obtain ⟨rfl, ⟨hK, hg, hX⟩, hE⟩ := hv
  have hx := B.exec
  have hb := B.bytes
  have hr := B.returns
  have hts := atoms_spec (ws := wT y_X_first b_X_first 2 (some .int)) B.pre
  have hT : ∀ w ∈ TT, w ∈ wT y_X_first b_X_first 2 (some .int) := wT_T
  have hown : s.vm.findClass RX = some m.cls := findClass_of_methodNamed B.named
  have hlocks := B.notSynchronized
  have hl := lv_entry ([.ref (ad 0), .int v]) (n := 2) (Nat.le_of_ble_eq_true rfl)
  rw [lg_entry_eq]
  generalize (lg_sl ([.ref (ad 0), .int v]) ++ List.replicate (2 - (lg_sl ([.ref (ad 0), .int v])).length) Slot.unset).toArray = ls at hl ⊢
  have hl : lv_has ls 2 [(0, .ref (ad 0)), (1, .int v)] := hl
  refine lv_iload_n hx hb d_X_first_0 rfl (lv_at hl 1 rfl) ?_
  refine tq_S ⟨hx, hb, hml, hown, hts⟩ hT (c_X_isYear l v) lk_X_84 wN_mv trivial rfl hl.1 rfl (Nat.le_of_ble_eq_true rfl) d_X_first_1 ⟨rfl, rfl, Nat.le_of_ble_eq_true rfl, Nat.le_of_ble_eq_true rfl⟩ ⟨Nat.zero_le _, Nat.zero_le _⟩ ?_
  refine lv_if_ne hx hb d_X_first_4 (tgt := 23) (by decide) (fun q1 => ?_) (fun q1 => ?_)
  · have q1 := zb_t q1
    exfalso
    omega
  · have q1 := zb_f q1
    refine lv_iload_n hx hb d_X_first_7 rfl (lv_at hl 1 rfl) ?_
    refine lv_bipush hx hb d_X_first_8 (v := (nI 10)) rfl ?_
    refine lv_icmp_eq hx hb d_X_first_10 (tgt := 23) (by decide) (fun q2 => ?_) (fun q2 => ?_)
    · have q2 := Int32.toInt_inj.symm.mp q2
      rw [nI_toInt (n := 10) (by decide)] at q2
      exfalso
      omega
    · have q2 := mt Int32.toInt_inj.symm.mpr q2
      rw [nI_toInt (n := 10) (by decide)] at q2
      exact tw_I hx hb htr hown (fun w h => hts w (hT w h)) hE (fun _ _ _ h => h) (is := 94) (text := "no such year") (by decide) va_S.rf (hl.1.trans hml.symm) d_X_first_13 d_X_first_16 d_X_first_17 d_X_first_19 d_X_first_22 hno ⟨by decide, by decide, by decide, by decide⟩ hlocks (fun t ha h1 h2 => ⟨(), trivial, rfl, h1, fun q hq _ => h2 q hq⟩) (fun z hz => nomatch hz) (Nat.le_refl _) (Nat.le_refl _)
set_option maxHeartbeats 4000000 in
set_option maxRecDepth 100000 in
theorem c_X_year (l : Launch) (D : va_G) (ci : Nat → ClassId) (ad : Nat → Nat) (g : TS) (tc td : Int32) (tn : Nat → Int32) {mm : Nat} (hm : mm < tt_fst g 10) : Met l y_X_year (wT y_X_year b_X_year 2 (some .int)) (rP 1 22) (tb (wX D ci ad g tc td tn) [.ref (ad 0), .int (nI mm)]) (tq_P (some (.int (nI (tt_yr g mm))))) 0 0 tq_n := by
  refine Met.ofW (cc := b_X_year) (maxL := 2) (ret := (some .int)) (by decide) rfl ?_
  intro p e s m args below meth c s₁ B hml hv
  obtain ⟨rfl, hK, hg, hX⟩ := hv
  have hx := B.exec
  have hb := B.bytes
  have hr := B.returns
  have hts := atoms_spec (ws := wT y_X_year b_X_year 2 (some .int)) B.pre
  have hT : ∀ w ∈ TT, w ∈ wT y_X_year b_X_year 2 (some .int) := wT_T
  have hown : s.vm.findClass RX = some m.cls := findClass_of_methodNamed B.named
  have hlocks := B.notSynchronized
  have hl := lv_entry ([.ref (ad 0), .int (nI mm)]) (n := 2) (Nat.le_of_ble_eq_true rfl)
  rw [lg_entry_eq]
  generalize (lg_sl ([.ref (ad 0), .int (nI mm)]) ++ List.replicate (2 - (lg_sl ([.ref (ad 0), .int (nI mm)])).length) Slot.unset).toArray = ls at hl ⊢
  have hl : lv_has ls 2 [(0, .ref (ad 0)), (1, .int (nI mm))] := hl
  have hdb := tt_db_in hg.2.2.2 10 (Nat.le_refl _)
  have hf10 : tt_fst g 10 = 1440 * tt_db (tt_day g) 10 := rfl
  have ev : (nI mm).toInt = mm := nI_toInt (by omega)
  refine lv_aload_n hx hb d_X_year_0 rfl (lv_at hl 0 rfl) ?_
  refine lv_iload_n hx hb d_X_year_1 rfl (lv_at hl 1 rfl) ?_
  refine tq_V ⟨hx, hb, hml, hown, hts⟩ hT (c_X_isMinute l D ci ad g tc td tn (nI mm)) lk_X_98 wX_mv ⟨hK, hg, hX⟩ (wX_rc ⟨hK, hg, hX⟩) rfl hl.1 rfl (Nat.le_of_ble_eq_true rfl) d_X_year_2 ⟨rfl, rfl, Nat.le_of_ble_eq_true rfl, Nat.le_of_ble_eq_true rfl⟩ ⟨Nat.zero_le _, Nat.zero_le _⟩ ?_
  refine lv_if_ne hx hb d_X_year_5 (tgt := 18) (by decide) (fun q1 => ?_) (fun q1 => ?_)
  · have q1 := zb_t q1
    refine lv_aload_n hx hb d_X_year_18 rfl (lv_at hl 0 rfl) ?_
    refine lv_iload_n hx hb d_X_year_19 rfl (lv_at hl 1 rfl) ?_
    refine tq_V ⟨hx, hb, hml, hown, hts⟩ hT (c_X_yearOf l D ci ad g tc td tn (mm := mm) (by omega)) lk_X_103 wX_mv ⟨hK, hg, hX⟩ (wX_rc ⟨hK, hg, hX⟩) rfl hl.1 rfl (Nat.le_of_ble_eq_true rfl) d_X_year_20 ⟨rfl, rfl, Nat.le_of_ble_eq_true rfl, Nat.le_of_ble_eq_true rfl⟩ ⟨Nat.zero_le _, Nat.zero_le _⟩ ?_
    exact W.iret hx hb hr (fun t ht hW => ⟨_, rfl, ⟨rfl, ht⟩⟩) (fun q hq => nomatch hq) d_X_year_23
  · have q1 := zb_f q1
    exfalso
    omega
set_option maxHeartbeats 4000000 in
set_option maxRecDepth 100000 in
theorem x_X_year (l : Launch) (htr : l.stackTraces = false) (D : va_G) (ci : Nat → ClassId) (ad : Nat → Nat) (g : TS) (tc td : Int32) (tn : Nat → Int32) (v : Int32) (hv0 : ¬ (0 ≤ v.toInt ∧ v.toInt < (tt_fst g 10 : Nat))) : vx_Met l y_X_year (wT y_X_year b_X_year 2 (some .int)) ({ frames := 6, cells := 1, slots := 6, locals := 82 }) (tb (wXE D ci ad g tc td tn) [.ref (ad 0), .int v]) tw_N (vx_X (fun _ : Unit => True) (fun E _ _ => E = eI) (fun _ => False)) 1 6 tq_n := by
  refine vx_ofW (cc := b_X_year) (maxL := 2) (ret := (some .int)) (by decide) rfl ?_
  intro p e s m args below meth c s₁ B hml hno hv
  obtain ⟨rfl, ⟨hK, hg, hX⟩, hE⟩ := hv
  have hx := B.exec
  have hb := B.bytes
  have hr := B.returns
  have hts := atoms_spec (ws := wT y_X_year b_X_year 2 (some .int)) B.pre
  have hT : ∀ w ∈ TT, w ∈ wT y_X_year b_X_year 2 (some .int) := wT_T
  have hown : s.vm.findClass RX = some m.cls := findClass_of_methodNamed B.named
  have hlocks := B.notSynchronized
  have hl := lv_entry ([.ref (ad 0), .int v]) (n := 2) (Nat.le_of_ble_eq_true rfl)
  rw [lg_entry_eq]
  generalize (lg_sl ([.ref (ad 0), .int v]) ++ List.replicate (2 - (lg_sl ([.ref (ad 0), .int v])).length) Slot.unset).toArray = ls at hl ⊢
  have hl : lv_has ls 2 [(0, .ref (ad 0)), (1, .int v)] := hl
  refine lv_aload_n hx hb d_X_year_0 rfl (lv_at hl 0 rfl) ?_
  refine lv_iload_n hx hb d_X_year_1 rfl (lv_at hl 1 rfl) ?_
  refine tq_V ⟨hx, hb, hml, hown, hts⟩ hT (c_X_isMinute l D ci ad g tc td tn v) lk_X_98 wX_mv ⟨hK, hg, hX⟩ (wX_rc ⟨hK, hg, hX⟩) rfl hl.1 rfl (Nat.le_of_ble_eq_true rfl) d_X_year_2 ⟨rfl, rfl, Nat.le_of_ble_eq_true rfl, Nat.le_of_ble_eq_true rfl⟩ ⟨Nat.zero_le _, Nat.zero_le _⟩ ?_
  refine lv_if_ne hx hb d_X_year_5 (tgt := 18) (by decide) (fun q1 => ?_) (fun q1 => ?_)
  · have q1 := zb_t q1
    exfalso
    omega
  · have q1 := zb_f q1
    exact tw_I hx hb htr hown (fun w h => hts w (hT w h)) hE (fun _ _ _ h => h) (is := 101) (text := "no such minute") (by decide) va_S.rf (hl.1.trans hml.symm) d_X_year_8 d_X_year_11 d_X_year_12 d_X_year_14 d_X_year_17 hno ⟨by decide, by decide, by decide, by decide⟩ hlocks (fun t ha h1 h2 => ⟨(), trivial, rfl, h1, fun q hq _ => h2 q hq⟩) (fun z hz => nomatch hz) (Nat.le_refl _) (Nat.le_refl _)
set_option maxHeartbeats 4000000 in
set_option maxRecDepth 100000 in
theorem c_X_position (l : Launch) (D : va_G) (ci : Nat → ClassId) (ad : Nat → Nat) (g : TS) (tc td : Int32) (tn : Nat → Int32) {i mm : Nat} (hi : i < 8) (hm : mm < tt_fst g 10) : Met l y_X_position (wT y_X_position b_X_position 3 (some .long)) (rP 1 23) (tb (wX D ci ad g tc td tn) [.ref (ad 0), .int (nI i), .int (nI mm)]) (tq_P (some (.long (lN (tt_pos g i mm (tt_yr g mm)))))) 0 0 tq_n := by
  refine Met.ofW (cc := b_X_position) (maxL := 3) (ret := (some .long)) (by decide) rfl ?_
  intro p e s m args below meth c s₁ B hml hv
  obtain ⟨rfl, hK, hg, hX⟩ := hv
  have hx := B.exec
  have hb := B.bytes
  have hr := B.returns
  have hts := atoms_spec (ws := wT y_X_position b_X_position 3 (some .long)) B.pre
  have hT : ∀ w ∈ TT, w ∈ wT y_X_position b_X_position 3 (some .long) := wT_T
  have hown : s.vm.findClass RX = some m.cls := findClass_of_methodNamed B.named
  have hlocks := B.notSynchronized
  have hl := lv_entry ([.ref (ad 0), .int (nI i), .int (nI mm)]) (n := 3) (Nat.le_of_ble_eq_true rfl)
  rw [lg_entry_eq]
  generalize (lg_sl ([.ref (ad 0), .int (nI i), .int (nI mm)]) ++ List.replicate (3 - (lg_sl ([.ref (ad 0), .int (nI i), .int (nI mm)])).length) Slot.unset).toArray = ls at hl ⊢
  have hl : lv_has ls 3 [(0, .ref (ad 0)), (1, .int (nI i)), (2, .int (nI mm))] := hl
  have hdb := tt_db_in hg.2.2.2 10 (Nat.le_refl _)
  have hf10 : tt_fst g 10 = 1440 * tt_db (tt_day g) 10 := rfl
  have ev : (nI mm).toInt = mm := nI_toInt (by omega)
  have ei : (nI i).toInt = i := nI_toInt (by omega)
  refine lv_iload_n hx hb d_X_position_0 rfl (lv_at hl 1 rfl) ?_
  refine tq_S ⟨hx, hb, hml, hown, hts⟩ hT (c_X_isConstituent l (nI i)) lk_X_59 wN_mv trivial rfl hl.1 rfl (Nat.le_of_ble_eq_true rfl) d_X_position_1 ⟨rfl, rfl, Nat.le_of_ble_eq_true rfl, Nat.le_of_ble_eq_true rfl⟩ ⟨Nat.zero_le _, Nat.zero_le _⟩ ?_
  refine lv_if_eq hx hb d_X_position_4 (tgt := 15) (by decide) (fun q1 => ?_) (fun q1 => ?_)
  · have q1 := zb_f q1
    exfalso
    omega
  · have q1 := zb_t q1
    refine lv_aload_n hx hb d_X_position_7 rfl (lv_at hl 0 rfl) ?_
    refine lv_iload_n hx hb d_X_position_8 rfl (lv_at hl 2 rfl) ?_
    refine tq_V ⟨hx, hb, hml, hown, hts⟩ hT (c_X_isMinute l D ci ad g tc td tn (nI mm)) lk_X_98 wX_mv ⟨hK, hg, hX⟩ (wX_rc ⟨hK, hg, hX⟩) rfl hl.1 rfl (Nat.le_of_ble_eq_true rfl) d_X_position_9 ⟨rfl, rfl, Nat.le_of_ble_eq_true rfl, Nat.le_of_ble_eq_true rfl⟩ ⟨Nat.zero_le _, Nat.zero_le _⟩ ?_
    refine lv_if_ne hx hb d_X_position_12 (tgt := 25) (by decide) (fun q2 => ?_) (fun q2 => ?_)
    · have q2 := zb_t q2
      refine lv_aload_n hx hb d_X_position_25 rfl (lv_at hl 0 rfl) ?_
      refine lv_iload_n hx hb d_X_position_26 rfl (lv_at hl 1 rfl) ?_
      refine lv_iload_n hx hb d_X_position_27 rfl (lv_at hl 2 rfl) ?_
      refine lv_aload_n hx hb d_X_position_28 rfl (lv_at hl 0 rfl) ?_
      refine lv_iload_n hx hb d_X_position_29 rfl (lv_at hl 2 rfl) ?_
      refine tq_V ⟨hx, hb, hml, hown, hts⟩ hT (c_X_yearOf l D ci ad g tc td tn (mm := mm) (by omega)) lk_X_103 wX_mv ⟨hK, hg, hX⟩ (wX_rc ⟨hK, hg, hX⟩) rfl hl.1 rfl (Nat.le_of_ble_eq_true rfl) d_X_position_30 ⟨rfl, rfl, Nat.le_of_ble_eq_true rfl, Nat.le_of_ble_eq_true rfl⟩ ⟨Nat.zero_le _, Nat.zero_le _⟩ ?_
      refine tq_V ⟨hx, hb, hml, hown, hts⟩ hT (c_X_positionAt l D ci ad g tc td tn (mm := mm) hi (by omega) (tt_yr_lt g mm)) lk_X_109 wX_mv ⟨hK, hg, hX⟩ (wX_rc ⟨hK, hg, hX⟩) rfl hl.1 rfl (Nat.le_of_ble_eq_true rfl) d_X_position_33 ⟨rfl, rfl, Nat.le_of_ble_eq_true rfl, Nat.le_of_ble_eq_true rfl⟩ ⟨Nat.zero_le _, Nat.zero_le _⟩ ?_
      exact W.lret hx hb hr (fun t ht hW => ⟨_, rfl, ⟨rfl, ht⟩⟩) (fun q hq => nomatch hq) d_X_position_36
    · have q2 := zb_f q2
      exfalso
      omega
set_option maxHeartbeats 4000000 in
set_option maxRecDepth 100000 in
theorem x_X_position (l : Launch) (htr : l.stackTraces = false) (D : va_G) (ci : Nat → ClassId) (ad : Nat → Nat) (g : TS) (tc td : Int32) (tn : Nat → Int32) (u v : Int32) (hv0 : ¬ ((0 ≤ u.toInt ∧ u.toInt < 8) ∧ 0 ≤ v.toInt ∧ v.toInt < (tt_fst g 10 : Nat))) : vx_Met l y_X_position (wT y_X_position b_X_position 3 (some .long)) ({ frames := 6, cells := 1, slots := 6, locals := 82 }) (tb (wXE D ci ad g tc td tn) [.ref (ad 0), .int u, .int v]) tw_N (vx_X (fun _ : Unit => True) (fun E _ _ => E = eI) (fun _ => False)) 1 6 tq_n := by
  refine vx_ofW (cc := b_X_position) (maxL := 3) (ret := (some .long)) (by decide) rfl ?_
  intro p e s m args below meth c s₁ B hml hno hv
  obtain ⟨rfl, ⟨hK, hg, hX⟩, hE⟩ := hv
  have hx := B.exec
  have hb := B.bytes
  have hr := B.returns
  have hts := atoms_spec (ws := wT y_X_position b_X_position 3 (some .long)) B.pre
  have hT : ∀ w ∈ TT, w ∈ wT y_X_position b_X_position 3 (some .long) := wT_T
  have hown : s.vm.findClass RX = some m.cls := findClass_of_methodNamed B.named
  have hlocks := B.notSynchronized
  have hl := lv_entry ([.ref (ad 0), .int u, .int v]) (n := 3) (Nat.le_of_ble_eq_true rfl)
  rw [lg_entry_eq]
  generalize (lg_sl ([.ref (ad 0), .int u, .int v]) ++ List.replicate (3 - (lg_sl ([.ref (ad 0), .int u, .int v])).length) Slot.unset).toArray = ls at hl ⊢
  have hl : lv_has ls 3 [(0, .ref (ad 0)), (1, .int u), (2, .int v)] := hl
  refine lv_iload_n hx hb d_X_position_0 rfl (lv_at hl 1 rfl) ?_
  refine tq_S ⟨hx, hb, hml, hown, hts⟩ hT (c_X_isConstituent l u) lk_X_59 wN_mv trivial rfl hl.1 rfl (Nat.le_of_ble_eq_true rfl) d_X_position_1 ⟨rfl, rfl, Nat.le_of_ble_eq_true rfl, Nat.le_of_ble_eq_true rfl⟩ ⟨Nat.zero_le _, Nat.zero_le _⟩ ?_
  refine lv_if_eq hx hb d_X_position_4 (tgt := 15) (by decide) (fun q1 => ?_) (fun q1 => ?_)
  · have q1 := zb_f q1
    exact tw_I hx hb htr hown (fun w h => hts w (hT w h)) hE (fun _ _ _ h => h) (is := 107) (text := "no such constituent or minute") (by decide) va_S.rf (hl.1.trans hml.symm) d_X_position_15 d_X_position_18 d_X_position_19 d_X_position_21 d_X_position_24 hno ⟨by decide, by decide, by decide, by decide⟩ hlocks (fun t ha h1 h2 => ⟨(), trivial, rfl, h1, fun q hq _ => h2 q hq⟩) (fun z hz => nomatch hz) (Nat.le_refl _) (Nat.le_refl _)
  · have q1 := zb_t q1
    refine lv_aload_n hx hb d_X_position_7 rfl (lv_at hl 0 rfl) ?_
    refine lv_iload_n hx hb d_X_position_8 rfl (lv_at hl 2 rfl) ?_
    refine tq_V ⟨hx, hb, hml, hown, hts⟩ hT (c_X_isMinute l D ci ad g tc td tn v) lk_X_98 wX_mv ⟨hK, hg, hX⟩ (wX_rc ⟨hK, hg, hX⟩) rfl hl.1 rfl (Nat.le_of_ble_eq_true rfl) d_X_position_9 ⟨rfl, rfl, Nat.le_of_ble_eq_true rfl, Nat.le_of_ble_eq_true rfl⟩ ⟨Nat.zero_le _, Nat.zero_le _⟩ ?_
    refine lv_if_ne hx hb d_X_position_12 (tgt := 25) (by decide) (fun q2 => ?_) (fun q2 => ?_)
    · have q2 := zb_t q2
      exfalso
      omega
    · have q2 := zb_f q2
      exact tw_I hx hb htr hown (fun w h => hts w (hT w h)) hE (fun _ _ _ h => h) (is := 107) (text := "no such constituent or minute") (by decide) va_S.rf (hl.1.trans hml.symm) d_X_position_15 d_X_position_18 d_X_position_19 d_X_position_21 d_X_position_24 hno ⟨by decide, by decide, by decide, by decide⟩ hlocks (fun t ha h1 h2 => ⟨(), trivial, rfl, h1, fun q hq _ => h2 q hq⟩) (fun z hz => nomatch hz) (Nat.le_refl _) (Nat.le_refl _)
set_option maxHeartbeats 4000000 in
set_option maxRecDepth 100000 in
theorem c_X_cosine (l : Launch) (D : va_G) (ci : Nat → ClassId) (ad : Nat → Nat) (g : TS) (tc td : Int32) (tn : Nat → Int32) {n : Nat} (hn : n < 281474976710656) : Met l y_X_cosine (wT y_X_cosine b_X_cosine 3 (some .int)) (rP 1 34) (tb (wX D ci ad g tc td tn) [.ref (ad 0), .long (lN n)]) (tq_P (some (.int (iZ (tt_cos n))))) 0 0 tq_n := by
  refine Met.ofW (cc := b_X_cosine) (maxL := 3) (ret := (some .int)) (by decide) rfl ?_
  intro p e s m args below meth c s₁ B hml hv
  obtain ⟨rfl, hK, hg, hX⟩ := hv
  have hx := B.exec
  have hb := B.bytes
  have hr := B.returns
  have hts := atoms_spec (ws := wT y_X_cosine b_X_cosine 3 (some .int)) B.pre
  have hT : ∀ w ∈ TT, w ∈ wT y_X_cosine b_X_cosine 3 (some .int) := wT_T
  have hown : s.vm.findClass RX = some m.cls := findClass_of_methodNamed B.named
  have hlocks := B.notSynchronized
  have hl := lv_entry ([.ref (ad 0), .long (lN n)]) (n := 3) (Nat.le_of_ble_eq_true rfl)
  rw [lg_entry_eq]
  generalize (lg_sl ([.ref (ad 0), .long (lN n)]) ++ List.replicate (3 - (lg_sl ([.ref (ad 0), .long (lN n)])).length) Slot.unset).toArray = ls at hl ⊢
  have hl : lv_has ls 3 [(0, .ref (ad 0)), (1, .long (lN n))] := hl
  have ev : (lN n).toInt = n := pk_lT (by omega)
  refine lv_lload_n hx hb d_X_cosine_0 rfl (lv_at hl 1 rfl) ?_
  refine tq_S ⟨hx, hb, hml, hown, hts⟩ hT (c_X_isPosition l (lN n)) lk_X_75 wN_mv trivial rfl hl.1 rfl (Nat.le_of_ble_eq_true rfl) d_X_cosine_1 ⟨rfl, rfl, Nat.le_of_ble_eq_true rfl, Nat.le_of_ble_eq_true rfl⟩ ⟨Nat.zero_le _, Nat.zero_le _⟩ ?_
  refine lv_if_ne hx hb d_X_cosine_4 (tgt := 17) (by decide) (fun q1 => ?_) (fun q1 => ?_)
  · have q1 := zb_t q1
    refine lv_lload_n hx hb d_X_cosine_17 rfl (lv_at hl 1 rfl) ?_
    refine tq_S ⟨hx, hb, hml, hown, hts⟩ hT (c_X_cosineOf l hn) lk_X_115 wN_mv trivial rfl hl.1 rfl (Nat.le_of_ble_eq_true rfl) d_X_cosine_18 ⟨rfl, rfl, Nat.le_of_ble_eq_true rfl, Nat.le_of_ble_eq_true rfl⟩ ⟨Nat.zero_le _, Nat.zero_le _⟩ ?_
    exact W.iret hx hb hr (fun t ht hW => ⟨_, rfl, ⟨rfl, ht⟩⟩) (fun q hq => nomatch hq) d_X_cosine_21
  · have q1 := zb_f q1
    exfalso
    omega
set_option maxHeartbeats 4000000 in
set_option maxRecDepth 100000 in
theorem x_X_cosine (l : Launch) (htr : l.stackTraces = false) (D : va_G) (ci : Nat → ClassId) (ad : Nat → Nat) (g : TS) (tc td : Int32) (tn : Nat → Int32) (v : Int64) (hv0 : ¬ (0 ≤ v.toInt ∧ v.toInt < 281474976710656)) : vx_Met l y_X_cosine (wT y_X_cosine b_X_cosine 3 (some .int)) ({ frames := 6, cells := 1, slots := 6, locals := 82 }) (tb (wXE D ci ad g tc td tn) [.ref (ad 0), .long v]) tw_N (vx_X (fun _ : Unit => True) (fun E _ _ => E = eA) (fun _ => False)) 1 6 tq_n := by
  refine vx_ofW (cc := b_X_cosine) (maxL := 3) (ret := (some .int)) (by decide) rfl ?_
  intro p e s m args below meth c s₁ B hml hno hv
  obtain ⟨rfl, ⟨hK, hg, hX⟩, hE⟩ := hv
  have hx := B.exec
  have hb := B.bytes
  have hr := B.returns
  have hts := atoms_spec (ws := wT y_X_cosine b_X_cosine 3 (some .int)) B.pre
  have hT : ∀ w ∈ TT, w ∈ wT y_X_cosine b_X_cosine 3 (some .int) := wT_T
  have hown : s.vm.findClass RX = some m.cls := findClass_of_methodNamed B.named
  have hlocks := B.notSynchronized
  have hl := lv_entry ([.ref (ad 0), .long v]) (n := 3) (Nat.le_of_ble_eq_true rfl)
  rw [lg_entry_eq]
  generalize (lg_sl ([.ref (ad 0), .long v]) ++ List.replicate (3 - (lg_sl ([.ref (ad 0), .long v])).length) Slot.unset).toArray = ls at hl ⊢
  have hl : lv_has ls 3 [(0, .ref (ad 0)), (1, .long v)] := hl
  refine lv_lload_n hx hb d_X_cosine_0 rfl (lv_at hl 1 rfl) ?_
  refine tq_S ⟨hx, hb, hml, hown, hts⟩ hT (c_X_isPosition l v) lk_X_75 wN_mv trivial rfl hl.1 rfl (Nat.le_of_ble_eq_true rfl) d_X_cosine_1 ⟨rfl, rfl, Nat.le_of_ble_eq_true rfl, Nat.le_of_ble_eq_true rfl⟩ ⟨Nat.zero_le _, Nat.zero_le _⟩ ?_
  refine lv_if_ne hx hb d_X_cosine_4 (tgt := 17) (by decide) (fun q1 => ?_) (fun q1 => ?_)
  · have q1 := zb_t q1
    exfalso
    omega
  · have q1 := zb_f q1
    exact tw_A hx hb htr hown (fun w h => hts w (hT w h)) hE (fun _ _ _ h => h) (is := 113) (text := "no such position") (by decide) va_S.rf (hl.1.trans hml.symm) d_X_cosine_7 d_X_cosine_10 d_X_cosine_11 d_X_cosine_13 d_X_cosine_16 hno ⟨by decide, by decide, by decide, by decide⟩ hlocks (fun t ha h1 h2 => ⟨(), trivial, rfl, h1, fun q hq _ => h2 q hq⟩) (fun z hz => nomatch hz) (Nat.le_refl _) (Nat.le_refl _)
set_option maxHeartbeats 4000000 in
set_option maxRecDepth 100000 in
theorem c_X_height (l : Launch) (D : va_G) (ci : Nat → ClassId) (ad : Nat → Nat) (g : TS) (tc td : Int32) (tn : Nat → Int32) {mm : Nat} (hm : mm < tt_fst g 10) : Met l y_X_height (wT y_X_height b_X_height 2 (some .int)) (rP 3 84) (tb (wX D ci ad g tc td tn) [.ref (ad 0), .int (nI mm)]) (tq_P (some (.int (iZ (tt_hgt g mm))))) 0 0 tq_n := by
  refine Met.ofW (cc := b_X_height) (maxL := 2) (ret := (some .int)) (by decide) rfl ?_
  intro p e s m args below meth c s₁ B hml hv
  obtain ⟨rfl, hK, hg, hX⟩ := hv
  have hx := B.exec
  have hb := B.bytes
  have hr := B.returns
  have hts := atoms_spec (ws := wT y_X_height b_X_height 2 (some .int)) B.pre
  have hT : ∀ w ∈ TT, w ∈ wT y_X_height b_X_height 2 (some .int) := wT_T
  have hown : s.vm.findClass RX = some m.cls := findClass_of_methodNamed B.named
  have hlocks := B.notSynchronized
  have hl := lv_entry ([.ref (ad 0), .int (nI mm)]) (n := 2) (Nat.le_of_ble_eq_true rfl)
  rw [lg_entry_eq]
  generalize (lg_sl ([.ref (ad 0), .int (nI mm)]) ++ List.replicate (2 - (lg_sl ([.ref (ad 0), .int (nI mm)])).length) Slot.unset).toArray = ls at hl ⊢
  have hl : lv_has ls 2 [(0, .ref (ad 0)), (1, .int (nI mm))] := hl
  have hdb := tt_db_in hg.2.2.2 10 (Nat.le_refl _)
  have hf10 : tt_fst g 10 = 1440 * tt_db (tt_day g) 10 := rfl
  have ev : (nI mm).toInt = mm := nI_toInt (by omega)
  refine lv_aload_n hx hb d_X_height_0 rfl (lv_at hl 0 rfl) ?_
  refine lv_iload_n hx hb d_X_height_1 rfl (lv_at hl 1 rfl) ?_
  refine tq_V ⟨hx, hb, hml, hown, hts⟩ hT (c_X_isMinute l D ci ad g tc td tn (nI mm)) lk_X_98 wX_mv ⟨hK, hg, hX⟩ (wX_rc ⟨hK, hg, hX⟩) rfl hl.1 rfl (Nat.le_of_ble_eq_true rfl) d_X_height_2 ⟨rfl, rfl, Nat.le_of_ble_eq_true rfl, Nat.le_of_ble_eq_true rfl⟩ ⟨Nat.zero_le _, Nat.zero_le _⟩ ?_
  refine lv_if_ne hx hb d_X_height_5 (tgt := 18) (by decide) (fun q1 => ?_) (fun q1 => ?_)
  · have q1 := zb_t q1
    refine lv_aload_n hx hb d_X_height_18 rfl (lv_at hl 0 rfl) ?_
    refine lv_iload_n hx hb d_X_height_19 rfl (lv_at hl 1 rfl) ?_
    refine tq_V ⟨hx, hb, hml, hown, hts⟩ hT (c_X_heightAt l D ci ad g tc td tn (mm := mm) (by omega)) lk_X_119 wX_mv ⟨hK, hg, hX⟩ (wX_rc ⟨hK, hg, hX⟩) rfl hl.1 rfl (Nat.le_of_ble_eq_true rfl) d_X_height_20 ⟨rfl, rfl, Nat.le_of_ble_eq_true rfl, Nat.le_of_ble_eq_true rfl⟩ ⟨Nat.zero_le _, Nat.zero_le _⟩ ?_
    exact W.iret hx hb hr (fun t ht hW => ⟨_, rfl, ⟨rfl, ht⟩⟩) (fun q hq => nomatch hq) d_X_height_23
  · have q1 := zb_f q1
    exfalso
    omega
set_option maxHeartbeats 4000000 in
set_option maxRecDepth 100000 in
theorem x_X_height (l : Launch) (htr : l.stackTraces = false) (D : va_G) (ci : Nat → ClassId) (ad : Nat → Nat) (g : TS) (tc td : Int32) (tn : Nat → Int32) (v : Int32) (hv0 : ¬ (0 ≤ v.toInt ∧ v.toInt < (tt_fst g 10 : Nat))) : vx_Met l y_X_height (wT y_X_height b_X_height 2 (some .int)) ({ frames := 6, cells := 1, slots := 6, locals := 82 }) (tb (wXE D ci ad g tc td tn) [.ref (ad 0), .int v]) tw_N (vx_X (fun _ : Unit => True) (fun E _ _ => E = eI) (fun _ => False)) 1 6 tq_n := by
  refine vx_ofW (cc := b_X_height) (maxL := 2) (ret := (some .int)) (by decide) rfl ?_
  intro p e s m args below meth c s₁ B hml hno hv
  obtain ⟨rfl, ⟨hK, hg, hX⟩, hE⟩ := hv
  have hx := B.exec
  have hb := B.bytes
  have hr := B.returns
  have hts := atoms_spec (ws := wT y_X_height b_X_height 2 (some .int)) B.pre
  have hT : ∀ w ∈ TT, w ∈ wT y_X_height b_X_height 2 (some .int) := wT_T
  have hown : s.vm.findClass RX = some m.cls := findClass_of_methodNamed B.named
  have hlocks := B.notSynchronized
  have hl := lv_entry ([.ref (ad 0), .int v]) (n := 2) (Nat.le_of_ble_eq_true rfl)
  rw [lg_entry_eq]
  generalize (lg_sl ([.ref (ad 0), .int v]) ++ List.replicate (2 - (lg_sl ([.ref (ad 0), .int v])).length) Slot.unset).toArray = ls at hl ⊢
  have hl : lv_has ls 2 [(0, .ref (ad 0)), (1, .int v)] := hl
  refine lv_aload_n hx hb d_X_height_0 rfl (lv_at hl 0 rfl) ?_
  refine lv_iload_n hx hb d_X_height_1 rfl (lv_at hl 1 rfl) ?_
  refine tq_V ⟨hx, hb, hml, hown, hts⟩ hT (c_X_isMinute l D ci ad g tc td tn v) lk_X_98 wX_mv ⟨hK, hg, hX⟩ (wX_rc ⟨hK, hg, hX⟩) rfl hl.1 rfl (Nat.le_of_ble_eq_true rfl) d_X_height_2 ⟨rfl, rfl, Nat.le_of_ble_eq_true rfl, Nat.le_of_ble_eq_true rfl⟩ ⟨Nat.zero_le _, Nat.zero_le _⟩ ?_
  refine lv_if_ne hx hb d_X_height_5 (tgt := 18) (by decide) (fun q1 => ?_) (fun q1 => ?_)
  · have q1 := zb_t q1
    exfalso
    omega
  · have q1 := zb_f q1
    exact tw_I hx hb htr hown (fun w h => hts w (hT w h)) hE (fun _ _ _ h => h) (is := 101) (text := "no such minute") (by decide) va_S.rf (hl.1.trans hml.symm) d_X_height_8 d_X_height_11 d_X_height_12 d_X_height_14 d_X_height_17 hno ⟨by decide, by decide, by decide, by decide⟩ hlocks (fun t ha h1 h2 => ⟨(), trivial, rfl, h1, fun q hq _ => h2 q hq⟩) (fun z hz => nomatch hz) (Nat.le_refl _) (Nat.le_refl _)
end
section
/-! methods of the JDK that the class calls: names, decoding, call sites. Written by wip/whole/names.py -/
abbrev b_J_floorDiv : ByteArray := prog_10_method_49_code
def y_J_floorDiv : MethodName := ⟨"java/lang/Math", "floorDiv", "(JJ)J"⟩
theorem d_J_floorDiv_0 : decode b_J_floorDiv 0 = .ok (.lload_n 0, 1) := by decide +kernel
theorem d_J_floorDiv_1 : decode b_J_floorDiv 1 = .ok (.lload_n 2, 1) := by decide +kernel
theorem d_J_floorDiv_2 : decode b_J_floorDiv 2 = .ok (.ldiv, 1) := by decide +kernel
theorem d_J_floorDiv_3 : decode b_J_floorDiv 3 = .ok (.lstore 4, 2) := by decide +kernel
theorem d_J_floorDiv_5 : decode b_J_floorDiv 5 = .ok (.lload_n 0, 1) := by decide +kernel
theorem d_J_floorDiv_6 : decode b_J_floorDiv 6 = .ok (.lload_n 2, 1) := by decide +kernel
theorem d_J_floorDiv_7 : decode b_J_floorDiv 7 = .ok (.lxor, 1) := by decide +kernel
theorem d_J_floorDiv_8 : decode b_J_floorDiv 8 = .ok (.lconst 0, 1) := by decide +kernel
theorem d_J_floorDiv_9 : decode b_J_floorDiv 9 = .ok (.lcmp, 1) := by decide +kernel
theorem d_J_floorDiv_10 : decode b_J_floorDiv 10 = .ok (.ifCond .ge 17, 3) := by decide +kernel
theorem d_J_floorDiv_13 : decode b_J_floorDiv 13 = .ok (.lload 4, 2) := by decide +kernel
theorem d_J_floorDiv_15 : decode b_J_floorDiv 15 = .ok (.lload_n 2, 1) := by decide +kernel
theorem d_J_floorDiv_16 : decode b_J_floorDiv 16 = .ok (.lmul, 1) := by decide +kernel
theorem d_J_floorDiv_17 : decode b_J_floorDiv 17 = .ok (.lload_n 0, 1) := by decide +kernel
theorem d_J_floorDiv_18 : decode b_J_floorDiv 18 = .ok (.lcmp, 1) := by decide +kernel
theorem d_J_floorDiv_19 : decode b_J_floorDiv 19 = .ok (.ifCond .eq 8, 3) := by decide +kernel
theorem d_J_floorDiv_22 : decode b_J_floorDiv 22 = .ok (.lload 4, 2) := by decide +kernel
theorem d_J_floorDiv_24 : decode b_J_floorDiv 24 = .ok (.lconst 1, 1) := by decide +kernel
theorem d_J_floorDiv_25 : decode b_J_floorDiv 25 = .ok (.lsub, 1) := by decide +kernel
theorem d_J_floorDiv_26 : decode b_J_floorDiv 26 = .ok (.lreturn, 1) := by decide +kernel
theorem d_J_floorDiv_27 : decode b_J_floorDiv 27 = .ok (.lload 4, 2) := by decide +kernel
theorem d_J_floorDiv_29 : decode b_J_floorDiv 29 = .ok (.lreturn, 1) := by decide +kernel
abbrev b_J_fill : ByteArray := prog_18_method_103_code
def y_J_fill : MethodName := ⟨"java/util/Arrays", "fill", "([II)V"⟩
theorem d_J_fill_0 : decode b_J_fill 0 = .ok (.iconst 0, 1) := by decide +kernel
theorem d_J_fill_1 : decode b_J_fill 1 = .ok (.istore_n 2, 1) := by decide +kernel
theorem d_J_fill_2 : decode b_J_fill 2 = .ok (.aload_n 0, 1) := by decide +kernel
theorem d_J_fill_3 : decode b_J_fill 3 = .ok (.arraylength, 1) := by decide +kernel
theorem d_J_fill_4 : decode b_J_fill 4 = .ok (.istore_n 3, 1) := by decide +kernel
theorem d_J_fill_5 : decode b_J_fill 5 = .ok (.iload_n 2, 1) := by decide +kernel
theorem d_J_fill_6 : decode b_J_fill 6 = .ok (.iload_n 3, 1) := by decide +kernel
theorem d_J_fill_7 : decode b_J_fill 7 = .ok (.if_icmp .ge 13, 3) := by decide +kernel
theorem d_J_fill_10 : decode b_J_fill 10 = .ok (.aload_n 0, 1) := by decide +kernel
theorem d_J_fill_11 : decode b_J_fill 11 = .ok (.iload_n 2, 1) := by decide +kernel
theorem d_J_fill_12 : decode b_J_fill 12 = .ok (.iload_n 1, 1) := by decide +kernel
theorem d_J_fill_13 : decode b_J_fill 13 = .ok (.iastore, 1) := by decide +kernel
theorem d_J_fill_14 : decode b_J_fill 14 = .ok (.iinc 2 1, 3) := by decide +kernel
theorem d_J_fill_17 : decode b_J_fill 17 = .ok (.goto (-12), 3) := by decide +kernel
theorem d_J_fill_20 : decode b_J_fill 20 = .ok (.return_, 1) := by decide +kernel
theorem lk_X_124 : tkS RX 124 y_J_floorDiv b_J_floorDiv 6 (some .long) 2 := ⟨TT_t 285 (by decide +kernel) rfl, TT_t 286 (by decide +kernel) rfl, TT_t 9 (by decide +kernel) rfl, TT_t 287 (by decide +kernel) rfl, by decide +kernel, by decide +kernel⟩
theorem lk_X_41 : tkS RX 41 y_J_fill b_J_fill 4 none 2 := ⟨TT_t 32 (by decide +kernel) rfl, TT_t 33 (by decide +kernel) rfl, TT_t 2 (by decide +kernel) rfl, TT_t 34 (by decide +kernel) rfl, by decide +kernel, by decide +kernel⟩
theorem km_min_l : Cond.methodLink RX 167 Lib.Math.min.name ∈ TT := TT_t 579 (by decide +kernel) rfl
theorem km_min_s : Cond.static Lib.Math.min.name ∈ TT := TT_t 406 (by decide +kernel) rfl
theorem km_min_c : Cond.code Lib.Math.min.name Lib.Math.min.code 2 (some .int) ∈ TT := TT_t 407 (by decide +kernel) rfl
theorem km_abs_l : Cond.methodLink RX 219 Lib.Math.abs.name ∈ TT := TT_t 516 (by decide +kernel) rfl
theorem km_abs_s : Cond.static Lib.Math.abs.name ∈ TT := TT_t 517 (by decide +kernel) rfl
theorem km_abs_c : Cond.code Lib.Math.abs.name Lib.Math.abs.code 1 (some .int) ∈ TT := TT_t 518 (by decide +kernel) rfl
end
section
/-! Math.floorDiv; mean and above. Written by wip/whole/gen.py -/
theorem lx_neg {x y : Int64} (hy : 0 < y.toInt) : (x ^^^ y).toInt < 0 ↔ x.toInt < 0 := by
  have e1 : (x ^^^ y).toBitVec.msb = (x.toBitVec.msb ^^ y.toBitVec.msb) := by rw [Int64.toBitVec_xor, BitVec.msb_xor]
  rw [BitVec.msb_eq_toInt, BitVec.msb_eq_toInt, BitVec.msb_eq_toInt] at e1
  have e2 : decide (y.toBitVec.toInt < 0) = false := decide_eq_false (show ¬ y.toInt < 0 by omega)
  rw [e2, Bool.xor_false] at e1
  exact decide_eq_decide.mp e1
set_option maxHeartbeats 4000000 in
set_option maxRecDepth 100000 in
theorem c_J_floorDiv (l : Launch) {a b : Int} (ha1 : -9223372036854775808 ≤ a) (ha2 : a < 9223372036854775808) (hb1 : 0 < b) (hb2 : b < 9223372036854775808) : Met l y_J_floorDiv (wT y_J_floorDiv b_J_floorDiv 6 (some .long)) (rP 0 0) (tb (wN) [.long (lZ a), .long (lZ b)]) (tq_P (some (.long (lZ (a / b))))) 0 0 tq_n := by
  refine va_MetF (cc := b_J_floorDiv) (maxL := 6) (ret := (some .long)) (by decide +kernel) rfl ?_
  intro p e s m args below meth c s₁ B hml hv
  obtain ⟨rfl, hv⟩ := hv
  have hx := B.exec
  have hb := B.bytes
  have hr := B.returns
  have hts := atoms_spec (ws := wT y_J_floorDiv b_J_floorDiv 6 (some .long)) B.pre
  have hT : ∀ w ∈ TT, w ∈ wT y_J_floorDiv b_J_floorDiv 6 (some .long) := wT_T
  have hown : s.vm.findClass "java/lang/Math" = some m.cls := findClass_of_methodNamed B.named
  have hlocks := B.notSynchronized
  have hl := lv_entry ([.long (lZ a), .long (lZ b)]) (n := 6) (Nat.le_of_ble_eq_true rfl)
  rw [lg_entry_eq]
  generalize (lg_sl ([.long (lZ a), .long (lZ b)]) ++ List.replicate (6 - (lg_sl ([.long (lZ a), .long (lZ b)])).length) Slot.unset).toArray = ls at hl ⊢
  have hl : lv_has ls 6 [(0, .long (lZ a)), (2, .long (lZ b))] := hl
  have ea := lZ_toInt ha1 ha2
  have eb := lZ_toInt (z := b) (by omega) hb2
  have hq : (a.tdiv b).natAbs ≤ a.natAbs := by rw [Int.natAbs_tdiv]; exact Nat.div_le_self _ _
  have hmul := Int.mul_tdiv_add_tmod a b
  have hcm : a.tdiv b * b = b * a.tdiv b := Int.mul_comm _ _
  have hqb : (a.tdiv b * b).natAbs ≤ a.natAbs := by
    rw [Int.natAbs_mul, Int.natAbs_tdiv]
    exact Nat.div_mul_le_self _ _
  refine lv_lload_n hx hb d_J_floorDiv_0 rfl (lv_at hl 0 rfl) ?_
  refine lv_lload_n hx hb d_J_floorDiv_1 rfl (lv_at hl 1 rfl) ?_
  refine lv_ldiv hx hb d_J_floorDiv_2 (fun z => by rw [← Int64.toInt_inj, eb] at z; exact absurd z (by show ¬ b = 0; omega)) ?_
  refine tq_tl (show _ = (lZ (a.tdiv b)) from lZ_div ha1 ha2 hb1 hb2) ?_
  refine lv_lstore hx hb d_J_floorDiv_3 hl (by decide) (lv' := [(4, .long (lZ (a.tdiv b))), (0, .long (lZ a)), (2, .long (lZ b))]) rfl (fun ls hl => ?_)
  refine lv_lload_n hx hb d_J_floorDiv_5 rfl (lv_at hl 1 rfl) ?_
  refine lv_lload_n hx hb d_J_floorDiv_6 rfl (lv_at hl 2 rfl) ?_
  refine lv_lxor hx hb d_J_floorDiv_7 ?_
  refine lv_lconst hx hb d_J_floorDiv_8 (v := (lN 0)) rfl ?_
  refine W.lcmp hx hb d_J_floorDiv_9 ?_
  refine lv_if_ge hx hb d_J_floorDiv_10 (tgt := 27) (by decide) (fun h1 => ?_) (fun h1 => ?_)
  · have h1 : ¬ a < 0 := by
      have h2 := (lg_cmp_ge _ _).mp h1
      rw [Int64.le_iff_toInt_le] at h2
      have h3 := mt (lx_neg (x := lZ a) (y := lZ b) (by omega)).mpr (show ¬ (lZ a ^^^ lZ b).toInt < 0 by have : (lN 0).toInt = 0 := rfl; omega)
      omega
    refine lv_lload hx hb d_J_floorDiv_27 (lv_at hl 0 rfl) ?_
    exact W.lret hx hb hr (fun t ht hW => ⟨_, rfl, ⟨(by rw [← tt_floor2 hb1, if_neg (fun z => h1 z.1)]), ht⟩⟩) (fun q hq => nomatch hq) d_J_floorDiv_29
  · have h1 : a < 0 := by
      have h2 := mt (lg_cmp_ge _ _).mpr h1
      rw [Int64.le_iff_toInt_le] at h2
      have h3 := (lx_neg (x := lZ a) (y := lZ b) (by omega)).mp (by have : (lN 0).toInt = 0 := rfl; omega)
      omega
    refine lv_lload hx hb d_J_floorDiv_13 (lv_at hl 0 rfl) ?_
    refine lv_lload_n hx hb d_J_floorDiv_15 rfl (lv_at hl 2 rfl) ?_
    refine lv_lmul hx hb d_J_floorDiv_16 ?_
    refine tq_tl (show _ = (lZ (a.tdiv b * b)) from lZ_mul _ _) ?_
    refine lv_lload_n hx hb d_J_floorDiv_17 rfl (lv_at hl 1 rfl) ?_
    refine W.lcmp hx hb d_J_floorDiv_18 ?_
    refine lv_if_eq hx hb d_J_floorDiv_19 (tgt := 27) (by decide) (fun h4 => ?_) (fun h4 => ?_)
    · have h4 : a.tdiv b * b = a := by
        have h5 := congrArg Int64.toInt ((lg_cmp_eq _ _).mp h4)
        have htm := Int.lt_tmod_of_pos a hb1
        rw [lZ_toInt (by omega) (by omega), ea] at h5
        exact h5
      refine lv_lload hx hb d_J_floorDiv_27 (lv_at hl 0 rfl) ?_
      exact W.lret hx hb hr (fun t ht hW => ⟨_, rfl, ⟨(by rw [← tt_floor2 hb1, if_neg (fun z => z.2 h4)]), ht⟩⟩) (fun q hq => nomatch hq) d_J_floorDiv_29
    · have h4 : ¬ a.tdiv b * b = a := fun z => h4 ((lg_cmp_eq _ _).mpr (by rw [z]))
      refine lv_lload hx hb d_J_floorDiv_22 (lv_at hl 0 rfl) ?_
      refine lv_lconst hx hb d_J_floorDiv_24 (v := (lN 1)) rfl ?_
      refine lv_lsub hx hb d_J_floorDiv_25 ?_
      refine tq_tl (show _ = (lZ (a.tdiv b - 1)) from (by rw [lN_lZ, lZ_sub]; rfl)) ?_
      exact W.lret hx hb hr (fun t ht hW => ⟨_, rfl, ⟨(by rw [← tt_floor2 hb1, if_pos ⟨h1, h4⟩]), ht⟩⟩) (fun q hq => nomatch hq) d_J_floorDiv_26
section G18
variable {p : Program} {l : Launch} {e : Env} {R : Room} {s : State} {m : MethodId} {args : Array Value} {below : List Frame} {meth : Method} {c : Code} {H : Heap} {locs : List Loc} {cells slots : Nat} {Q : State → Prop} {Ts : List Cond}
variable {D : va_G} {ci : Nat → ClassId} {ad : Nat → Nat} {g : TS} {tc td : Int32} {tn : Nat → Int32}
set_option maxHeartbeats 4000000 in
set_option maxRecDepth 100000 in
theorem l_X_mean (hx : p.tables.exec = Jvm.exec) (hb : c.code = b_X_mean) (hts : ∀ w ∈ Ts, w.before args s = true) (hT : ∀ w ∈ TT, w ∈ Ts) (hown : s.vm.findClass RX = some m.cls) (hml : c.maxLocals = 6) (hK : tk D ci s) (hg : tt_ok g) (hX : tx D ci ad g tc td tn H) (hR : 2 + 1 ≤ R.frames ∧ 8 + (6 + 11) + 59 ≤ R.locals) (hf : cells ≤ R.cells ∧ slots ≤ R.slots) {mm n : Nat} (hn : n < 4000) (hmm : mm + n < 2147480000)
    (kk : ∀ (ls : Array Slot), lv_has ls 6 [(5, .int (nI n)), (3, .long (lZ (tt_sm (tt_hgt g) mm n))), (0, .ref (ad 0)), (1, .int (nI mm)), (2, .int (nI n))] → W p l e R s m args below meth c H locs cells slots Q (F0 m 78 ls [])) :
    ∀ (d k : Nat) (ls : Array Slot), k + d = n → lv_has ls 6 [(5, .int (nI k)), (3, .long (lZ (tt_sm (tt_hgt g) mm k))), (0, .ref (ad 0)), (1, .int (nI mm)), (2, .int (nI n))] → W p l e R s m args below meth c H locs cells slots Q (F0 m 54 ls []) := by
  intro d
  induction d with
  | zero =>
    intro k ls hk hl
    obtain rfl : k = n := by omega
    refine lv_iload hx hb d_X_mean_54 (lv_at hl 0 rfl) ?_
    refine lv_iload_n hx hb d_X_mean_56 rfl (lv_at hl 4 rfl) ?_
    refine lv_icmp_ge hx hb d_X_mean_57 (tgt := 78) (by decide) (fun _ => ?_) (fun hno => absurd (nI_le (Nat.le_refl k) (by omega)) hno)
    exact kk ls hl
  | succ d ih =>
    intro k ls hk hl
    have hh := tt_hgt_in hg (mm + k)
    refine lv_iload hx hb d_X_mean_54 (lv_at hl 0 rfl) ?_
    refine lv_iload_n hx hb d_X_mean_56 rfl (lv_at hl 4 rfl) ?_
    refine lv_icmp_ge hx hb d_X_mean_57 (tgt := 78) (by decide) (fun hyes => absurd hyes (nI_ge (show k < n by omega) (by omega))) (fun _ => ?_)
    refine lv_lload_n hx hb d_X_mean_60 rfl (lv_at hl 1 rfl) ?_
    refine lv_aload_n hx hb d_X_mean_61 rfl (lv_at hl 2 rfl) ?_
    refine lv_iload_n hx hb d_X_mean_62 rfl (lv_at hl 3 rfl) ?_
    refine lv_iload hx hb d_X_mean_63 (lv_at hl 0 rfl) ?_
    refine lv_iadd hx hb d_X_mean_65 ?_
    refine tq_ti (show _ = (nI (mm + k)) from nI_add _ _) ?_
    refine tq_V ⟨hx, hb, hml, hown, hts⟩ hT (c_X_heightAt l D ci ad g tc td tn (mm := mm + k) (by omega)) lk_X_119 wX_mv ⟨hK, hg, hX⟩ (wX_rc ⟨hK, hg, hX⟩) rfl hl.1 rfl (Nat.le_of_ble_eq_true rfl) d_X_mean_66 ⟨rfl, rfl, hR⟩ hf ?_
    refine lv_i2l hx hb d_X_mean_69 (v := (iZ (tt_hgt g (mm + k))).toInt64) rfl ?_
    refine tq_tl (show _ = (lZ (tt_hgt g (mm + k))) from iZ_l (by omega) (by omega)) ?_
    refine lv_ladd hx hb d_X_mean_70 ?_
    refine tq_tl (show _ = (lZ (tt_sm (tt_hgt g) mm (k + 1))) from lZ_add _ _) ?_
    refine lv_lstore_n hx hb d_X_mean_71 rfl hl (by decide) (lv' := [(3, .long (lZ (tt_sm (tt_hgt g) mm (k + 1)))), (5, .int (nI k)), (0, .ref (ad 0)), (1, .int (nI mm)), (2, .int (nI n))]) rfl (fun ls hl => ?_)
    refine lv_iinc hx hb d_X_mean_72 hl (k := 1) rfl (v := (nI (k + 1))) (by rw [show Int32.ofInt 1 = 1 from rfl]; exact nI_1 k) (by decide) (lv' := [(5, .int (nI (k + 1))), (3, .long (lZ (tt_sm (tt_hgt g) mm (k + 1)))), (0, .ref (ad 0)), (1, .int (nI mm)), (2, .int (nI n))]) rfl (fun ls hl => ?_)
    refine lv_goto hx hb d_X_mean_75 (tgt := 54) (by decide) ?_
    exact ih (k + 1) ls (by omega) hl
end G18
set_option maxHeartbeats 4000000 in
set_option maxRecDepth 100000 in
theorem c_X_mean (l : Launch) (D : va_G) (ci : Nat → ClassId) (ad : Nat → Nat) (g : TS) (tc td : Int32) (tn : Nat → Int32) {mm n : Nat} (hn0 : 1 ≤ n) (hn : n ≤ 2000) (hm : mm + n ≤ tt_fst g 10) : Met l y_X_mean (wT y_X_mean b_X_mean 6 (some .int)) (rP 3 84) (tb (wX D ci ad g tc td tn) [.ref (ad 0), .int (nI mm), .int (nI n)]) (tq_P (some (.int (iZ (tt_sm (tt_hgt g) mm n / n))))) 0 0 tq_n := by
  refine Met.ofW (cc := b_X_mean) (maxL := 6) (ret := (some .int)) (by decide) rfl ?_
  intro p e s m args below meth c s₁ B hml hv
  obtain ⟨rfl, hK, hg, hX⟩ := hv
  have hx := B.exec
  have hb := B.bytes
  have hr := B.returns
  have hts := atoms_spec (ws := wT y_X_mean b_X_mean 6 (some .int)) B.pre
  have hT : ∀ w ∈ TT, w ∈ wT y_X_mean b_X_mean 6 (some .int) := wT_T
  have hown : s.vm.findClass RX = some m.cls := findClass_of_methodNamed B.named
  have hlocks := B.notSynchronized
  have hl := lv_entry ([.ref (ad 0), .int (nI mm), .int (nI n)]) (n := 6) (Nat.le_of_ble_eq_true rfl)
  rw [lg_entry_eq]
  generalize (lg_sl ([.ref (ad 0), .int (nI mm), .int (nI n)]) ++ List.replicate (6 - (lg_sl ([.ref (ad 0), .int (nI mm), .int (nI n)])).length) Slot.unset).toArray = ls at hl ⊢
  have hl : lv_has ls 6 [(0, .ref (ad 0)), (1, .int (nI mm)), (2, .int (nI n))] := hl
  have hdb := tt_db_in hg.2.2.2 10 (Nat.le_refl _)
  have hf10 : tt_fst g 10 = 1440 * tt_db (tt_day g) 10 := rfl
  have ev : (nI mm).toInt = mm := nI_toInt (by omega)
  have en : (nI n).toInt = n := nI_toInt (by omega)
  have hsm := tt_sm_in (fun k => tt_hgt_in hg k) mm n
  refine lv_iload_n hx hb d_X_mean_0 rfl (lv_at hl 2 rfl) ?_
  refine lv_iconst hx hb d_X_mean_1 (v := (nI 1)) rfl ?_
  refine lv_icmp_lt hx hb d_X_mean_2 (tgt := 12) (by decide) (fun q1 => ?_) (fun q1 => ?_)
  · have q1 := Int32.lt_iff_toInt_lt.mp q1
    rw [nI_toInt (n := 1) (by decide)] at q1
    exfalso
    omega
  · have q1 := mt Int32.lt_iff_toInt_lt.mpr q1
    rw [nI_toInt (n := 1) (by decide)] at q1
    refine lv_iload_n hx hb d_X_mean_5 rfl (lv_at hl 2 rfl) ?_
    refine lv_sipush hx hb d_X_mean_6 (v := (nI 2000)) rfl ?_
    refine lv_icmp_le hx hb d_X_mean_9 (tgt := 22) (by decide) (fun q2 => ?_) (fun q2 => ?_)
    · have q2 := Int32.le_iff_toInt_le.mp q2
      rw [nI_toInt (n := 2000) (by decide)] at q2
      refine lv_iload_n hx hb d_X_mean_22 rfl (lv_at hl 1 rfl) ?_
      refine lv_if_lt hx hb d_X_mean_23 (tgt := 39) (by decide) (fun q3 => ?_) (fun q3 => ?_)
      · have q3 := iv_lt0.mp q3
        exfalso
        omega
      · have q3 := mt iv_lt0.mpr q3
        refine lv_iload_n hx hb d_X_mean_26 rfl (lv_at hl 1 rfl) ?_
        refine lv_aload_n hx hb d_X_mean_27 rfl (lv_at hl 0 rfl) ?_
        refine va_get hx hb hts (fun w h => hT w (uX_in w h)) hown hK hX.1 0 rfl rfl 6 (by decide) (hts _ (hT _ k_X_30)) (fun _ h => h) rfl d_X_mean_28 ?_
        refine lv_bipush hx hb d_X_mean_31 (v := (nI 10)) rfl ?_
        refine tq_iald hx hb hK hX.1 6 0 rfl rfl (by decide) (by decide) d_X_mean_33 ?_
        refine lv_iload_n hx hb d_X_mean_34 rfl (lv_at hl 2 rfl) ?_
        refine lv_isub hx hb d_X_mean_35 ?_
        refine tq_ti (show _ = (nI (tt_fst g 10 - n)) from pk_sub (by omega)) ?_
        refine lv_icmp_le hx hb d_X_mean_36 (tgt := 49) (by decide) (fun q4 => ?_) (fun q4 => ?_)
        · have q4 := Int32.le_iff_toInt_le.mp q4
          rw [nI_toInt (n := (tt_fst g 10 - n)) (by omega)] at q4
          refine lv_lconst hx hb d_X_mean_49 (v := (lN 0)) rfl ?_
          refine lv_lstore_n hx hb d_X_mean_50 rfl hl (by decide) (lv' := [(3, .long (lN 0)), (0, .ref (ad 0)), (1, .int (nI mm)), (2, .int (nI n))]) rfl (fun ls hl => ?_)
          refine lv_iconst hx hb d_X_mean_51 (v := (nI 0)) rfl ?_
          refine lv_istore hx hb d_X_mean_52 hl (by decide) (lv' := [(5, .int (nI 0)), (3, .long (lN 0)), (0, .ref (ad 0)), (1, .int (nI mm)), (2, .int (nI n))]) rfl (fun ls hl => ?_)
          refine l_X_mean hx hb hts hT hown hml hK hg hX ⟨Nat.le_of_ble_eq_true rfl, Nat.le_of_ble_eq_true rfl⟩ ⟨Nat.zero_le _, Nat.zero_le _⟩ (by omega) (by omega) (fun ls hl => ?_) n 0 ls (Nat.zero_add _) hl
          refine lv_lload_n hx hb d_X_mean_78 rfl (lv_at hl 1 rfl) ?_
          refine lv_iload_n hx hb d_X_mean_79 rfl (lv_at hl 4 rfl) ?_
          refine lv_i2l hx hb d_X_mean_80 (v := (nI n).toInt64) rfl ?_
          refine tq_tl (show _ = (lZ n) from ((nI_l (by omega)).trans (lN_lZ _))) ?_
          refine tq_S ⟨hx, hb, hml, hown, hts⟩ hT (c_J_floorDiv l (a := tt_sm (tt_hgt g) mm n) (b := n) (by omega) (by omega) (by omega) (by omega)) lk_X_124 wN_mv trivial rfl hl.1 rfl (Nat.le_of_ble_eq_true rfl) d_X_mean_81 ⟨rfl, rfl, Nat.le_of_ble_eq_true rfl, Nat.le_of_ble_eq_true rfl⟩ ⟨Nat.zero_le _, Nat.zero_le _⟩ ?_
          refine lv_l2i hx hb d_X_mean_84 (v := (lZ (tt_sm (tt_hgt g) mm n / n)).toInt32) rfl ?_
          refine tq_ti (show _ = (iZ (tt_sm (tt_hgt g) mm n / n)) from lZ_i _) ?_
          exact W.iret hx hb hr (fun t ht hW => ⟨_, rfl, ⟨rfl, ht⟩⟩) (fun q hq => nomatch hq) d_X_mean_85
        · have q4 := mt Int32.le_iff_toInt_le.mpr q4
          rw [nI_toInt (n := (tt_fst g 10 - n)) (by omega)] at q4
          exfalso
          omega
    · have q2 := mt Int32.le_iff_toInt_le.mpr q2
      rw [nI_toInt (n := 2000) (by decide)] at q2
      exfalso
      omega
set_option maxHeartbeats 4000000 in
set_option maxRecDepth 100000 in
theorem x_X_meanA (l : Launch) (htr : l.stackTraces = false) (D : va_G) (ci : Nat → ClassId) (ad : Nat → Nat) (g : TS) (tc td : Int32) (tn : Nat → Int32) (u v : Int32) (hv0 : ¬ (1 ≤ v.toInt ∧ v.toInt ≤ 2000)) : vx_Met l y_X_mean (wT y_X_mean b_X_mean 6 (some .int)) ({ frames := 6, cells := 1, slots := 6, locals := 82 }) (tb (wXE D ci ad g tc td tn) [.ref (ad 0), .int u, .int v]) tw_N (vx_X (fun _ : Unit => True) (fun E _ _ => E = eA) (fun _ => False)) 1 6 tq_n := by
  refine vx_ofW (cc := b_X_mean) (maxL := 6) (ret := (some .int)) (by decide) rfl ?_
  intro p e s m args below meth c s₁ B hml hno hv
  obtain ⟨rfl, ⟨hK, hg, hX⟩, hE⟩ := hv
  have hx := B.exec
  have hb := B.bytes
  have hr := B.returns
  have hts := atoms_spec (ws := wT y_X_mean b_X_mean 6 (some .int)) B.pre
  have hT : ∀ w ∈ TT, w ∈ wT y_X_mean b_X_mean 6 (some .int) := wT_T
  have hown : s.vm.findClass RX = some m.cls := findClass_of_methodNamed B.named
  have hlocks := B.notSynchronized
  have hl := lv_entry ([.ref (ad 0), .int u, .int v]) (n := 6) (Nat.le_of_ble_eq_true rfl)
  rw [lg_entry_eq]
  generalize (lg_sl ([.ref (ad 0), .int u, .int v]) ++ List.replicate (6 - (lg_sl ([.ref (ad 0), .int u, .int v])).length) Slot.unset).toArray = ls at hl ⊢
  have hl : lv_has ls 6 [(0, .ref (ad 0)), (1, .int u), (2, .int v)] := hl
  have hdb := tt_db_in hg.2.2.2 10 (Nat.le_refl _)
  have hf10 : tt_fst g 10 = 1440 * tt_db (tt_day g) 10 := rfl
  refine lv_iload_n hx hb d_X_mean_0 rfl (lv_at hl 2 rfl) ?_
  refine lv_iconst hx hb d_X_mean_1 (v := (nI 1)) rfl ?_
  refine lv_icmp_lt hx hb d_X_mean_2 (tgt := 12) (by decide) (fun q1 => ?_) (fun q1 => ?_)
  · have q1 := Int32.lt_iff_toInt_lt.mp q1
    rw [nI_toInt (n := 1) (by decide)] at q1
    exact tw_A hx hb htr hown (fun w h => hts w (hT w h)) hE (fun _ _ _ h => h) (is := 122) (text := "no such number of minutes") (by decide) va_S.rf (hl.1.trans hml.symm) d_X_mean_12 d_X_mean_15 d_X_mean_16 d_X_mean_18 d_X_mean_21 hno ⟨by decide, by decide, by decide, by decide⟩ hlocks (fun t ha h1 h2 => ⟨(), trivial, rfl, h1, fun q hq _ => h2 q hq⟩) (fun z hz => nomatch hz) (Nat.le_refl _) (Nat.le_refl _)
  · have q1 := mt Int32.lt_iff_toInt_lt.mpr q1
    rw [nI_toInt (n := 1) (by decide)] at q1
    refine lv_iload_n hx hb d_X_mean_5 rfl (lv_at hl 2 rfl) ?_
    refine lv_sipush hx hb d_X_mean_6 (v := (nI 2000)) rfl ?_
    refine lv_icmp_le hx hb d_X_mean_9 (tgt := 22) (by decide) (fun q2 => ?_) (fun q2 => ?_)
    · have q2 := Int32.le_iff_toInt_le.mp q2
      rw [nI_toInt (n := 2000) (by decide)] at q2
      exfalso
      omega
    · have q2 := mt Int32.le_iff_toInt_le.mpr q2
      rw [nI_toInt (n := 2000) (by decide)] at q2
      exact tw_A hx hb htr hown (fun w h => hts w (hT w h)) hE (fun _ _ _ h => h) (is := 122) (text := "no such number of minutes") (by decide) va_S.rf (hl.1.trans hml.symm) d_X_mean_12 d_X_mean_15 d_X_mean_16 d_X_mean_18 d_X_mean_21 hno ⟨by decide, by decide, by decide, by decide⟩ hlocks (fun t ha h1 h2 => ⟨(), trivial, rfl, h1, fun q hq _ => h2 q hq⟩) (fun z hz => nomatch hz) (Nat.le_refl _) (Nat.le_refl _)
set_option maxHeartbeats 4000000 in
set_option maxRecDepth 100000 in
theorem x_X_meanI (l : Launch) (htr : l.stackTraces = false) (D : va_G) (ci : Nat → ClassId) (ad : Nat → Nat) (g : TS) (tc td : Int32) (tn : Nat → Int32) (u v : Int32) (hv1 : 1 ≤ v.toInt ∧ v.toInt ≤ 2000) (hv0 : ¬ (0 ≤ u.toInt ∧ u.toInt + v.toInt ≤ (tt_fst g 10 : Nat))) : vx_Met l y_X_mean (wT y_X_mean b_X_mean 6 (some .int)) ({ frames := 6, cells := 1, slots := 6, locals := 82 }) (tb (wXE D ci ad g tc td tn) [.ref (ad 0), .int u, .int v]) tw_N (vx_X (fun _ : Unit => True) (fun E _ _ => E = eI) (fun _ => False)) 1 6 tq_n := by
  refine vx_ofW (cc := b_X_mean) (maxL := 6) (ret := (some .int)) (by decide) rfl ?_
  intro p e s m args below meth c s₁ B hml hno hv
  obtain ⟨rfl, ⟨hK, hg, hX⟩, hE⟩ := hv
  have hx := B.exec
  have hb := B.bytes
  have hr := B.returns
  have hts := atoms_spec (ws := wT y_X_mean b_X_mean 6 (some .int)) B.pre
  have hT : ∀ w ∈ TT, w ∈ wT y_X_mean b_X_mean 6 (some .int) := wT_T
  have hown : s.vm.findClass RX = some m.cls := findClass_of_methodNamed B.named
  have hlocks := B.notSynchronized
  have hl := lv_entry ([.ref (ad 0), .int u, .int v]) (n := 6) (Nat.le_of_ble_eq_true rfl)
  rw [lg_entry_eq]
  generalize (lg_sl ([.ref (ad 0), .int u, .int v]) ++ List.replicate (6 - (lg_sl ([.ref (ad 0), .int u, .int v])).length) Slot.unset).toArray = ls at hl ⊢
  have hl : lv_has ls 6 [(0, .ref (ad 0)), (1, .int u), (2, .int v)] := hl
  have hdb := tt_db_in hg.2.2.2 10 (Nat.le_refl _)
  have hf10 : tt_fst g 10 = 1440 * tt_db (tt_day g) 10 := rfl
  refine lv_iload_n hx hb d_X_mean_0 rfl (lv_at hl 2 rfl) ?_
  refine lv_iconst hx hb d_X_mean_1 (v := (nI 1)) rfl ?_
  refine lv_icmp_lt hx hb d_X_mean_2 (tgt := 12) (by decide) (fun q1 => ?_) (fun q1 => ?_)
  · have q1 := Int32.lt_iff_toInt_lt.mp q1
    rw [nI_toInt (n := 1) (by decide)] at q1
    exfalso
    omega
  · have q1 := mt Int32.lt_iff_toInt_lt.mpr q1
    rw [nI_toInt (n := 1) (by decide)] at q1
    refine lv_iload_n hx hb d_X_mean_5 rfl (lv_at hl 2 rfl) ?_
    refine lv_sipush hx hb d_X_mean_6 (v := (nI 2000)) rfl ?_
    refine lv_icmp_le hx hb d_X_mean_9 (tgt := 22) (by decide) (fun q2 => ?_) (fun q2 => ?_)
    · have q2 := Int32.le_iff_toInt_le.mp q2
      rw [nI_toInt (n := 2000) (by decide)] at q2
      refine lv_iload_n hx hb d_X_mean_22 rfl (lv_at hl 1 rfl) ?_
      refine lv_if_lt hx hb d_X_mean_23 (tgt := 39) (by decide) (fun q3 => ?_) (fun q3 => ?_)
      · have q3 := iv_lt0.mp q3
        exact tw_I hx hb htr hown (fun w h => hts w (hT w h)) hE (fun _ _ _ h => h) (is := 101) (text := "no such minute") (by decide) va_S.rf (hl.1.trans hml.symm) d_X_mean_39 d_X_mean_42 d_X_mean_43 d_X_mean_45 d_X_mean_48 hno ⟨by decide, by decide, by decide, by decide⟩ hlocks (fun t ha h1 h2 => ⟨(), trivial, rfl, h1, fun q hq _ => h2 q hq⟩) (fun z hz => nomatch hz) (Nat.le_refl _) (Nat.le_refl _)
      · have q3 := mt iv_lt0.mpr q3
        refine lv_iload_n hx hb d_X_mean_26 rfl (lv_at hl 1 rfl) ?_
        refine lv_aload_n hx hb d_X_mean_27 rfl (lv_at hl 0 rfl) ?_
        refine va_get hx hb hts (fun w h => hT w (uX_in w h)) hown hK hX.1 0 rfl rfl 6 (by decide) (hts _ (hT _ k_X_30)) (fun _ h => h) rfl d_X_mean_28 ?_
        refine lv_bipush hx hb d_X_mean_31 (v := (nI 10)) rfl ?_
        refine tq_iald hx hb hK hX.1 6 0 rfl rfl (by decide) (by decide) d_X_mean_33 ?_
        refine lv_iload_n hx hb d_X_mean_34 rfl (lv_at hl 2 rfl) ?_
        refine lv_isub hx hb d_X_mean_35 ?_
        have e5 : (nI (tt_fst g 10) - v).toInt = (tt_fst g 10 : Nat) - v.toInt := by rw [Jvm.Kit.i32_sub (by rw [nI_toInt (by omega)]; omega) (by rw [nI_toInt (by omega)]; omega), nI_toInt (by omega)]
        refine lv_icmp_le hx hb d_X_mean_36 (tgt := 49) (by decide) (fun q4 => ?_) (fun q4 => ?_)
        · have q4 := Int32.le_iff_toInt_le.mp q4
          exfalso
          omega
        · have q4 := mt Int32.le_iff_toInt_le.mpr q4
          exact tw_I hx hb htr hown (fun w h => hts w (hT w h)) hE (fun _ _ _ h => h) (is := 101) (text := "no such minute") (by decide) va_S.rf (hl.1.trans hml.symm) d_X_mean_39 d_X_mean_42 d_X_mean_43 d_X_mean_45 d_X_mean_48 hno ⟨by decide, by decide, by decide, by decide⟩ hlocks (fun t ha h1 h2 => ⟨(), trivial, rfl, h1, fun q hq _ => h2 q hq⟩) (fun z hz => nomatch hz) (Nat.le_refl _) (Nat.le_refl _)
    · have q2 := mt Int32.le_iff_toInt_le.mpr q2
      rw [nI_toInt (n := 2000) (by decide)] at q2
      exfalso
      omega
end
section
/-! above. Written by wip/whole/gen.py -/
theorem nI_min {a b : Nat} (ha : a < 2147483648) (hb : b < 2147483648) : (if nI b < nI a then nI b else nI a) = nI (min a b) := by
  by_cases h : b < a
  · rw [if_pos (nI_lt h ha), Nat.min_eq_right (by omega)]
  · rw [if_neg (nI_nlt (by omega) hb), Nat.min_eq_left (by omega)]
/-- the answer of above -/
def tt_abv (o : Option Nat) : Int32 := match o with
  | none => -1
  | some z => nI z
def tt_abn (g : TS) (mm sp : Nat) : Nat := min (tt_fst g 10) (mm + 3000 + sp - 1) - mm
section G19
variable {p : Program} {l : Launch} {e : Env} {R : Room} {s : State} {m : MethodId} {args : Array Value} {below : List Frame} {meth : Method} {c : Code} {H : Heap} {locs : List Loc} {cells slots : Nat} {Q : State → Prop} {Ts : List Cond}
variable {D : va_G} {ci : Nat → ClassId} {ad : Nat → Nat} {g : TS} {tc td : Int32} {tn : Nat → Int32}
set_option maxHeartbeats 4000000 in
set_option maxRecDepth 100000 in
theorem l_X_above (hx : p.tables.exec = Jvm.exec) (hb : c.code = b_X_above) (hts : ∀ w ∈ Ts, w.before args s = true) (hT : ∀ w ∈ TT, w ∈ Ts) (hown : s.vm.findClass RX = some m.cls) (hml : c.maxLocals = 7) (hK : tk D ci s) (hg : tt_ok g) (hX : tx D ci ad g tc td tn H) (hR : 2 + 1 ≤ R.frames ∧ 8 + (6 + 11) + 59 ≤ R.locals) (hf : cells ≤ R.cells ∧ slots ≤ R.slots) {mm sp en : Nat} {v : Int32} (hsp : sp ≤ 1000) (hen : en < 2147480000) {A : Option Nat}
    (k1 : A = none → ∀ ls : Array Slot, W p l e R s m args below meth c H locs cells slots Q (F0 m 113 ls [])) (k2 : ∀ z, A = some z → ∀ ls : Array Slot, W p l e R s m args below meth c H locs cells slots Q (F0 m 106 ls [.int (nI z)])) :
    ∀ (d k r : Nat) (ls : Array Slot), k + d = en → r + mm ≤ k → r < sp → tt_ab (tt_hgt g) v.toInt sp d k r = A → lv_has ls 7 [(6, .int (nI k)), (5, .int (nI r)), (4, .int (nI en)), (0, .ref (ad 0)), (1, .int (nI mm)), (2, .int v), (3, .int (nI sp))] → W p l e R s m args below meth c H locs cells slots Q (F0 m 67 ls []) := by
  intro d
  induction d with
  | zero =>
    intro k r ls hk hr hs hA hl
    refine lv_iload hx hb d_X_above_67 (lv_at hl 0 rfl) ?_
    refine lv_iload hx hb d_X_above_69 (lv_at hl 2 rfl) ?_
    refine lv_icmp_ge hx hb d_X_above_71 (tgt := 113) (by decide) (fun _ => ?_) (fun hno => absurd (nI_le (show en ≤ k by omega) (by omega)) hno)
    exact k1 hA.symm ls
  | succ d ih =>
    intro k r ls hk hr hs hA hl
    have hh := tt_hgt_in hg k
    rw [tt_ab] at hA
    refine lv_iload hx hb d_X_above_67 (lv_at hl 0 rfl) ?_
    refine lv_iload hx hb d_X_above_69 (lv_at hl 2 rfl) ?_
    refine lv_icmp_ge hx hb d_X_above_71 (tgt := 113) (by decide) (fun hyes => absurd hyes (nI_ge (show k < en by omega) (by omega))) (fun _ => ?_)
    refine lv_aload_n hx hb d_X_above_74 rfl (lv_at hl 3 rfl) ?_
    refine lv_iload hx hb d_X_above_75 (lv_at hl 0 rfl) ?_
    refine tq_V ⟨hx, hb, hml, hown, hts⟩ hT (c_X_heightAt l D ci ad g tc td tn (mm := k) (by omega)) lk_X_119 wX_mv ⟨hK, hg, hX⟩ (wX_rc ⟨hK, hg, hX⟩) rfl hl.1 rfl (Nat.le_of_ble_eq_true rfl) d_X_above_77 ⟨rfl, rfl, hR⟩ hf ?_
    refine lv_iload_n hx hb d_X_above_80 rfl (lv_at hl 5 rfl) ?_
    refine lv_icmp_lt hx hb d_X_above_81 (tgt := 91) (by decide) (fun h1 => ?_) (fun h1 => ?_)
    · have h1 := Int32.lt_iff_toInt_lt.mp h1
      rw [iZ_toInt (by omega) (by omega)] at h1
      rw [if_neg (by omega)] at hA
      refine lv_iconst hx hb d_X_above_91 (v := (nI 0)) rfl ?_
      refine lv_istore hx hb d_X_above_92 hl (by decide) (lv' := [(5, .int (nI 0)), (6, .int (nI k)), (4, .int (nI en)), (0, .ref (ad 0)), (1, .int (nI mm)), (2, .int v), (3, .int (nI sp))]) rfl (fun ls hl => ?_)
      refine lv_iload hx hb d_X_above_94 (lv_at hl 0 rfl) ?_
      refine lv_iload_n hx hb d_X_above_96 rfl (lv_at hl 6 rfl) ?_
      refine lv_icmp_ne hx hb d_X_above_97 (tgt := 107) (by decide) (fun _ => ?_) (fun hno => absurd hno (fun z => absurd ((nI_eq (by decide) (by omega)).mp z) (by omega)))
      refine lv_iinc hx hb d_X_above_107 hl (k := 1) rfl (v := (nI (k + 1))) (by rw [show Int32.ofInt 1 = 1 from rfl]; exact nI_1 k) (by decide) (lv' := [(6, .int (nI (k + 1))), (5, .int (nI 0)), (4, .int (nI en)), (0, .ref (ad 0)), (1, .int (nI mm)), (2, .int v), (3, .int (nI sp))]) rfl (fun ls hl => ?_)
      refine lv_goto hx hb d_X_above_110 (tgt := 67) (by decide) ?_
      exact ih (k + 1) 0 ls (by omega) (by omega) (by omega) hA hl
    · have h1 := mt Int32.lt_iff_toInt_lt.mpr h1
      rw [iZ_toInt (by omega) (by omega)] at h1
      rw [if_pos (by omega)] at hA
      refine lv_iload hx hb d_X_above_84 (lv_at hl 1 rfl) ?_
      refine lv_iconst hx hb d_X_above_86 (v := (nI 1)) rfl ?_
      refine lv_iadd hx hb d_X_above_87 ?_
      refine tq_ti (show _ = (nI (r + 1)) from nI_add _ _) ?_
      refine lv_goto hx hb d_X_above_88 (tgt := 92) (by decide) ?_
      refine lv_istore hx hb d_X_above_92 hl (by decide) (lv' := [(5, .int (nI (r + 1))), (6, .int (nI k)), (4, .int (nI en)), (0, .ref (ad 0)), (1, .int (nI mm)), (2, .int v), (3, .int (nI sp))]) rfl (fun ls hl => ?_)
      refine lv_iload hx hb d_X_above_94 (lv_at hl 0 rfl) ?_
      refine lv_iload_n hx hb d_X_above_96 rfl (lv_at hl 6 rfl) ?_
      refine lv_icmp_ne hx hb d_X_above_97 (tgt := 107) (by decide) (fun h2 => ?_) (fun h2 => ?_)
      · have h2 := mt (nI_eq (by omega) (by omega)).mpr h2
        rw [if_neg h2] at hA
        refine lv_iinc hx hb d_X_above_107 hl (k := 1) rfl (v := (nI (k + 1))) (by rw [show Int32.ofInt 1 = 1 from rfl]; exact nI_1 k) (by decide) (lv' := [(6, .int (nI (k + 1))), (5, .int (nI (r + 1))), (4, .int (nI en)), (0, .ref (ad 0)), (1, .int (nI mm)), (2, .int v), (3, .int (nI sp))]) rfl (fun ls hl => ?_)
        refine lv_goto hx hb d_X_above_110 (tgt := 67) (by decide) ?_
        exact ih (k + 1) (r + 1) ls (by omega) (by omega) (by omega) hA hl
      · have h2 := (nI_eq (by omega) (by omega)).mp h2
        rw [if_pos h2] at hA
        refine lv_iload hx hb d_X_above_100 (lv_at hl 1 rfl) ?_
        refine lv_iload_n hx hb d_X_above_102 rfl (lv_at hl 6 rfl) ?_
        refine lv_isub hx hb d_X_above_103 ?_
        refine lv_iconst hx hb d_X_above_104 (v := (nI 1)) rfl ?_
        refine lv_iadd hx hb d_X_above_105 ?_
        refine tq_ti (show _ = (nI (k + 1 - sp)) from (by rw [nI_iZ, nI_iZ, nI_iZ, nI_iZ, iZ_sub, iZ_add]; congr 1; omega)) ?_
        exact k2 _ hA.symm _
end G19
set_option maxHeartbeats 4000000 in
set_option maxRecDepth 100000 in
theorem c_X_above (l : Launch) (D : va_G) (ci : Nat → ClassId) (ad : Nat → Nat) (g : TS) (tc td : Int32) (tn : Nat → Int32) {mm sp : Nat} (v : Int32) (hs1 : 1 ≤ sp) (hs2 : sp ≤ 1000) (hm : mm < tt_fst g 10) : Met l y_X_above (wT y_X_above b_X_above 7 (some .int)) (rP 3 84) (tb (wX D ci ad g tc td tn) [.ref (ad 0), .int (nI mm), .int v, .int (nI sp)]) (tq_P (some (.int (tt_abv (tt_ab (tt_hgt g) v.toInt sp (tt_abn g mm sp) mm 0))))) 0 0 tq_n := by
  refine Met.ofW (cc := b_X_above) (maxL := 7) (ret := (some .int)) (by decide) rfl ?_
  intro p e s m args below meth c s₁ B hml hv
  obtain ⟨rfl, hK, hg, hX⟩ := hv
  have hx := B.exec
  have hb := B.bytes
  have hr := B.returns
  have hts := atoms_spec (ws := wT y_X_above b_X_above 7 (some .int)) B.pre
  have hT : ∀ w ∈ TT, w ∈ wT y_X_above b_X_above 7 (some .int) := wT_T
  have hown : s.vm.findClass RX = some m.cls := findClass_of_methodNamed B.named
  have hlocks := B.notSynchronized
  have hl := lv_entry ([.ref (ad 0), .int (nI mm), .int v, .int (nI sp)]) (n := 7) (Nat.le_of_ble_eq_true rfl)
  rw [lg_entry_eq]
  generalize (lg_sl ([.ref (ad 0), .int (nI mm), .int v, .int (nI sp)]) ++ List.replicate (7 - (lg_sl ([.ref (ad 0), .int (nI mm), .int v, .int (nI sp)])).length) Slot.unset).toArray = ls at hl ⊢
  have hl : lv_has ls 7 [(0, .ref (ad 0)), (1, .int (nI mm)), (2, .int v), (3, .int (nI sp))] := hl
  have hdb := tt_db_in hg.2.2.2 10 (Nat.le_refl _)
  have hf10 : tt_fst g 10 = 1440 * tt_db (tt_day g) 10 := rfl
  have ev : (nI mm).toInt = mm := nI_toInt (by omega)
  have en : (nI sp).toInt = sp := nI_toInt (by omega)
  refine lv_iload_n hx hb d_X_above_0 rfl (lv_at hl 3 rfl) ?_
  refine lv_iconst hx hb d_X_above_1 (v := (nI 1)) rfl ?_
  refine lv_icmp_lt hx hb d_X_above_2 (tgt := 12) (by decide) (fun q1 => ?_) (fun q1 => ?_)
  · have q1 := Int32.lt_iff_toInt_lt.mp q1
    rw [nI_toInt (n := 1) (by decide)] at q1
    exfalso
    omega
  · have q1 := mt Int32.lt_iff_toInt_lt.mpr q1
    rw [nI_toInt (n := 1) (by decide)] at q1
    refine lv_iload_n hx hb d_X_above_5 rfl (lv_at hl 3 rfl) ?_
    refine lv_sipush hx hb d_X_above_6 (v := (nI 1000)) rfl ?_
    refine lv_icmp_le hx hb d_X_above_9 (tgt := 22) (by decide) (fun q2 => ?_) (fun q2 => ?_)
    · have q2 := Int32.le_iff_toInt_le.mp q2
      rw [nI_toInt (n := 1000) (by decide)] at q2
      refine lv_aload_n hx hb d_X_above_22 rfl (lv_at hl 0 rfl) ?_
      refine lv_iload_n hx hb d_X_above_23 rfl (lv_at hl 1 rfl) ?_
      refine tq_V ⟨hx, hb, hml, hown, hts⟩ hT (c_X_isMinute l D ci ad g tc td tn (nI mm)) lk_X_98 wX_mv ⟨hK, hg, hX⟩ (wX_rc ⟨hK, hg, hX⟩) rfl hl.1 rfl (Nat.le_of_ble_eq_true rfl) d_X_above_24 ⟨rfl, rfl, Nat.le_of_ble_eq_true rfl, Nat.le_of_ble_eq_true rfl⟩ ⟨Nat.zero_le _, Nat.zero_le _⟩ ?_
      refine lv_if_ne hx hb d_X_above_27 (tgt := 40) (by decide) (fun q3 => ?_) (fun q3 => ?_)
      · have q3 := zb_t q3
        refine lv_aload_n hx hb d_X_above_40 rfl (lv_at hl 0 rfl) ?_
        refine va_get hx hb hts (fun w h => hT w (uX_in w h)) hown hK hX.1 0 rfl rfl 6 (by decide) (hts _ (hT _ k_X_30)) (fun _ h => h) rfl d_X_above_41 ?_
        refine lv_bipush hx hb d_X_above_44 (v := (nI 10)) rfl ?_
        refine tq_iald hx hb hK hX.1 6 0 rfl rfl (by decide) (by decide) d_X_above_46 ?_
        refine lv_iload_n hx hb d_X_above_47 rfl (lv_at hl 1 rfl) ?_
        refine lv_sipush hx hb d_X_above_48 (v := (nI 3000)) rfl ?_
        refine lv_iadd hx hb d_X_above_51 ?_
        refine tq_ti (show _ = (nI (mm + 3000)) from nI_add _ _) ?_
        refine lv_iload_n hx hb d_X_above_52 rfl (lv_at hl 3 rfl) ?_
        refine lv_iadd hx hb d_X_above_53 ?_
        refine tq_ti (show _ = (nI (mm + 3000 + sp)) from nI_add _ _) ?_
        refine lv_iconst hx hb d_X_above_54 (v := (nI 1)) rfl ?_
        refine lv_isub hx hb d_X_above_55 ?_
        refine tq_ti (show _ = (nI (mm + 3000 + sp - 1)) from pk_sub (by omega)) ?_
        refine va_mmin hx hb (hml.trans hl.1.symm) hown (hts _ (hT _ km_min_l)) (hts _ (hT _ km_min_s)) (hts _ (hT _ k_ini_Math)) (hts _ (hT _ km_min_c)) (Nat.le_of_ble_eq_true rfl) (Nat.le_of_ble_eq_true rfl) (Nat.zero_le _) (Nat.zero_le _) d_X_above_56 ?_
        refine tq_ti (show _ = (nI (min (tt_fst g 10) (mm + 3000 + sp - 1))) from nI_min (by omega) (by omega)) ?_
        refine lv_istore hx hb d_X_above_59 hl (by decide) (lv' := [(4, .int (nI (min (tt_fst g 10) (mm + 3000 + sp - 1)))), (0, .ref (ad 0)), (1, .int (nI mm)), (2, .int v), (3, .int (nI sp))]) rfl (fun ls hl => ?_)
        refine lv_iconst hx hb d_X_above_61 (v := (nI 0)) rfl ?_
        refine lv_istore hx hb d_X_above_62 hl (by decide) (lv' := [(5, .int (nI 0)), (4, .int (nI (min (tt_fst g 10) (mm + 3000 + sp - 1)))), (0, .ref (ad 0)), (1, .int (nI mm)), (2, .int v), (3, .int (nI sp))]) rfl (fun ls hl => ?_)
        refine lv_iload_n hx hb d_X_above_64 rfl (lv_at hl 3 rfl) ?_
        refine lv_istore hx hb d_X_above_65 hl (by decide) (lv' := [(6, .int (nI mm)), (5, .int (nI 0)), (4, .int (nI (min (tt_fst g 10) (mm + 3000 + sp - 1)))), (0, .ref (ad 0)), (1, .int (nI mm)), (2, .int v), (3, .int (nI sp))]) rfl (fun ls hl => ?_)
        have hmn : mm + tt_abn g mm sp = min (tt_fst g 10) (mm + 3000 + sp - 1) := by unfold tt_abn; omega
        refine l_X_above hx hb hts hT hown hml hK hg hX ⟨Nat.le_of_ble_eq_true rfl, Nat.le_of_ble_eq_true rfl⟩ ⟨Nat.zero_le _, Nat.zero_le _⟩ hs2 (by omega) (A := tt_ab (tt_hgt g) v.toInt sp (tt_abn g mm sp) mm 0) (fun hA ls => ?_) (fun z hA ls => ?_) (tt_abn g mm sp) mm 0 ls hmn (by omega) (by omega) rfl hl
        · refine lv_iconst hx hb d_X_above_113 (v := (-1)) rfl ?_
          exact W.iret hx hb hr (fun t ht hW => ⟨_, rfl, ⟨(by rw [hA]; rfl), ht⟩⟩) (fun q hq => nomatch hq) d_X_above_114
        · exact W.iret hx hb hr (fun t ht hW => ⟨_, rfl, ⟨(by rw [hA]; rfl), ht⟩⟩) (fun q hq => nomatch hq) d_X_above_106
      · have q3 := zb_f q3
        exfalso
        omega
    · have q2 := mt Int32.le_iff_toInt_le.mpr q2
      rw [nI_toInt (n := 1000) (by decide)] at q2
      exfalso
      omega
set_option maxHeartbeats 4000000 in
set_option maxRecDepth 100000 in
theorem x_X_aboveA (l : Launch) (htr : l.stackTraces = false) (D : va_G) (ci : Nat → ClassId) (ad : Nat → Nat) (g : TS) (tc td : Int32) (tn : Nat → Int32) (u v z : Int32) (hv0 : ¬ (1 ≤ z.toInt ∧ z.toInt ≤ 1000)) : vx_Met l y_X_above (wT y_X_above b_X_above 7 (some .int)) ({ frames := 6, cells := 1, slots := 6, locals := 82 }) (tb (wXE D ci ad g tc td tn) [.ref (ad 0), .int u, .int v, .int z]) tw_N (vx_X (fun _ : Unit => True) (fun E _ _ => E = eA) (fun _ => False)) 1 6 tq_n := by
  refine vx_ofW (cc := b_X_above) (maxL := 7) (ret := (some .int)) (by decide) rfl ?_
  intro p e s m args below meth c s₁ B hml hno hv
  obtain ⟨rfl, ⟨hK, hg, hX⟩, hE⟩ := hv
  have hx := B.exec
  have hb := B.bytes
  have hr := B.returns
  have hts := atoms_spec (ws := wT y_X_above b_X_above 7 (some .int)) B.pre
  have hT : ∀ w ∈ TT, w ∈ wT y_X_above b_X_above 7 (some .int) := wT_T
  have hown : s.vm.findClass RX = some m.cls := findClass_of_methodNamed B.named
  have hlocks := B.notSynchronized
  have hl := lv_entry ([.ref (ad 0), .int u, .int v, .int z]) (n := 7) (Nat.le_of_ble_eq_true rfl)
  rw [lg_entry_eq]
  generalize (lg_sl ([.ref (ad 0), .int u, .int v, .int z]) ++ List.replicate (7 - (lg_sl ([.ref (ad 0), .int u, .int v, .int z])).length) Slot.unset).toArray = ls at hl ⊢
  have hl : lv_has ls 7 [(0, .ref (ad 0)), (1, .int u), (2, .int v), (3, .int z)] := hl
  refine lv_iload_n hx hb d_X_above_0 rfl (lv_at hl 3 rfl) ?_
  refine lv_iconst hx hb d_X_above_1 (v := (nI 1)) rfl ?_
  refine lv_icmp_lt hx hb d_X_above_2 (tgt := 12) (by decide) (fun q1 => ?_) (fun q1 => ?_)
  · have q1 := Int32.lt_iff_toInt_lt.mp q1
    rw [nI_toInt (n := 1) (by decide)] at q1
    exact tw_A hx hb htr hown (fun w h => hts w (hT w h)) hE (fun _ _ _ h => h) (is := 165) (text := "no such span") (by decide) va_S.rf (hl.1.trans hml.symm) d_X_above_12 d_X_above_15 d_X_above_16 d_X_above_18 d_X_above_21 hno ⟨by decide, by decide, by decide, by decide⟩ hlocks (fun t ha h1 h2 => ⟨(), trivial, rfl, h1, fun q hq _ => h2 q hq⟩) (fun z hz => nomatch hz) (Nat.le_refl _) (Nat.le_refl _)
  · have q1 := mt Int32.lt_iff_toInt_lt.mpr q1
    rw [nI_toInt (n := 1) (by decide)] at q1
    refine lv_iload_n hx hb d_X_above_5 rfl (lv_at hl 3 rfl) ?_
    refine lv_sipush hx hb d_X_above_6 (v := (nI 1000)) rfl ?_
    refine lv_icmp_le hx hb d_X_above_9 (tgt := 22) (by decide) (fun q2 => ?_) (fun q2 => ?_)
    · have q2 := Int32.le_iff_toInt_le.mp q2
      rw [nI_toInt (n := 1000) (by decide)] at q2
      exfalso
      omega
    · have q2 := mt Int32.le_iff_toInt_le.mpr q2
      rw [nI_toInt (n := 1000) (by decide)] at q2
      exact tw_A hx hb htr hown (fun w h => hts w (hT w h)) hE (fun _ _ _ h => h) (is := 165) (text := "no such span") (by decide) va_S.rf (hl.1.trans hml.symm) d_X_above_12 d_X_above_15 d_X_above_16 d_X_above_18 d_X_above_21 hno ⟨by decide, by decide, by decide, by decide⟩ hlocks (fun t ha h1 h2 => ⟨(), trivial, rfl, h1, fun q hq _ => h2 q hq⟩) (fun z hz => nomatch hz) (Nat.le_refl _) (Nat.le_refl _)
set_option maxHeartbeats 4000000 in
set_option maxRecDepth 100000 in
theorem x_X_aboveI (l : Launch) (htr : l.stackTraces = false) (D : va_G) (ci : Nat → ClassId) (ad : Nat → Nat) (g : TS) (tc td : Int32) (tn : Nat → Int32) (u v z : Int32) (hv1 : 1 ≤ z.toInt ∧ z.toInt ≤ 1000) (hv0 : ¬ (0 ≤ u.toInt ∧ u.toInt < (tt_fst g 10 : Nat))) : vx_Met l y_X_above (wT y_X_above b_X_above 7 (some .int)) ({ frames := 6, cells := 1, slots := 6, locals := 82 }) (tb (wXE D ci ad g tc td tn) [.ref (ad 0), .int u, .int v, .int z]) tw_N (vx_X (fun _ : Unit => True) (fun E _ _ => E = eI) (fun _ => False)) 1 6 tq_n := by
  refine vx_ofW (cc := b_X_above) (maxL := 7) (ret := (some .int)) (by decide) rfl ?_
  intro p e s m args below meth c s₁ B hml hno hv
  obtain ⟨rfl, ⟨hK, hg, hX⟩, hE⟩ := hv
  have hx := B.exec
  have hb := B.bytes
  have hr := B.returns
  have hts := atoms_spec (ws := wT y_X_above b_X_above 7 (some .int)) B.pre
  have hT : ∀ w ∈ TT, w ∈ wT y_X_above b_X_above 7 (some .int) := wT_T
  have hown : s.vm.findClass RX = some m.cls := findClass_of_methodNamed B.named
  have hlocks := B.notSynchronized
  have hl := lv_entry ([.ref (ad 0), .int u, .int v, .int z]) (n := 7) (Nat.le_of_ble_eq_true rfl)
  rw [lg_entry_eq]
  generalize (lg_sl ([.ref (ad 0), .int u, .int v, .int z]) ++ List.replicate (7 - (lg_sl ([.ref (ad 0), .int u, .int v, .int z])).length) Slot.unset).toArray = ls at hl ⊢
  have hl : lv_has ls 7 [(0, .ref (ad 0)), (1, .int u), (2, .int v), (3, .int z)] := hl
  refine lv_iload_n hx hb d_X_above_0 rfl (lv_at hl 3 rfl) ?_
  refine lv_iconst hx hb d_X_above_1 (v := (nI 1)) rfl ?_
  refine lv_icmp_lt hx hb d_X_above_2 (tgt := 12) (by decide) (fun q1 => ?_) (fun q1 => ?_)
  · have q1 := Int32.lt_iff_toInt_lt.mp q1
    rw [nI_toInt (n := 1) (by decide)] at q1
    exfalso
    omega
  · have q1 := mt Int32.lt_iff_toInt_lt.mpr q1
    rw [nI_toInt (n := 1) (by decide)] at q1
    refine lv_iload_n hx hb d_X_above_5 rfl (lv_at hl 3 rfl) ?_
    refine lv_sipush hx hb d_X_above_6 (v := (nI 1000)) rfl ?_
    refine lv_icmp_le hx hb d_X_above_9 (tgt := 22) (by decide) (fun q2 => ?_) (fun q2 => ?_)
    · have q2 := Int32.le_iff_toInt_le.mp q2
      rw [nI_toInt (n := 1000) (by decide)] at q2
      refine lv_aload_n hx hb d_X_above_22 rfl (lv_at hl 0 rfl) ?_
      refine lv_iload_n hx hb d_X_above_23 rfl (lv_at hl 1 rfl) ?_
      refine tq_V ⟨hx, hb, hml, hown, hts⟩ hT (c_X_isMinute l D ci ad g tc td tn u) lk_X_98 wX_mv ⟨hK, hg, hX⟩ (wX_rc ⟨hK, hg, hX⟩) rfl hl.1 rfl (Nat.le_of_ble_eq_true rfl) d_X_above_24 ⟨rfl, rfl, Nat.le_of_ble_eq_true rfl, Nat.le_of_ble_eq_true rfl⟩ ⟨Nat.zero_le _, Nat.zero_le _⟩ ?_
      refine lv_if_ne hx hb d_X_above_27 (tgt := 40) (by decide) (fun q3 => ?_) (fun q3 => ?_)
      · have q3 := zb_t q3
        exfalso
        omega
      · have q3 := zb_f q3
        exact tw_I hx hb htr hown (fun w h => hts w (hT w h)) hE (fun _ _ _ h => h) (is := 101) (text := "no such minute") (by decide) va_S.rf (hl.1.trans hml.symm) d_X_above_30 d_X_above_33 d_X_above_34 d_X_above_36 d_X_above_39 hno ⟨by decide, by decide, by decide, by decide⟩ hlocks (fun t ha h1 h2 => ⟨(), trivial, rfl, h1, fun q hq _ => h2 q hq⟩) (fun z hz => nomatch hz) (Nat.le_refl _) (Nat.le_refl _)
    · have q2 := mt Int32.le_iff_toInt_le.mpr q2
      rw [nI_toInt (n := 1000) (by decide)] at q2
      exfalso
      omega
end
section
/-! rows that write one cell: it holds the new contents, every other cell is as it was -/
section TWR
variable {p : Program} {l : Launch} {e : Env} {R : Room} {s : State} {m : MethodId} {args : Array Value} {below : List Frame} {meth : Method} {c : Code} {H : Heap} {locs : List Loc} {cells slots : Nat} {Q : State → Prop}
variable {pc n a0 : Nat} {ls : Array Slot} {rest : List Value} {cc : ByteArray} {D : va_G} {cl : List vw_C} {tys : List (ClassId × FieldType)} {F : Nat → Prop}
theorem tq_iast (hexec : p.tables.exec = Jvm.exec) (hb : c.code = cc) (hK : va_K D cl tys s) (t0 : Nat) {cA : ClassId} {f : Nat → Int32} {j : Nat} {x : Int32} (hP : va_P D cl [(a0, .inl (cA, n, .inl f))] H) (ht : tys[t0]? = some (cA, .int)) (hj : j < n) (hn : n < 2 ^ 31) (hF : F a0) (hL : ∀ q ∈ locs, F q.base) (hdg : decode cc pc = .ok (.iastore, 1))
    (kk : ∀ (H1 : Heap) (locs1 : List Loc), va_P D cl [(a0, .inl (cA, n, .inl (upd f j x)))] H1 → H1.size = H.size → (∀ q : Nat, q ≠ a0 → H1[q]? = H[q]?) → (∀ q ∈ locs1, F q.base) → W p l e R s m args below meth c H1 locs1 cells slots Q (F0 m (pc + 1) ls rest)) : W p l e R s m args below meth c H locs cells slots Q (F0 m pc ls (.int x :: .int (nI j) :: .ref a0 :: rest)) := by
  refine W.iast hexec hb (hP 0 _ rfl) ((hK.2 t0 _ ht).1 n (fun j => .int (f j))) (fun q => by cases q) (by show ¬ (nI j < 0 ∨ (arrV _ _ _).slots.size ≤ _); rw [arrV_size]; exact vp_in_nI hj hn) rfl rfl hdg fun H1 e1 z oq => ?_
  refine kk H1 _ ?_ z oq (fun q hq => ?_)
  · intro k q hk
    match k, hk with
    | 0, rfl =>
      show H1[a0]? = some (vp_cell _ _)
      rw [e1, nI_clamp (by omega), vp_cell_i, vp_cell_i, arrV_store]
      congr 2
      funext i
      by_cases h : i = j
      · subst h; simp [updV, upd]
      · simp [updV, upd, h]
  · rcases List.mem_append.mp hq with h | h
    · exact hL q h
    · rw [List.mem_singleton.mp h]; exact hF
theorem tq_last (hexec : p.tables.exec = Jvm.exec) (hb : c.code = cc) (hK : va_K D cl tys s) (t0 : Nat) {cA : ClassId} {f : Nat → Int64} {j : Nat} {x : Int64} (hP : va_P D cl [(a0, .inl (cA, n, .inr (.inl f)))] H) (ht : tys[t0]? = some (cA, .long)) (hj : j < n) (hn : n < 2 ^ 31) (hF : F a0) (hL : ∀ q ∈ locs, F q.base) (hdg : decode cc pc = .ok (.lastore, 1))
    (kk : ∀ (H1 : Heap) (locs1 : List Loc), va_P D cl [(a0, .inl (cA, n, .inr (.inl (vp_updL f j x))))] H1 → H1.size = H.size → (∀ q : Nat, q ≠ a0 → H1[q]? = H[q]?) → (∀ q ∈ locs1, F q.base) → W p l e R s m args below meth c H1 locs1 cells slots Q (F0 m (pc + 1) ls rest)) : W p l e R s m args below meth c H locs cells slots Q (F0 m pc ls (.long x :: .int (nI j) :: .ref a0 :: rest)) := by
  refine W.last hexec hb (hP 0 _ rfl) ((hK.2 t0 _ ht).1 n (fun j => .long (f j))) (fun q => by cases q) (by show ¬ (nI j < 0 ∨ (arrV _ _ _).slots.size ≤ _); rw [arrV_size]; exact vp_in_nI hj hn) rfl rfl hdg fun H1 e1 z oq => ?_
  refine kk H1 _ ?_ z oq (fun q hq => ?_)
  · intro k q hk
    match k, hk with
    | 0, rfl =>
      show H1[a0]? = some (vp_cell _ _)
      rw [e1, nI_clamp (by omega), vp_cell_l, vp_cell_l, arrV_store]
      congr 2
      funext i
      by_cases h : i = j
      · subst h; simp [updV, vp_updL]
      · simp [updV, vp_updL, h]
  · rcases List.mem_append.mp hq with h | h
    · exact hL q h
    · rw [List.mem_singleton.mp h]; exact hF
theorem tq_put (hexec : p.tables.exec = Jvm.exec) (hb : c.code = cc) {own ref C : String} {T : u_T} {N ci index : Nat} {Ts : List Cond} (hts : ∀ w ∈ Ts, w.before args s = true) (hin : ∀ w ∈ u_ws C T N, w ∈ Ts) (ty0 : Nat → FieldType) (hty : ∀ k, k < N → parseFieldDescriptor (T k).2.2.1 = some (ty0 k)) (hnm : ∀ a, a < N → ∀ b, b < N → a ≠ b → (T a).2.1 ≠ (T b).2.1) (hown : s.vm.findClass own = some m.cls) (hK : va_K D cl tys s) {fs : List Value} (hP : va_P D cl [(a0, .inr (ci, fs))] H) (hc : cl[ci]? = some (C, T, N)) (k : Nat) (hk : k < N)
    (hlink : (Cond.fieldLink own index ref (T k).2.1 (T k).2.2.1).before args s = true) (hsame : ∀ x, s.fieldFound? (T k).1 (T k).2.1 (T k).2.2.1 = some x → s.fieldFound? ref (T k).2.1 (T k).2.2.1 = some x) (hfin : (T k).2.2.2 = false) {ty : FieldType} {v : Value} (hd : parseFieldDescriptor (T k).2.2.1 = some ty) (hn : narrow ty v = v) (hfit : fits ty v = true) (hl : k < fs.length) (hF : F a0) (hL : ∀ q ∈ locs, F q.base) (hdg : decode cc pc = .ok (.putfield index, 3))
    (kk : ∀ (H1 : Heap) (locs1 : List Loc), va_P D cl [(a0, .inr (ci, fs.set k v))] H1 → H1.size = H.size → (∀ q : Nat, q ≠ a0 → H1[q]? = H[q]?) → (∀ q ∈ locs1, F q.base) → W p l e R s m args below meth c H1 locs1 cells slots Q (F0 m (pc + 3) ls rest)) : W p l e R s m args below meth c H locs cells slots Q (F0 m pc ls (v :: .ref a0 :: rest)) := by
  have hap := va_apart (own := own) hts hin ty0 hty hnm hK hc
  obtain ⟨r, h1, cell, q1, q2, q3, q4⟩ := hP 0 _ rfl
  have hr : r = (C, T, N) := Option.some.inj (h1.symm.trans hc)
  subst hr
  obtain ⟨hS, hfc, kC, hkC, hkind⟩ := hK.1 ci _ hc
  obtain ⟨cf, kf, fi, f, hi, hsl⟩ := hS k hk
  have hlay := hts _ (hin _ (u_in_lay hk))
  unfold u_lay at hlay
  rw [if_neg (by rw [hfin]; decide)] at hlay
  refine W.putK hexec hb (f := f) ⟨hown, hlink, ⟨_, _, _, hsame _ hi⟩, (u_facts hfc hkC (u_lays hts hin hk) hi).1⟩ (by rw [q2]; exact u_store hfc hkC hkind hlay hi hd hn hfit) q1 q3 (by rw [hsl]; exact k2_hasslot (q4 k hk)) rfl rfl hdg fun H' e1 e2 e3 => ?_
  rw [hsl] at e1
  refine kk H' _ ?_ e2 e3 (fun q hq => ?_)
  · intro i q hk9
    match i, hk9 with
    | 0, rfl => exact ⟨_, hc, t_OB.to (V := updV (vp_V fs) k v) ⟨_, e1, q2, q3, t_set q4 hap hk v⟩ (fun j _ => vp_updV_set hl v j)⟩
  · rcases List.mem_append.mp hq with h | h
    · exact hL q h
    · rw [List.mem_singleton.mp h]; exact hF
end TWR
/-! worlds, cell by cell -/
theorem vP_cons {D : va_G} {cl : List vw_C} {x : Nat × va_E} {ws : va_W} {H : Heap} (h1 : va_P D cl [x] H) (h2 : va_P D cl ws H) : va_P D cl (x :: ws) H := by
  intro k q hk
  cases k with
  | zero => exact h1 0 q hk
  | succ k => exact h2 k q hk
theorem vP_but {D : va_G} {cl : List vw_C} {ws : va_W} {H H1 : Heap} {a : Nat} (h : va_P D cl ws H) (hn : ∀ x ∈ ws, x.1 ≠ a) (hq : ∀ q : Nat, q ≠ a → H1[q]? = H[q]?) : va_P D cl ws H1 := h.kept (fun _ q hk => hq q.1 (hn q (List.mem_of_getElem? hk)))
theorem vP_same {D : va_G} {cl : List vw_C} {a : Nat} {cA : ClassId} {n : Nat} {f f' : Nat → Int32} {H : Heap} (h : va_P D cl [(a, .inl (cA, n, .inl f))] H) (he : ∀ j, j < n → f j = f' j) : va_P D cl [(a, .inl (cA, n, .inl f'))] H := by
  intro k q hk
  match k, hk with
  | 0, rfl =>
    have h0 := h 0 _ rfl
    show H[a]? = some (vp_cell _ _)
    rw [show H[a]? = some (vp_cell cA (n, .inl f)) from h0, vp_cell_i, vp_cell_i]
    unfold arrV
    congr 2
    apply Array.ext
    · simp
    · intro i h1 h2
      simp only [Array.size_ofFn] at h1
      simp [he i h1]
/-- the addresses of an object's cells are apart -/
def tx_D (ad : Nat → Nat) : Prop := ∀ i j, i < 24 → j < 24 → ad i = ad j → i = j
theorem tx_D.ne {ad : Nat → Nat} (h : tx_D ad) {i j : Nat} (hi : i < 24) (hj : j < 24) (hn : i ≠ j) : ad i ≠ ad j := fun q => hn (h i j hi hj q)
def txF (ad : Nat → Nat) : Nat → Prop := fun q => ∃ k, k < 24 ∧ q = ad k
/-- nothing is made, and only the object's cells have changed -/
def txO (ad : Nat → Nat) (H H1 : Heap) : Prop := H1.size = H.size ∧ ∀ q : Nat, ¬ txF ad q → H1[q]? = H[q]?
theorem txO.rf {ad : Nat → Nat} {H : Heap} : txO ad H H := ⟨rfl, fun _ _ => rfl⟩
theorem txO.tr {ad : Nat → Nat} {H H1 H2 : Heap} (h1 : txO ad H H1) (h2 : txO ad H1 H2) : txO ad H H2 := ⟨h2.1.trans h1.1, fun q hq => (h2.2 q hq).trans (h1.2 q hq)⟩
theorem txO.put {ad : Nat → Nat} {H H1 : Heap} {k : Nat} (hk : k < 24) (hz : H1.size = H.size) (hq : ∀ q : Nat, q ≠ ad k → H1[q]? = H[q]?) : txO ad H H1 := ⟨hz, fun q h => hq q (fun z => h ⟨k, hk, z⟩)⟩
section TXU
variable {D : va_G} {ci : Nat → ClassId} {ad : Nat → Nat} {g : TS} {tc td : Int32} {tn : Nat → Int32} {H H1 : Heap}
theorem tx_one (h : tx D ci ad g tc td tn H) (k : Nat) {x : Nat × va_E} (hx : (tx_w ci ad g tc td tn)[k]? = some x) : va_P D tcl [x] H := by
  intro i q hi
  match i, hi with
  | 0, rfl => exact h.1 k _ hx
theorem tx_keep (h : tx D ci ad g tc td tn H) (hq : ∀ k, k < 24 → H1[ad k]? = H[ad k]?) : tx D ci ad g tc td tn H1 := by
  refine ⟨h.1.kept (fun k q hk => ?_), fun i hi => (h.2.1 i hi).kept (fun k q hk => ?_), fun i hi => (h.2.2 i hi).kept (fun k q hk => ?_)⟩
  · match k, hk with
    | 0, rfl => exact hq 0 (by decide)
    | 1, rfl => exact hq 1 (by decide)
    | 2, rfl => exact hq 2 (by decide)
    | 3, rfl => exact hq 3 (by decide)
    | 4, rfl => exact hq 4 (by decide)
    | 5, rfl => exact hq 5 (by decide)
    | 6, rfl => exact hq 6 (by decide)
    | 7, rfl => exact hq 7 (by decide)
  · match k, hk with
    | 0, rfl => exact hq (8 + i) (by omega)
  · match k, hk with
    | 0, rfl => exact hq (16 + i) (by omega)
/-- the k-th main cell has changed, the others haven't -/
theorem tx_set (hD : tx_D ad) (h : tx D ci ad g tc td tn H) (k : Nat) (hk : k < 8) {g' : TS} {tc' td' : Int32} {tn' : Nat → Int32} (hf : tt_fac g' = tt_fac g) (hs : tt_shf g' = tt_shf g)
    {x : Nat × va_E} (hx : (tx_w ci ad g' tc' td' tn')[k]? = some x) (hP : va_P D tcl [x] H1) (hw : ∀ j, j ≠ k → (tx_w ci ad g' tc' td' tn')[j]? = (tx_w ci ad g tc td tn)[j]?) (hq : ∀ q : Nat, q ≠ ad k → H1[q]? = H[q]?) : tx D ci ad g' tc' td' tn' H1 := by
  refine ⟨fun j q hj => ?_, fun i hi => ?_, fun i hi => ?_⟩
  · by_cases e : j = k
    · subst e
      cases Option.some.inj (hx.symm.trans hj)
      exact hP 0 _ rfl
    · have hj0 := hj
      rw [hw j e] at hj
      have hne : q.1 ≠ ad k := by
        match j, hj with
        | 0, rfl => exact hD.ne (by omega) (by omega) e
        | 1, rfl => exact hD.ne (by omega) (by omega) e
        | 2, rfl => exact hD.ne (by omega) (by omega) e
        | 3, rfl => exact hD.ne (by omega) (by omega) e
        | 4, rfl => exact hD.ne (by omega) (by omega) e
        | 5, rfl => exact hD.ne (by omega) (by omega) e
        | 6, rfl => exact hD.ne (by omega) (by omega) e
        | 7, rfl => exact hD.ne (by omega) (by omega) e
      exact (h.1 j q hj).kept (hq _ hne)
  · rw [hf]
    exact vP_but (h.2.1 i hi) (fun x hx => by rw [List.mem_singleton.mp hx]; exact hD.ne (by omega) (by omega) (by omega)) hq
  · rw [hs]
    exact vP_but (h.2.2 i hi) (fun x hx => by rw [List.mem_singleton.mp hx]; exact hD.ne (by omega) (by omega) (by omega)) hq
end TXU
/-- what a method of the class that writes begins with, and how it ends -/
def wXD (D : va_G) (ci : Nat → ClassId) (ad : Nat → Nat) (g : TS) (tc td : Int32) (tn : Nat → Int32) (U : State) (H : Heap) : Prop := wX D ci ad g tc td tn U H ∧ tx_D ad
theorem wXD_mv {D : va_G} {ci : Nat → ClassId} {ad : Nat → Nat} {g : TS} {tc td : Int32} {tn : Nat → Int32} : tmov (wXD D ci ad g tc td tn) := fun _ _ _ hW h => ⟨wX_mv _ _ _ hW h.1, h.2⟩
abbrev qX (D : va_G) (ci : Nat → ClassId) (ad : Nat → Nat) (g : TS) (tc td : Int32) (tn : Nat → Int32) (rv : Option Value) : Array Value → State → Outcome → State → Prop := tq_Q (fun v H H1 => v = rv ∧ tx D ci ad g tc td tn H1 ∧ txO ad H H1)
end
section
/-! the class's setters. Written by wip/whole/gen.py -/
def ts_lev (g : TS) (z : Int) : TS := (z, g.2)
def ts_amp (g : TS) (i a : Nat) : TS := (g.1, fun j => if j = i then a else tt_amp g j, g.2.2)
def ts_spd (g : TS) (i a : Nat) : TS := (g.1, g.2.1, fun j => if j = i then a else tt_spd g j, g.2.2.2)
def ts_pha (g : TS) (i a : Nat) : TS := (g.1, g.2.1, g.2.2.1, fun j => if j = i then a else tt_pha g j, g.2.2.2.2)
def ts_fac (g : TS) (i y a : Nat) : TS := (g.1, g.2.1, g.2.2.1, g.2.2.2.1, fun k j => if k = i ∧ j = y then a else tt_fac g k j, g.2.2.2.2.2)
def ts_shf (g : TS) (i y a : Nat) : TS := (g.1, g.2.1, g.2.2.1, g.2.2.2.1, g.2.2.2.2.1, fun k j => if k = i ∧ j = y then a else tt_shf g k j, g.2.2.2.2.2.2)
def ts_day (g : TS) (y n : Nat) : TS := (g.1, g.2.1, g.2.2.1, g.2.2.2.1, g.2.2.2.2.1, g.2.2.2.2.2.1, fun j => if j = y then n else tt_day g j)
theorem up_nI {f : Nat → Nat} {i a : Nat} : upd (fun j => nI (f j)) i (nI a) = fun j => nI (if j = i then a else f j) := by
  funext j
  unfold upd
  split <;> rfl
theorem up_lN {f : Nat → Nat} {i a : Nat} : vp_updL (fun j => lN (f j)) i (lN a) = fun j => lN (if j = i then a else f j) := by
  funext j
  unfold vp_updL
  split <;> rfl
def wXW (D : va_G) (ci : Nat → ClassId) (ad : Nat → Nat) (g : TS) (tc td : Int32) (tn : Nat → Int32) (U : State) (H : Heap) : Prop := tk D ci U ∧ tx D ci ad g tc td tn H ∧ tx_D ad
theorem wXW_mv {D : va_G} {ci : Nat → ClassId} {ad : Nat → Nat} {g : TS} {tc td : Int32} {tn : Nat → Int32} : tmov (wXW D ci ad g tc td tn) := fun _ _ _ hW h => ⟨tk.moved hW h.1, h.2⟩
theorem wXW_rc {D : va_G} {ci : Nat → ClassId} {ad : Nat → Nat} {g : TS} {tc td : Int32} {tn : Nat → Int32} {s : State} {H : Heap} (hK : tk D ci s) (hX : tx D ci ad g tc td tn H) : ∃ cellB : Cell, H[ad 0]? = some cellB ∧ cellB.vm.isStatics = false ∧ s.vm.findClass RX = some cellB.cls := va_recv (q0 := 0) hK hX.1 (q := (RX, TX, 10)) (ci := 0) rfl rfl
theorem tq_VW {p : Program} {l : Launch} {e : Env} {R : Room} {s : State} {m : MethodId} {args : Array Value} {below : List Frame} {meth : Method} {c : Code} {H : Heap} {locs : List Loc} {cells slots : Nat} {Q : State → Prop} {pc : Nat} {ls : Array Slot} {rest st0 : List Value} {cc b : ByteArray} {nL i maxL n : Nat} {own C : String} {y : MethodName} {r : Option FieldType} {rm : Room} {Ts : List Cond} {K : State → Heap → Prop} {As : List Value} {a0 : Addr} {Φ : Option Value → Heap → Heap → Prop} {F : Nat → Prop}
    (S : CallFix p m c cc nL s args Ts own) (hT : ∀ w ∈ TT, w ∈ Ts) (hM : Met l y (wT y b maxL r) rm (tb K (.ref a0 :: As)) (tq_Q Φ) 0 0 F) (k : tkV own i C y b maxL r n) (hmv : tmov K) (hK : K s H) (hrc : ∃ cellB : Cell, H[a0]? = some cellB ∧ cellB.vm.isStatics = false ∧ s.vm.findClass C = some cellB.cls)
    (hn : As.length = n) (hsz : ls.size = nL) (hst : st0 = As.reverse ++ .ref a0 :: rest) (hW : (rest.map fun v => v.category).sum ≤ 8) (hd : decode cc pc = .ok (.invokevirtual i, 3)) (hR : rm.cells = 0 ∧ rm.slots = 0 ∧ rm.frames + 1 ≤ R.frames ∧ 8 + (maxL + 11) + rm.locals ≤ R.locals) (hf : cells ≤ R.cells ∧ slots ≤ R.slots) (hL : ∀ q ∈ locs, F q.base)
    (kk : ∀ (v : Option Value) (H1 : Heap) (locs1 : List Loc), Φ v H H1 → (∀ q ∈ locs1, F q.base) → W p l e R s m args below meth c H1 locs1 cells slots Q (F0 m (pc + 3) ls (v.toList ++ rest))) : W p l e R s m args below meth c H locs cells slots Q (F0 m pc ls st0) :=
  tq_call (va_runV S hM (tcV k S.2.2.2.2 hT hR) (tb_V hmv hK hrc) rfl hn hsz hst (lv_room hW) hd hf) (fun v H1 L hF hL1 => kk v H1 _ hF (fun q hq => (List.mem_append.mp hq).elim (hL q) (hL1 q)))
set_option maxHeartbeats 4000000 in
set_option maxRecDepth 100000 in
theorem c_X_forgetTurns (l : Launch) (D : va_G) (ci : Nat → ClassId) (ad : Nat → Nat) (g : TS) (tc td : Int32) (tn : Nat → Int32) : Met l y_X_forgetTurns (wT y_X_forgetTurns b_X_forgetTurns 1 none) (rP 0 0) (tb (wXW D ci ad g tc td tn) [.ref (ad 0)]) (qX D ci ad g tc (-1) tn none) 0 0 (txF ad) := by
  refine Met.ofW (cc := b_X_forgetTurns) (maxL := 1) (ret := none) (by decide) rfl ?_
  intro p e s m args below meth c s₁ B hml hv
  obtain ⟨rfl, hK, hX, hD⟩ := hv
  have hx := B.exec
  have hb := B.bytes
  have hr := B.returns
  have hts := atoms_spec (ws := wT y_X_forgetTurns b_X_forgetTurns 1 none) B.pre
  have hT : ∀ w ∈ TT, w ∈ wT y_X_forgetTurns b_X_forgetTurns 1 none := wT_T
  have hown : s.vm.findClass RX = some m.cls := findClass_of_methodNamed B.named
  have hlocks := B.notSynchronized
  have hl := lv_entry ([.ref (ad 0)]) (n := 1) (Nat.le_of_ble_eq_true rfl)
  rw [lg_entry_eq]
  generalize (lg_sl ([.ref (ad 0)]) ++ List.replicate (1 - (lg_sl ([.ref (ad 0)])).length) Slot.unset).toArray = ls at hl ⊢
  have hl : lv_has ls 1 [(0, .ref (ad 0))] := hl
  have hL : ∀ q ∈ ([] : List Loc), txF ad q.base := fun q hq => nomatch hq
  have hO : txO ad s.heap s.heap := txO.rf
  refine lv_aload_n hx hb d_X_forgetTurns_0 rfl (lv_at hl 0 rfl) ?_
  refine lv_iconst hx hb d_X_forgetTurns_1 (v := (-1)) rfl ?_
  refine tq_put (F := txF ad) hx hb hts (fun w h => hT w (uX_in w h)) tX tX_ok nX hown hK (tx_one hX 0 rfl) (ci := 0) rfl 9 (by decide) (hts _ (hT _ k_X_36)) (fun _ h => h) rfl (ty := .int) rfl rfl rfl (Nat.le_of_ble_eq_true rfl) ⟨0, by decide, rfl⟩ hL d_X_forgetTurns_2 (fun H1 locs1 hP1 hz1 hq1 hL => ?_)
  have hX : tx D ci ad g tc (-1) tn H1 := tx_set hD hX 0 (by decide) rfl rfl rfl hP1 (fun j hj => by rcases j with _ | _ | _ | _ | _ | _ | _ | _ | j <;> first | rfl | exact absurd rfl hj) hq1
  have hO := hO.tr (txO.put (k := 0) (by decide) hz1 hq1)
  exact W.vret hx hb hr (fun t ht hW => ⟨_, rfl, rfl, by rw [ht]; exact hX, by rw [ht]; exact hO⟩) hL d_X_forgetTurns_5
set_option maxHeartbeats 4000000 in
set_option maxRecDepth 100000 in
theorem c_X_level (l : Launch) (D : va_G) (ci : Nat → ClassId) (ad : Nat → Nat) (g : TS) (tc td : Int32) (tn : Nat → Int32) {z : Int} (hz1 : -1000000 ≤ z) (hz2 : z ≤ 1000000) : Met l y_X_level (wT y_X_level b_X_level 3 (some .int)) (rP 0 0) (tb (wXW D ci ad g tc td tn) [.ref (ad 0), .int (iZ z)]) (qX D ci ad (ts_lev g z) tc td tn (some (.int (iZ (tt_lev g))))) 0 0 (txF ad) := by
  refine Met.ofW (cc := b_X_level) (maxL := 3) (ret := (some .int)) (by decide) rfl ?_
  intro p e s m args below meth c s₁ B hml hv
  obtain ⟨rfl, hK, hX, hD⟩ := hv
  have hx := B.exec
  have hb := B.bytes
  have hr := B.returns
  have hts := atoms_spec (ws := wT y_X_level b_X_level 3 (some .int)) B.pre
  have hT : ∀ w ∈ TT, w ∈ wT y_X_level b_X_level 3 (some .int) := wT_T
  have hown : s.vm.findClass RX = some m.cls := findClass_of_methodNamed B.named
  have hlocks := B.notSynchronized
  have hl := lv_entry ([.ref (ad 0), .int (iZ z)]) (n := 3) (Nat.le_of_ble_eq_true rfl)
  rw [lg_entry_eq]
  generalize (lg_sl ([.ref (ad 0), .int (iZ z)]) ++ List.replicate (3 - (lg_sl ([.ref (ad 0), .int (iZ z)])).length) Slot.unset).toArray = ls at hl ⊢
  have hl : lv_has ls 3 [(0, .ref (ad 0)), (1, .int (iZ z))] := hl
  have hL : ∀ q ∈ ([] : List Loc), txF ad q.base := fun q hq => nomatch hq
  have hO : txO ad s.heap s.heap := txO.rf
  have ez : (iZ z).toInt = z := iZ_toInt (by omega) (by omega)
  refine lv_iload_n hx hb d_X_level_0 rfl (lv_at hl 1 rfl) ?_
  refine lv_ldc hx hb (v := (-1000000)) hown (hts _ (hT _ k_X_47)) d_X_level_1 ?_
  refine lv_icmp_lt hx hb d_X_level_3 (tgt := 12) (by decide) (fun q1 => ?_) (fun q1 => ?_)
  · have q1 := Int32.lt_iff_toInt_lt.mp q1
    rw [show (-1000000 : Int32).toInt = -1000000 from rfl] at q1
    exfalso
    omega
  · have q1 := mt Int32.lt_iff_toInt_lt.mpr q1
    rw [show (-1000000 : Int32).toInt = -1000000 from rfl] at q1
    refine lv_iload_n hx hb d_X_level_6 rfl (lv_at hl 1 rfl) ?_
    refine lv_ldc hx hb (v := (nI 1000000)) hown (hts _ (hT _ k_X_48)) d_X_level_7 ?_
    refine lv_icmp_le hx hb d_X_level_9 (tgt := 22) (by decide) (fun q2 => ?_) (fun q2 => ?_)
    · have q2 := Int32.le_iff_toInt_le.mp q2
      rw [nI_toInt (n := 1000000) (by decide)] at q2
      refine lv_aload_n hx hb d_X_level_22 rfl (lv_at hl 0 rfl) ?_
      refine va_get hx hb hts (fun w h => hT w (uX_in w h)) hown hK hX.1 0 rfl rfl 0 (by decide) (hts _ (hT _ k_X_56)) (fun _ h => h) rfl d_X_level_23 ?_
      refine lv_istore_n hx hb d_X_level_26 rfl hl (by decide) (lv' := [(2, .int (iZ (tt_lev g))), (0, .ref (ad 0)), (1, .int (iZ z))]) rfl (fun ls hl => ?_)
      refine lv_aload_n hx hb d_X_level_27 rfl (lv_at hl 1 rfl) ?_
      refine lv_iload_n hx hb d_X_level_28 rfl (lv_at hl 2 rfl) ?_
      refine tq_put (F := txF ad) hx hb hts (fun w h => hT w (uX_in w h)) tX tX_ok nX hown hK (tx_one hX 0 rfl) (ci := 0) rfl 0 (by decide) (hts _ (hT _ k_X_56)) (fun _ h => h) rfl (ty := .int) rfl rfl rfl (Nat.le_of_ble_eq_true rfl) ⟨0, by decide, rfl⟩ hL d_X_level_29 (fun H1 locs1 hP1 hz1 hq1 hL => ?_)
      have hX : tx D ci ad (ts_lev g z) tc td tn H1 := tx_set hD hX 0 (by decide) rfl rfl rfl hP1 (fun j hj => by rcases j with _ | _ | _ | _ | _ | _ | _ | _ | j <;> first | rfl | exact absurd rfl hj) hq1
      have hO := hO.tr (txO.put (k := 0) (by decide) hz1 hq1)
      refine lv_iload_n hx hb d_X_level_32 rfl (lv_at hl 0 rfl) ?_
      exact W.iret hx hb hr (fun t ht hW => ⟨_, rfl, rfl, by rw [ht]; exact hX, by rw [ht]; exact hO⟩) hL d_X_level_33
    · have q2 := mt Int32.le_iff_toInt_le.mpr q2
      rw [nI_toInt (n := 1000000) (by decide)] at q2
      exfalso
      omega
set_option maxHeartbeats 4000000 in
set_option maxRecDepth 100000 in
theorem x_X_level (l : Launch) (htr : l.stackTraces = false) (D : va_G) (ci : Nat → ClassId) (ad : Nat → Nat) (g : TS) (tc td : Int32) (tn : Nat → Int32) (v : Int32) (hv0 : ¬ (-1000000 ≤ v.toInt ∧ v.toInt ≤ 1000000)) : vx_Met l y_X_level (wT y_X_level b_X_level 3 (some .int)) ({ frames := 6, cells := 1, slots := 6, locals := 82 }) (tb (wXE D ci ad g tc td tn) [.ref (ad 0), .int v]) tw_N (vx_X (fun _ : Unit => True) (fun E _ _ => E = eA) (fun _ => False)) 1 6 tq_n := by
  refine vx_ofW (cc := b_X_level) (maxL := 3) (ret := (some .int)) (by decide) rfl ?_
  intro p e s m args below meth c s₁ B hml hno hv
  obtain ⟨rfl, ⟨hK, hg, hX⟩, hE⟩ := hv
  have hx := B.exec
  have hb := B.bytes
  have hr := B.returns
  have hts := atoms_spec (ws := wT y_X_level b_X_level 3 (some .int)) B.pre
  have hT : ∀ w ∈ TT, w ∈ wT y_X_level b_X_level 3 (some .int) := wT_T
  have hown : s.vm.findClass RX = some m.cls := findClass_of_methodNamed B.named
  have hlocks := B.notSynchronized
  have hl := lv_entry ([.ref (ad 0), .int v]) (n := 3) (Nat.le_of_ble_eq_true rfl)
  rw [lg_entry_eq]
  generalize (lg_sl ([.ref (ad 0), .int v]) ++ List.replicate (3 - (lg_sl ([.ref (ad 0), .int v])).length) Slot.unset).toArray = ls at hl ⊢
  have hl : lv_has ls 3 [(0, .ref (ad 0)), (1, .int v)] := hl
  refine lv_iload_n hx hb d_X_level_0 rfl (lv_at hl 1 rfl) ?_
  refine lv_ldc hx hb (v := (-1000000)) hown (hts _ (hT _ k_X_47)) d_X_level_1 ?_
  refine lv_icmp_lt hx hb d_X_level_3 (tgt := 12) (by decide) (fun q1 => ?_) (fun q1 => ?_)
  · have q1 := Int32.lt_iff_toInt_lt.mp q1
    rw [show (-1000000 : Int32).toInt = -1000000 from rfl] at q1
    exact tw_A hx hb htr hown (fun w h => hts w (hT w h)) hE (fun _ _ _ h => h) (is := 51) (text := "no such level") (by decide) va_S.rf (hl.1.trans hml.symm) d_X_level_12 d_X_level_15 d_X_level_16 d_X_level_18 d_X_level_21 hno ⟨by decide, by decide, by decide, by decide⟩ hlocks (fun t ha h1 h2 => ⟨(), trivial, rfl, h1, fun q hq _ => h2 q hq⟩) (fun z hz => nomatch hz) (Nat.le_refl _) (Nat.le_refl _)
  · have q1 := mt Int32.lt_iff_toInt_lt.mpr q1
    rw [show (-1000000 : Int32).toInt = -1000000 from rfl] at q1
    refine lv_iload_n hx hb d_X_level_6 rfl (lv_at hl 1 rfl) ?_
    refine lv_ldc hx hb (v := (nI 1000000)) hown (hts _ (hT _ k_X_48)) d_X_level_7 ?_
    refine lv_icmp_le hx hb d_X_level_9 (tgt := 22) (by decide) (fun q2 => ?_) (fun q2 => ?_)
    · have q2 := Int32.le_iff_toInt_le.mp q2
      rw [nI_toInt (n := 1000000) (by decide)] at q2
      exfalso
      omega
    · have q2 := mt Int32.le_iff_toInt_le.mpr q2
      rw [nI_toInt (n := 1000000) (by decide)] at q2
      exact tw_A hx hb htr hown (fun w h => hts w (hT w h)) hE (fun _ _ _ h => h) (is := 51) (text := "no such level") (by decide) va_S.rf (hl.1.trans hml.symm) d_X_level_12 d_X_level_15 d_X_level_16 d_X_level_18 d_X_level_21 hno ⟨by decide, by decide, by decide, by decide⟩ hlocks (fun t ha h1 h2 => ⟨(), trivial, rfl, h1, fun q hq _ => h2 q hq⟩) (fun z hz => nomatch hz) (Nat.le_refl _) (Nat.le_refl _)
set_option maxHeartbeats 4000000 in
set_option maxRecDepth 100000 in
theorem c_X_constituent (l : Launch) (D : va_G) (ci : Nat → ClassId) (ad : Nat → Nat) (g : TS) (tc td : Int32) (tn : Nat → Int32) {i a sp ph : Nat} (hi : i < 8) (ha : a ≤ 100000) (hsp : sp < 1099511627776) (hph : ph < 281474976710656) : Met l y_X_constituent (wT y_X_constituent b_X_constituent 7 none) (rP 1 21) (tb (wXW D ci ad g tc td tn) [.ref (ad 0), .int (nI i), .int (nI a), .long (lN sp), .long (lN ph)]) (qX D ci ad (ts_pha (ts_spd (ts_amp g i a) i sp) i ph) tc (-1) tn none) 0 0 (txF ad) := by
  refine Met.ofW (cc := b_X_constituent) (maxL := 7) (ret := none) (by decide) rfl ?_
  intro p e s m args below meth c s₁ B hml hv
  obtain ⟨rfl, hK, hX, hD⟩ := hv
  have hx := B.exec
  have hb := B.bytes
  have hr := B.returns
  have hts := atoms_spec (ws := wT y_X_constituent b_X_constituent 7 none) B.pre
  have hT : ∀ w ∈ TT, w ∈ wT y_X_constituent b_X_constituent 7 none := wT_T
  have hown : s.vm.findClass RX = some m.cls := findClass_of_methodNamed B.named
  have hlocks := B.notSynchronized
  have hl := lv_entry ([.ref (ad 0), .int (nI i), .int (nI a), .long (lN sp), .long (lN ph)]) (n := 7) (Nat.le_of_ble_eq_true rfl)
  rw [lg_entry_eq]
  generalize (lg_sl ([.ref (ad 0), .int (nI i), .int (nI a), .long (lN sp), .long (lN ph)]) ++ List.replicate (7 - (lg_sl ([.ref (ad 0), .int (nI i), .int (nI a), .long (lN sp), .long (lN ph)])).length) Slot.unset).toArray = ls at hl ⊢
  have hl : lv_has ls 7 [(0, .ref (ad 0)), (1, .int (nI i)), (2, .int (nI a)), (3, .long (lN sp)), (5, .long (lN ph))] := hl
  have hL : ∀ q ∈ ([] : List Loc), txF ad q.base := fun q hq => nomatch hq
  have hO : txO ad s.heap s.heap := txO.rf
  have ei : (nI i).toInt = i := nI_toInt (by omega)
  have ea : (nI a).toInt = a := nI_toInt (by omega)
  have es : (lN sp).toInt = sp := pk_lT (by omega)
  have ep : (lN ph).toInt = ph := pk_lT (by omega)
  refine lv_iload_n hx hb d_X_constituent_0 rfl (lv_at hl 1 rfl) ?_
  refine tq_S ⟨hx, hb, hml, hown, hts⟩ hT (c_X_isConstituent l (nI i)) lk_X_59 wN_mv trivial rfl hl.1 rfl (Nat.le_of_ble_eq_true rfl) d_X_constituent_1 ⟨rfl, rfl, Nat.le_of_ble_eq_true rfl, Nat.le_of_ble_eq_true rfl⟩ ⟨Nat.zero_le _, Nat.zero_le _⟩ ?_
  refine lv_if_ne hx hb d_X_constituent_4 (tgt := 17) (by decide) (fun q1 => ?_) (fun q1 => ?_)
  · have q1 := zb_t q1
    refine lv_iload_n hx hb d_X_constituent_17 rfl (lv_at hl 2 rfl) ?_
    refine lv_if_lt hx hb d_X_constituent_18 (tgt := 27) (by decide) (fun q2 => ?_) (fun q2 => ?_)
    · have q2 := iv_lt0.mp q2
      exfalso
      omega
    · have q2 := mt iv_lt0.mpr q2
      refine lv_iload_n hx hb d_X_constituent_21 rfl (lv_at hl 2 rfl) ?_
      refine lv_ldc hx hb (v := (nI 100000)) hown (hts _ (hT _ k_X_68)) d_X_constituent_22 ?_
      refine lv_icmp_le hx hb d_X_constituent_24 (tgt := 37) (by decide) (fun q3 => ?_) (fun q3 => ?_)
      · have q3 := Int32.le_iff_toInt_le.mp q3
        rw [nI_toInt (n := 100000) (by decide)] at q3
        refine lv_lload_n hx hb d_X_constituent_37 rfl (lv_at hl 3 rfl) ?_
        refine lv_lconst hx hb d_X_constituent_38 (v := (lN 0)) rfl ?_
        refine W.lcmp hx hb d_X_constituent_39 ?_
        refine lv_if_lt hx hb d_X_constituent_40 (tgt := 51) (by decide) (fun q4 => ?_) (fun q4 => ?_)
        · have q4 := ((lg_cmp_lt _ _).trans Int64.lt_iff_toInt_lt).mp q4
          rw [pk_lT (n := 0) (by decide)] at q4
          exfalso
          omega
        · have q4 := mt ((lg_cmp_lt _ _).trans Int64.lt_iff_toInt_lt).mpr q4
          rw [pk_lT (n := 0) (by decide)] at q4
          refine lv_lload_n hx hb d_X_constituent_43 rfl (lv_at hl 3 rfl) ?_
          refine lv_ldc2 hx hb (v := (lN 1099511627776)) hown (hts _ (hT _ k_X_71)) d_X_constituent_44 ?_
          refine W.lcmp hx hb d_X_constituent_47 ?_
          refine lv_if_lt hx hb d_X_constituent_48 (tgt := 61) (by decide) (fun q5 => ?_) (fun q5 => ?_)
          · have q5 := ((lg_cmp_lt _ _).trans Int64.lt_iff_toInt_lt).mp q5
            rw [pk_lT (n := 1099511627776) (by decide)] at q5
            refine lv_lload hx hb d_X_constituent_61 (lv_at hl 4 rfl) ?_
            refine tq_S ⟨hx, hb, hml, hown, hts⟩ hT (c_X_isPosition l (lN ph)) lk_X_75 wN_mv trivial rfl hl.1 rfl (Nat.le_of_ble_eq_true rfl) d_X_constituent_63 ⟨rfl, rfl, Nat.le_of_ble_eq_true rfl, Nat.le_of_ble_eq_true rfl⟩ ⟨Nat.zero_le _, Nat.zero_le _⟩ ?_
            refine lv_if_ne hx hb d_X_constituent_66 (tgt := 79) (by decide) (fun q6 => ?_) (fun q6 => ?_)
            · have q6 := zb_t q6
              refine lv_aload_n hx hb d_X_constituent_79 rfl (lv_at hl 0 rfl) ?_
              refine va_get hx hb hts (fun w h => hT w (uX_in w h)) hown hK hX.1 0 rfl rfl 1 (by decide) (hts _ (hT _ k_X_9)) (fun _ h => h) rfl d_X_constituent_80 ?_
              refine lv_iload_n hx hb d_X_constituent_83 rfl (lv_at hl 1 rfl) ?_
              refine lv_iload_n hx hb d_X_constituent_84 rfl (lv_at hl 2 rfl) ?_
              refine tq_iast (F := txF ad) hx hb hK 0 (tx_one hX 1 rfl) rfl hi (by decide) ⟨1, by decide, rfl⟩ hL d_X_constituent_85 (fun H1 locs1 hP1 hz1 hq1 hL => ?_)
              rw [up_nI] at hP1
              have hX : tx D ci ad (ts_amp g i a) tc td tn H1 := tx_set hD hX 1 (by decide) rfl rfl rfl hP1 (fun j hj => by rcases j with _ | _ | _ | _ | _ | _ | _ | _ | j <;> first | rfl | exact absurd rfl hj) hq1
              have hO := hO.tr (txO.put (k := 1) (by decide) hz1 hq1)
              refine lv_aload_n hx hb d_X_constituent_86 rfl (lv_at hl 0 rfl) ?_
              refine va_get hx hb hts (fun w h => hT w (uX_in w h)) hown hK hX.1 0 rfl rfl 2 (by decide) (hts _ (hT _ k_X_13)) (fun _ h => h) rfl d_X_constituent_87 ?_
              refine lv_iload_n hx hb d_X_constituent_90 rfl (lv_at hl 1 rfl) ?_
              refine lv_lload_n hx hb d_X_constituent_91 rfl (lv_at hl 3 rfl) ?_
              refine tq_last (F := txF ad) hx hb hK 1 (tx_one hX 2 rfl) rfl hi (by decide) ⟨2, by decide, rfl⟩ hL d_X_constituent_92 (fun H1 locs1 hP1 hz1 hq1 hL => ?_)
              rw [up_lN] at hP1
              have hX : tx D ci ad (ts_spd (ts_amp g i a) i sp) tc td tn H1 := tx_set hD hX 2 (by decide) rfl rfl rfl hP1 (fun j hj => by rcases j with _ | _ | _ | _ | _ | _ | _ | _ | j <;> first | rfl | exact absurd rfl hj) hq1
              have hO := hO.tr (txO.put (k := 2) (by decide) hz1 hq1)
              refine lv_aload_n hx hb d_X_constituent_93 rfl (lv_at hl 0 rfl) ?_
              refine va_get hx hb hts (fun w h => hT w (uX_in w h)) hown hK hX.1 0 rfl rfl 3 (by decide) (hts _ (hT _ k_X_17)) (fun _ h => h) rfl d_X_constituent_94 ?_
              refine lv_iload_n hx hb d_X_constituent_97 rfl (lv_at hl 1 rfl) ?_
              refine lv_lload hx hb d_X_constituent_98 (lv_at hl 4 rfl) ?_
              refine tq_last (F := txF ad) hx hb hK 1 (tx_one hX 3 rfl) rfl hi (by decide) ⟨3, by decide, rfl⟩ hL d_X_constituent_100 (fun H1 locs1 hP1 hz1 hq1 hL => ?_)
              rw [up_lN] at hP1
              have hX : tx D ci ad (ts_pha (ts_spd (ts_amp g i a) i sp) i ph) tc td tn H1 := tx_set hD hX 3 (by decide) rfl rfl rfl hP1 (fun j hj => by rcases j with _ | _ | _ | _ | _ | _ | _ | _ | j <;> first | rfl | exact absurd rfl hj) hq1
              have hO := hO.tr (txO.put (k := 3) (by decide) hz1 hq1)
              refine lv_aload_n hx hb d_X_constituent_101 rfl (lv_at hl 0 rfl) ?_
              refine tq_VW ⟨hx, hb, hml, hown, hts⟩ hT (c_X_forgetTurns l D ci ad (ts_pha (ts_spd (ts_amp g i a) i sp) i ph) tc td tn) lk_X_81 wXW_mv ⟨hK, hX, hD⟩ (wXW_rc hK hX) rfl hl.1 rfl (Nat.le_of_ble_eq_true rfl) d_X_constituent_102 ⟨rfl, rfl, Nat.le_of_ble_eq_true rfl, Nat.le_of_ble_eq_true rfl⟩ ⟨Nat.zero_le _, Nat.zero_le _⟩ hL (fun v9 H1 locs1 hF9 hL => ?_)
              obtain ⟨rfl, hX, hO9⟩ := hF9
              have hO := hO.tr hO9
              exact W.vret hx hb hr (fun t ht hW => ⟨_, rfl, rfl, by rw [ht]; exact hX, by rw [ht]; exact hO⟩) hL d_X_constituent_105
            · have q6 := zb_f q6
              exfalso
              omega
          · have q5 := mt ((lg_cmp_lt _ _).trans Int64.lt_iff_toInt_lt).mpr q5
            rw [pk_lT (n := 1099511627776) (by decide)] at q5
            exfalso
            omega
      · have q3 := mt Int32.le_iff_toInt_le.mpr q3
        rw [nI_toInt (n := 100000) (by decide)] at q3
        exfalso
        omega
  · have q1 := zb_f q1
    exfalso
    omega
set_option maxHeartbeats 4000000 in
set_option maxRecDepth 100000 in
theorem x_X_constituentI (l : Launch) (htr : l.stackTraces = false) (D : va_G) (ci : Nat → ClassId) (ad : Nat → Nat) (g : TS) (tc td : Int32) (tn : Nat → Int32) (u v : Int32) (x z : Int64) (hv0 : ¬ (0 ≤ u.toInt ∧ u.toInt < 8)) : vx_Met l y_X_constituent (wT y_X_constituent b_X_constituent 7 none) ({ frames := 6, cells := 1, slots := 6, locals := 82 }) (tb (wXE D ci ad g tc td tn) [.ref (ad 0), .int u, .int v, .long x, .long z]) tw_N (vx_X (fun _ : Unit => True) (fun E _ _ => E = eI) (fun _ => False)) 1 6 tq_n := by
  refine vx_ofW (cc := b_X_constituent) (maxL := 7) (ret := none) (by decide) rfl ?_
  intro p e s m args below meth c s₁ B hml hno hv
  obtain ⟨rfl, ⟨hK, hg, hX⟩, hE⟩ := hv
  have hx := B.exec
  have hb := B.bytes
  have hr := B.returns
  have hts := atoms_spec (ws := wT y_X_constituent b_X_constituent 7 none) B.pre
  have hT : ∀ w ∈ TT, w ∈ wT y_X_constituent b_X_constituent 7 none := wT_T
  have hown : s.vm.findClass RX = some m.cls := findClass_of_methodNamed B.named
  have hlocks := B.notSynchronized
  have hl := lv_entry ([.ref (ad 0), .int u, .int v, .long x, .long z]) (n := 7) (Nat.le_of_ble_eq_true rfl)
  rw [lg_entry_eq]
  generalize (lg_sl ([.ref (ad 0), .int u, .int v, .long x, .long z]) ++ List.replicate (7 - (lg_sl ([.ref (ad 0), .int u, .int v, .long x, .long z])).length) Slot.unset).toArray = ls at hl ⊢
  have hl : lv_has ls 7 [(0, .ref (ad 0)), (1, .int u), (2, .int v), (3, .long x), (5, .long z)] := hl
  refine lv_iload_n hx hb d_X_constituent_0 rfl (lv_at hl 1 rfl) ?_
  refine tq_S ⟨hx, hb, hml, hown, hts⟩ hT (c_X_isConstituent l u) lk_X_59 wN_mv trivial rfl hl.1 rfl (Nat.le_of_ble_eq_true rfl) d_X_constituent_1 ⟨rfl, rfl, Nat.le_of_ble_eq_true rfl, Nat.le_of_ble_eq_true rfl⟩ ⟨Nat.zero_le _, Nat.zero_le _⟩ ?_
  refine lv_if_ne hx hb d_X_constituent_4 (tgt := 17) (by decide) (fun q1 => ?_) (fun q1 => ?_)
  · have q1 := zb_t q1
    exfalso
    omega
  · have q1 := zb_f q1
    exact tw_I hx hb htr hown (fun w h => hts w (hT w h)) hE (fun _ _ _ h => h) (is := 65) (text := "no such constituent") (by decide) va_S.rf (hl.1.trans hml.symm) d_X_constituent_7 d_X_constituent_10 d_X_constituent_11 d_X_constituent_13 d_X_constituent_16 hno ⟨by decide, by decide, by decide, by decide⟩ hlocks (fun t ha h1 h2 => ⟨(), trivial, rfl, h1, fun q hq _ => h2 q hq⟩) (fun z hz => nomatch hz) (Nat.le_refl _) (Nat.le_refl _)
set_option maxHeartbeats 4000000 in
set_option maxRecDepth 100000 in
theorem x_X_constituentA (l : Launch) (htr : l.stackTraces = false) (D : va_G) (ci : Nat → ClassId) (ad : Nat → Nat) (g : TS) (tc td : Int32) (tn : Nat → Int32) (u v : Int32) (x z : Int64) (hv1 : 0 ≤ u.toInt ∧ u.toInt < 8) (hv0 : ¬ ((0 ≤ v.toInt ∧ v.toInt ≤ 100000) ∧ (0 ≤ x.toInt ∧ x.toInt < 1099511627776) ∧ 0 ≤ z.toInt ∧ z.toInt < 281474976710656)) : vx_Met l y_X_constituent (wT y_X_constituent b_X_constituent 7 none) ({ frames := 6, cells := 1, slots := 6, locals := 82 }) (tb (wXE D ci ad g tc td tn) [.ref (ad 0), .int u, .int v, .long x, .long z]) tw_N (vx_X (fun _ : Unit => True) (fun E _ _ => E = eA) (fun _ => False)) 1 6 tq_n := by
  refine vx_ofW (cc := b_X_constituent) (maxL := 7) (ret := none) (by decide) rfl ?_
  intro p e s m args below meth c s₁ B hml hno hv
  obtain ⟨rfl, ⟨hK, hg, hX⟩, hE⟩ := hv
  have hx := B.exec
  have hb := B.bytes
  have hr := B.returns
  have hts := atoms_spec (ws := wT y_X_constituent b_X_constituent 7 none) B.pre
  have hT : ∀ w ∈ TT, w ∈ wT y_X_constituent b_X_constituent 7 none := wT_T
  have hown : s.vm.findClass RX = some m.cls := findClass_of_methodNamed B.named
  have hlocks := B.notSynchronized
  have hl := lv_entry ([.ref (ad 0), .int u, .int v, .long x, .long z]) (n := 7) (Nat.le_of_ble_eq_true rfl)
  rw [lg_entry_eq]
  generalize (lg_sl ([.ref (ad 0), .int u, .int v, .long x, .long z]) ++ List.replicate (7 - (lg_sl ([.ref (ad 0), .int u, .int v, .long x, .long z])).length) Slot.unset).toArray = ls at hl ⊢
  have hl : lv_has ls 7 [(0, .ref (ad 0)), (1, .int u), (2, .int v), (3, .long x), (5, .long z)] := hl
  refine lv_iload_n hx hb d_X_constituent_0 rfl (lv_at hl 1 rfl) ?_
  refine tq_S ⟨hx, hb, hml, hown, hts⟩ hT (c_X_isConstituent l u) lk_X_59 wN_mv trivial rfl hl.1 rfl (Nat.le_of_ble_eq_true rfl) d_X_constituent_1 ⟨rfl, rfl, Nat.le_of_ble_eq_true rfl, Nat.le_of_ble_eq_true rfl⟩ ⟨Nat.zero_le _, Nat.zero_le _⟩ ?_
  refine lv_if_ne hx hb d_X_constituent_4 (tgt := 17) (by decide) (fun q1 => ?_) (fun q1 => ?_)
  · have q1 := zb_t q1
    refine lv_iload_n hx hb d_X_constituent_17 rfl (lv_at hl 2 rfl) ?_
    refine lv_if_lt hx hb d_X_constituent_18 (tgt := 27) (by decide) (fun q2 => ?_) (fun q2 => ?_)
    · have q2 := iv_lt0.mp q2
      exact tw_A hx hb htr hown (fun w h => hts w (hT w h)) hE (fun _ _ _ h => h) (is := 69) (text := "no such amplitude") (by decide) va_S.rf (hl.1.trans hml.symm) d_X_constituent_27 d_X_constituent_30 d_X_constituent_31 d_X_constituent_33 d_X_constituent_36 hno ⟨by decide, by decide, by decide, by decide⟩ hlocks (fun t ha h1 h2 => ⟨(), trivial, rfl, h1, fun q hq _ => h2 q hq⟩) (fun z hz => nomatch hz) (Nat.le_refl _) (Nat.le_refl _)
    · have q2 := mt iv_lt0.mpr q2
      refine lv_iload_n hx hb d_X_constituent_21 rfl (lv_at hl 2 rfl) ?_
      refine lv_ldc hx hb (v := (nI 100000)) hown (hts _ (hT _ k_X_68)) d_X_constituent_22 ?_
      refine lv_icmp_le hx hb d_X_constituent_24 (tgt := 37) (by decide) (fun q3 => ?_) (fun q3 => ?_)
      · have q3 := Int32.le_iff_toInt_le.mp q3
        rw [nI_toInt (n := 100000) (by decide)] at q3
        refine lv_lload_n hx hb d_X_constituent_37 rfl (lv_at hl 3 rfl) ?_
        refine lv_lconst hx hb d_X_constituent_38 (v := (lN 0)) rfl ?_
        refine W.lcmp hx hb d_X_constituent_39 ?_
        refine lv_if_lt hx hb d_X_constituent_40 (tgt := 51) (by decide) (fun q4 => ?_) (fun q4 => ?_)
        · have q4 := ((lg_cmp_lt _ _).trans Int64.lt_iff_toInt_lt).mp q4
          rw [pk_lT (n := 0) (by decide)] at q4
          exact tw_A hx hb htr hown (fun w h => hts w (hT w h)) hE (fun _ _ _ h => h) (is := 73) (text := "no such speed") (by decide) va_S.rf (hl.1.trans hml.symm) d_X_constituent_51 d_X_constituent_54 d_X_constituent_55 d_X_constituent_57 d_X_constituent_60 hno ⟨by decide, by decide, by decide, by decide⟩ hlocks (fun t ha h1 h2 => ⟨(), trivial, rfl, h1, fun q hq _ => h2 q hq⟩) (fun z hz => nomatch hz) (Nat.le_refl _) (Nat.le_refl _)
        · have q4 := mt ((lg_cmp_lt _ _).trans Int64.lt_iff_toInt_lt).mpr q4
          rw [pk_lT (n := 0) (by decide)] at q4
          refine lv_lload_n hx hb d_X_constituent_43 rfl (lv_at hl 3 rfl) ?_
          refine lv_ldc2 hx hb (v := (lN 1099511627776)) hown (hts _ (hT _ k_X_71)) d_X_constituent_44 ?_
          refine W.lcmp hx hb d_X_constituent_47 ?_
          refine lv_if_lt hx hb d_X_constituent_48 (tgt := 61) (by decide) (fun q5 => ?_) (fun q5 => ?_)
          · have q5 := ((lg_cmp_lt _ _).trans Int64.lt_iff_toInt_lt).mp q5
            rw [pk_lT (n := 1099511627776) (by decide)] at q5
            refine lv_lload hx hb d_X_constituent_61 (lv_at hl 4 rfl) ?_
            refine tq_S ⟨hx, hb, hml, hown, hts⟩ hT (c_X_isPosition l z) lk_X_75 wN_mv trivial rfl hl.1 rfl (Nat.le_of_ble_eq_true rfl) d_X_constituent_63 ⟨rfl, rfl, Nat.le_of_ble_eq_true rfl, Nat.le_of_ble_eq_true rfl⟩ ⟨Nat.zero_le _, Nat.zero_le _⟩ ?_
            refine lv_if_ne hx hb d_X_constituent_66 (tgt := 79) (by decide) (fun q6 => ?_) (fun q6 => ?_)
            · have q6 := zb_t q6
              exfalso
              omega
            · have q6 := zb_f q6
              exact tw_A hx hb htr hown (fun w h => hts w (hT w h)) hE (fun _ _ _ h => h) (is := 79) (text := "no such phase") (by decide) va_S.rf (hl.1.trans hml.symm) d_X_constituent_69 d_X_constituent_72 d_X_constituent_73 d_X_constituent_75 d_X_constituent_78 hno ⟨by decide, by decide, by decide, by decide⟩ hlocks (fun t ha h1 h2 => ⟨(), trivial, rfl, h1, fun q hq _ => h2 q hq⟩) (fun z hz => nomatch hz) (Nat.le_refl _) (Nat.le_refl _)
          · have q5 := mt ((lg_cmp_lt _ _).trans Int64.lt_iff_toInt_lt).mpr q5
            rw [pk_lT (n := 1099511627776) (by decide)] at q5
            exact tw_A hx hb htr hown (fun w h => hts w (hT w h)) hE (fun _ _ _ h => h) (is := 73) (text := "no such speed") (by decide) va_S.rf (hl.1.trans hml.symm) d_X_constituent_51 d_X_constituent_54 d_X_constituent_55 d_X_constituent_57 d_X_constituent_60 hno ⟨by decide, by decide, by decide, by decide⟩ hlocks (fun t ha h1 h2 => ⟨(), trivial, rfl, h1, fun q hq _ => h2 q hq⟩) (fun z hz => nomatch hz) (Nat.le_refl _) (Nat.le_refl _)
      · have q3 := mt Int32.le_iff_toInt_le.mpr q3
        rw [nI_toInt (n := 100000) (by decide)] at q3
        exact tw_A hx hb htr hown (fun w h => hts w (hT w h)) hE (fun _ _ _ h => h) (is := 69) (text := "no such amplitude") (by decide) va_S.rf (hl.1.trans hml.symm) d_X_constituent_27 d_X_constituent_30 d_X_constituent_31 d_X_constituent_33 d_X_constituent_36 hno ⟨by decide, by decide, by decide, by decide⟩ hlocks (fun t ha h1 h2 => ⟨(), trivial, rfl, h1, fun q hq _ => h2 q hq⟩) (fun z hz => nomatch hz) (Nat.le_refl _) (Nat.le_refl _)
  · have q1 := zb_f q1
    exfalso
    omega
end
section
/-! node, days. Written by wip/whole/gen.py -/
theorem tx_wne {ci : Nat → ClassId} {ad : Nat → Nat} {g : TS} {tc td : Int32} {tn : Nat → Int32} (hD : tx_D ad) {k : Nat} (hk : 8 ≤ k) (hk2 : k < 24) : ∀ x ∈ tx_w ci ad g tc td tn, x.1 ≠ ad k := by
  intro x hx
  simp only [tx_w, List.mem_cons, List.not_mem_nil, or_false] at hx
  rcases hx with rfl | rfl | rfl | rfl | rfl | rfl | rfl | rfl <;> exact hD.ne (by omega) hk2 (by omega)
theorem tx_setF {D : va_G} {ci : Nat → ClassId} {ad : Nat → Nat} {g : TS} {tc td : Int32} {tn : Nat → Int32} {H H1 : Heap} (hD : tx_D ad) (h : tx D ci ad g tc td tn H) {i y f : Nat} (hi : i < 8) (hP : va_P D tcl [(ad (8 + i), .inl (ci 0, 10, .inl (fun j => nI (if j = y then f else tt_fac g i j))))] H1) (hq : ∀ q : Nat, q ≠ ad (8 + i) → H1[q]? = H[q]?) : tx D ci ad (ts_fac g i y f) tc td tn H1 := by
  refine ⟨vP_but h.1 (tx_wne hD (by omega) (by omega)) hq, fun k hk => ?_, fun k hk => vP_but (h.2.2 k hk) (fun x hx => by rw [List.mem_singleton.mp hx]; exact hD.ne (by omega) (by omega) (by omega)) hq⟩
  by_cases e : k = i
  · subst e
    have e9 : (fun j => nI (tt_fac (ts_fac g k y f) k j)) = fun j => nI (if j = y then f else tt_fac g k j) := by
      funext j
      show nI (if k = k ∧ j = y then f else tt_fac g k j) = _
      by_cases z : j = y <;> simp [z]
    rw [e9]
    exact hP
  · have e9 : (fun j => nI (tt_fac (ts_fac g i y f) k j)) = fun j => nI (tt_fac g k j) := by
      funext j
      show nI (if k = i ∧ j = y then f else tt_fac g k j) = _
      simp [e]
    rw [e9]
    exact vP_but (h.2.1 k hk) (fun x hx => by rw [List.mem_singleton.mp hx]; exact hD.ne (by omega) (by omega) (by omega)) hq
theorem tx_setS {D : va_G} {ci : Nat → ClassId} {ad : Nat → Nat} {g : TS} {tc td : Int32} {tn : Nat → Int32} {H H1 : Heap} (hD : tx_D ad) (h : tx D ci ad g tc td tn H) {i y f : Nat} (hi : i < 8) (hP : va_P D tcl [(ad (16 + i), .inl (ci 1, 10, .inr (.inl (fun j => lN (if j = y then f else tt_shf g i j)))))] H1) (hq : ∀ q : Nat, q ≠ ad (16 + i) → H1[q]? = H[q]?) : tx D ci ad (ts_shf g i y f) tc td tn H1 := by
  refine ⟨vP_but h.1 (tx_wne hD (by omega) (by omega)) hq, fun k hk => vP_but (h.2.1 k hk) (fun x hx => by rw [List.mem_singleton.mp hx]; exact hD.ne (by omega) (by omega) (by omega)) hq, fun k hk => ?_⟩
  by_cases e : k = i
  · subst e
    have e9 : (fun j => lN (tt_shf (ts_shf g k y f) k j)) = fun j => lN (if j = y then f else tt_shf g k j) := by
      funext j
      show lN (if k = k ∧ j = y then f else tt_shf g k j) = _
      by_cases z : j = y <;> simp [z]
    rw [e9]
    exact hP
  · have e9 : (fun j => lN (tt_shf (ts_shf g i y f) k j)) = fun j => lN (tt_shf g k j) := by
      funext j
      show lN (if k = i ∧ j = y then f else tt_shf g k j) = _
      simp [e]
    rw [e9]
    exact vP_but (h.2.2 k hk) (fun x hx => by rw [List.mem_singleton.mp hx]; exact hD.ne (by omega) (by omega) (by omega)) hq
theorem tt_db_lo (d : Nat → Nat) (y n : Nat) : ∀ j, j ≤ y → tt_db (fun k => if k = y then n else d k) j = tt_db d j := by
  intro j
  induction j with
  | zero => intro _; rfl
  | succ j ih =>
    intro h
    show tt_db _ j + (if j = y then n else d j) = tt_db d j + d j
    rw [ih (by omega), if_neg (by omega)]
theorem tt_db_hi (d : Nat → Nat) (y n : Nat) : ∀ j, y < j → tt_db (fun k => if k = y then n else d k) j + d y = tt_db d j + n := by
  intro j
  induction j with
  | zero => intro h; omega
  | succ j ih =>
    intro h
    show tt_db (fun k => if k = y then n else d k) j + (if j = y then n else d j) + d y = tt_db d j + d j + n
    by_cases e : j = y
    · subst e
      rw [if_pos rfl, tt_db_lo d j n j (Nat.le_refl _)]
      omega
    · rw [if_neg e]
      have := ih (by omega)
      omega
set_option maxHeartbeats 4000000 in
set_option maxRecDepth 100000 in
theorem c_X_node (l : Launch) (D : va_G) (ci : Nat → ClassId) (ad : Nat → Nat) (g : TS) (tc td : Int32) (tn : Nat → Int32) {i y f sh : Nat} (hi : i < 8) (hy : y < 10) (hf : f ≤ 81920) (hsh : sh < 281474976710656) : Met l y_X_node (wT y_X_node b_X_node 6 none) (rP 1 21) (tb (wXW D ci ad g tc td tn) [.ref (ad 0), .int (nI i), .int (nI y), .int (nI f), .long (lN sh)]) (qX D ci ad (ts_shf (ts_fac g i y f) i y sh) tc (-1) tn none) 0 0 (txF ad) := by
  refine Met.ofW (cc := b_X_node) (maxL := 6) (ret := none) (by decide) rfl ?_
  intro p e s m args below meth c s₁ B hml hv
  obtain ⟨rfl, hK, hX, hD⟩ := hv
  have hx := B.exec
  have hb := B.bytes
  have hr := B.returns
  have hts := atoms_spec (ws := wT y_X_node b_X_node 6 none) B.pre
  have hT : ∀ w ∈ TT, w ∈ wT y_X_node b_X_node 6 none := wT_T
  have hown : s.vm.findClass RX = some m.cls := findClass_of_methodNamed B.named
  have hlocks := B.notSynchronized
  have hl := lv_entry ([.ref (ad 0), .int (nI i), .int (nI y), .int (nI f), .long (lN sh)]) (n := 6) (Nat.le_of_ble_eq_true rfl)
  rw [lg_entry_eq]
  generalize (lg_sl ([.ref (ad 0), .int (nI i), .int (nI y), .int (nI f), .long (lN sh)]) ++ List.replicate (6 - (lg_sl ([.ref (ad 0), .int (nI i), .int (nI y), .int (nI f), .long (lN sh)])).length) Slot.unset).toArray = ls at hl ⊢
  have hl : lv_has ls 6 [(0, .ref (ad 0)), (1, .int (nI i)), (2, .int (nI y)), (3, .int (nI f)), (4, .long (lN sh))] := hl
  have hL : ∀ q ∈ ([] : List Loc), txF ad q.base := fun q hq => nomatch hq
  have hO : txO ad s.heap s.heap := txO.rf
  have ei : (nI i).toInt = i := nI_toInt (by omega)
  have ey : (nI y).toInt = y := nI_toInt (by omega)
  have ef : (nI f).toInt = f := nI_toInt (by omega)
  have es : (lN sh).toInt = sh := pk_lT (by omega)
  refine lv_iload_n hx hb d_X_node_0 rfl (lv_at hl 1 rfl) ?_
  refine tq_S ⟨hx, hb, hml, hown, hts⟩ hT (c_X_isConstituent l (nI i)) lk_X_59 wN_mv trivial rfl hl.1 rfl (Nat.le_of_ble_eq_true rfl) d_X_node_1 ⟨rfl, rfl, Nat.le_of_ble_eq_true rfl, Nat.le_of_ble_eq_true rfl⟩ ⟨Nat.zero_le _, Nat.zero_le _⟩ ?_
  refine lv_if_eq hx hb d_X_node_4 (tgt := 14) (by decide) (fun q1 => ?_) (fun q1 => ?_)
  · have q1 := zb_f q1
    exfalso
    omega
  · have q1 := zb_t q1
    refine lv_iload_n hx hb d_X_node_7 rfl (lv_at hl 2 rfl) ?_
    refine tq_S ⟨hx, hb, hml, hown, hts⟩ hT (c_X_isYear l (nI y)) lk_X_84 wN_mv trivial rfl hl.1 rfl (Nat.le_of_ble_eq_true rfl) d_X_node_8 ⟨rfl, rfl, Nat.le_of_ble_eq_true rfl, Nat.le_of_ble_eq_true rfl⟩ ⟨Nat.zero_le _, Nat.zero_le _⟩ ?_
    refine lv_if_ne hx hb d_X_node_11 (tgt := 24) (by decide) (fun q2 => ?_) (fun q2 => ?_)
    · have q2 := zb_t q2
      refine lv_iload_n hx hb d_X_node_24 rfl (lv_at hl 3 rfl) ?_
      refine lv_if_lt hx hb d_X_node_25 (tgt := 34) (by decide) (fun q3 => ?_) (fun q3 => ?_)
      · have q3 := iv_lt0.mp q3
        exfalso
        omega
      · have q3 := mt iv_lt0.mpr q3
        refine lv_iload_n hx hb d_X_node_28 rfl (lv_at hl 3 rfl) ?_
        refine lv_ldc hx hb (v := (nI 81920)) hown (hts _ (hT _ k_X_89)) d_X_node_29 ?_
        refine lv_icmp_le hx hb d_X_node_31 (tgt := 44) (by decide) (fun q4 => ?_) (fun q4 => ?_)
        · have q4 := Int32.le_iff_toInt_le.mp q4
          rw [nI_toInt (n := 81920) (by decide)] at q4
          refine lv_lload hx hb d_X_node_44 (lv_at hl 4 rfl) ?_
          refine tq_S ⟨hx, hb, hml, hown, hts⟩ hT (c_X_isPosition l (lN sh)) lk_X_75 wN_mv trivial rfl hl.1 rfl (Nat.le_of_ble_eq_true rfl) d_X_node_46 ⟨rfl, rfl, Nat.le_of_ble_eq_true rfl, Nat.le_of_ble_eq_true rfl⟩ ⟨Nat.zero_le _, Nat.zero_le _⟩ ?_
          refine lv_if_ne hx hb d_X_node_49 (tgt := 62) (by decide) (fun q5 => ?_) (fun q5 => ?_)
          · have q5 := zb_t q5
            refine lv_aload_n hx hb d_X_node_62 rfl (lv_at hl 0 rfl) ?_
            refine va_get hx hb hts (fun w h => hT w (uX_in w h)) hown hK hX.1 0 rfl rfl 4 (by decide) (hts _ (hT _ k_X_22)) (fun _ h => h) rfl d_X_node_63 ?_
            refine lv_iload_n hx hb d_X_node_66 rfl (lv_at hl 1 rfl) ?_
            refine tq_aald hx hb hK hX.1 4 2 rfl rfl rfl hi (by decide) rfl d_X_node_67 ?_
            refine lv_iload_n hx hb d_X_node_68 rfl (lv_at hl 2 rfl) ?_
            refine lv_iload_n hx hb d_X_node_69 rfl (lv_at hl 3 rfl) ?_
            refine tq_iast (F := txF ad) hx hb hK 0 (hX.2.1 i hi) rfl hy (by decide) ⟨8 + i, by omega, rfl⟩ hL d_X_node_70 (fun H1 locs1 hP1 hz1 hq1 hL => ?_)
            rw [up_nI] at hP1
            have hX := tx_setF hD hX hi hP1 hq1
            have hO := hO.tr (txO.put (k := 8 + i) (by omega) hz1 hq1)
            refine lv_aload_n hx hb d_X_node_71 rfl (lv_at hl 0 rfl) ?_
            refine va_get hx hb hts (fun w h => hT w (uX_in w h)) hown hK hX.1 0 rfl rfl 5 (by decide) (hts _ (hT _ k_X_27)) (fun _ h => h) rfl d_X_node_72 ?_
            refine lv_iload_n hx hb d_X_node_75 rfl (lv_at hl 1 rfl) ?_
            refine tq_aald hx hb hK hX.1 5 3 rfl rfl rfl hi (by decide) rfl d_X_node_76 ?_
            refine lv_iload_n hx hb d_X_node_77 rfl (lv_at hl 2 rfl) ?_
            refine lv_lload hx hb d_X_node_78 (lv_at hl 4 rfl) ?_
            refine tq_last (F := txF ad) hx hb hK 1 (hX.2.2 i hi) rfl hy (by decide) ⟨16 + i, by omega, rfl⟩ hL d_X_node_80 (fun H1 locs1 hP1 hz1 hq1 hL => ?_)
            rw [up_lN] at hP1
            have hX := tx_setS hD hX hi hP1 hq1
            have hO := hO.tr (txO.put (k := 16 + i) (by omega) hz1 hq1)
            refine lv_aload_n hx hb d_X_node_81 rfl (lv_at hl 0 rfl) ?_
            refine tq_VW ⟨hx, hb, hml, hown, hts⟩ hT (c_X_forgetTurns l D ci ad (ts_shf (ts_fac g i y f) i y sh) tc td tn) lk_X_81 wXW_mv ⟨hK, hX, hD⟩ (wXW_rc hK hX) rfl hl.1 rfl (Nat.le_of_ble_eq_true rfl) d_X_node_82 ⟨rfl, rfl, Nat.le_of_ble_eq_true rfl, Nat.le_of_ble_eq_true rfl⟩ ⟨Nat.zero_le _, Nat.zero_le _⟩ hL (fun v9 H1 locs1 hF9 hL => ?_)
            obtain ⟨rfl, hX, hO9⟩ := hF9
            have hO := hO.tr hO9
            exact W.vret hx hb hr (fun t ht hW => ⟨_, rfl, rfl, by rw [ht]; exact hX, by rw [ht]; exact hO⟩) hL d_X_node_85
          · have q5 := zb_f q5
            exfalso
            omega
        · have q4 := mt Int32.le_iff_toInt_le.mpr q4
          rw [nI_toInt (n := 81920) (by decide)] at q4
          exfalso
          omega
    · have q2 := zb_f q2
      exfalso
      omega
set_option maxHeartbeats 4000000 in
set_option maxRecDepth 100000 in
theorem x_X_nodeI (l : Launch) (htr : l.stackTraces = false) (D : va_G) (ci : Nat → ClassId) (ad : Nat → Nat) (g : TS) (tc td : Int32) (tn : Nat → Int32) (u v x : Int32) (z : Int64) (hv0 : ¬ ((0 ≤ u.toInt ∧ u.toInt < 8) ∧ 0 ≤ v.toInt ∧ v.toInt < 10)) : vx_Met l y_X_node (wT y_X_node b_X_node 6 none) ({ frames := 6, cells := 1, slots := 6, locals := 82 }) (tb (wXE D ci ad g tc td tn) [.ref (ad 0), .int u, .int v, .int x, .long z]) tw_N (vx_X (fun _ : Unit => True) (fun E _ _ => E = eI) (fun _ => False)) 1 6 tq_n := by
  refine vx_ofW (cc := b_X_node) (maxL := 6) (ret := none) (by decide) rfl ?_
  intro p e s m args below meth c s₁ B hml hno hv
  obtain ⟨rfl, ⟨hK, hg, hX⟩, hE⟩ := hv
  have hx := B.exec
  have hb := B.bytes
  have hr := B.returns
  have hts := atoms_spec (ws := wT y_X_node b_X_node 6 none) B.pre
  have hT : ∀ w ∈ TT, w ∈ wT y_X_node b_X_node 6 none := wT_T
  have hown : s.vm.findClass RX = some m.cls := findClass_of_methodNamed B.named
  have hlocks := B.notSynchronized
  have hl := lv_entry ([.ref (ad 0), .int u, .int v, .int x, .long z]) (n := 6) (Nat.le_of_ble_eq_true rfl)
  rw [lg_entry_eq]
  generalize (lg_sl ([.ref (ad 0), .int u, .int v, .int x, .long z]) ++ List.replicate (6 - (lg_sl ([.ref (ad 0), .int u, .int v, .int x, .long z])).length) Slot.unset).toArray = ls at hl ⊢
  have hl : lv_has ls 6 [(0, .ref (ad 0)), (1, .int u), (2, .int v), (3, .int x), (4, .long z)] := hl
  refine lv_iload_n hx hb d_X_node_0 rfl (lv_at hl 1 rfl) ?_
  refine tq_S ⟨hx, hb, hml, hown, hts⟩ hT (c_X_isConstituent l u) lk_X_59 wN_mv trivial rfl hl.1 rfl (Nat.le_of_ble_eq_true rfl) d_X_node_1 ⟨rfl, rfl, Nat.le_of_ble_eq_true rfl, Nat.le_of_ble_eq_true rfl⟩ ⟨Nat.zero_le _, Nat.zero_le _⟩ ?_
  refine lv_if_eq hx hb d_X_node_4 (tgt := 14) (by decide) (fun q1 => ?_) (fun q1 => ?_)
  · have q1 := zb_f q1
    exact tw_I hx hb htr hown (fun w h => hts w (hT w h)) hE (fun _ _ _ h => h) (is := 87) (text := "no such constituent or year") (by decide) va_S.rf (hl.1.trans hml.symm) d_X_node_14 d_X_node_17 d_X_node_18 d_X_node_20 d_X_node_23 hno ⟨by decide, by decide, by decide, by decide⟩ hlocks (fun t ha h1 h2 => ⟨(), trivial, rfl, h1, fun q hq _ => h2 q hq⟩) (fun z hz => nomatch hz) (Nat.le_refl _) (Nat.le_refl _)
  · have q1 := zb_t q1
    refine lv_iload_n hx hb d_X_node_7 rfl (lv_at hl 2 rfl) ?_
    refine tq_S ⟨hx, hb, hml, hown, hts⟩ hT (c_X_isYear l v) lk_X_84 wN_mv trivial rfl hl.1 rfl (Nat.le_of_ble_eq_true rfl) d_X_node_8 ⟨rfl, rfl, Nat.le_of_ble_eq_true rfl, Nat.le_of_ble_eq_true rfl⟩ ⟨Nat.zero_le _, Nat.zero_le _⟩ ?_
    refine lv_if_ne hx hb d_X_node_11 (tgt := 24) (by decide) (fun q2 => ?_) (fun q2 => ?_)
    · have q2 := zb_t q2
      exfalso
      omega
    · have q2 := zb_f q2
      exact tw_I hx hb htr hown (fun w h => hts w (hT w h)) hE (fun _ _ _ h => h) (is := 87) (text := "no such constituent or year") (by decide) va_S.rf (hl.1.trans hml.symm) d_X_node_14 d_X_node_17 d_X_node_18 d_X_node_20 d_X_node_23 hno ⟨by decide, by decide, by decide, by decide⟩ hlocks (fun t ha h1 h2 => ⟨(), trivial, rfl, h1, fun q hq _ => h2 q hq⟩) (fun z hz => nomatch hz) (Nat.le_refl _) (Nat.le_refl _)
set_option maxHeartbeats 4000000 in
set_option maxRecDepth 100000 in
theorem x_X_nodeA (l : Launch) (htr : l.stackTraces = false) (D : va_G) (ci : Nat → ClassId) (ad : Nat → Nat) (g : TS) (tc td : Int32) (tn : Nat → Int32) (u v x : Int32) (z : Int64) (hv1 : (0 ≤ u.toInt ∧ u.toInt < 8) ∧ 0 ≤ v.toInt ∧ v.toInt < 10) (hv0 : ¬ ((0 ≤ x.toInt ∧ x.toInt ≤ 81920) ∧ 0 ≤ z.toInt ∧ z.toInt < 281474976710656)) : vx_Met l y_X_node (wT y_X_node b_X_node 6 none) ({ frames := 6, cells := 1, slots := 6, locals := 82 }) (tb (wXE D ci ad g tc td tn) [.ref (ad 0), .int u, .int v, .int x, .long z]) tw_N (vx_X (fun _ : Unit => True) (fun E _ _ => E = eA) (fun _ => False)) 1 6 tq_n := by
  refine vx_ofW (cc := b_X_node) (maxL := 6) (ret := none) (by decide) rfl ?_
  intro p e s m args below meth c s₁ B hml hno hv
  obtain ⟨rfl, ⟨hK, hg, hX⟩, hE⟩ := hv
  have hx := B.exec
  have hb := B.bytes
  have hr := B.returns
  have hts := atoms_spec (ws := wT y_X_node b_X_node 6 none) B.pre
  have hT : ∀ w ∈ TT, w ∈ wT y_X_node b_X_node 6 none := wT_T
  have hown : s.vm.findClass RX = some m.cls := findClass_of_methodNamed B.named
  have hlocks := B.notSynchronized
  have hl := lv_entry ([.ref (ad 0), .int u, .int v, .int x, .long z]) (n := 6) (Nat.le_of_ble_eq_true rfl)
  rw [lg_entry_eq]
  generalize (lg_sl ([.ref (ad 0), .int u, .int v, .int x, .long z]) ++ List.replicate (6 - (lg_sl ([.ref (ad 0), .int u, .int v, .int x, .long z])).length) Slot.unset).toArray = ls at hl ⊢
  have hl : lv_has ls 6 [(0, .ref (ad 0)), (1, .int u), (2, .int v), (3, .int x), (4, .long z)] := hl
  refine lv_iload_n hx hb d_X_node_0 rfl (lv_at hl 1 rfl) ?_
  refine tq_S ⟨hx, hb, hml, hown, hts⟩ hT (c_X_isConstituent l u) lk_X_59 wN_mv trivial rfl hl.1 rfl (Nat.le_of_ble_eq_true rfl) d_X_node_1 ⟨rfl, rfl, Nat.le_of_ble_eq_true rfl, Nat.le_of_ble_eq_true rfl⟩ ⟨Nat.zero_le _, Nat.zero_le _⟩ ?_
  refine lv_if_eq hx hb d_X_node_4 (tgt := 14) (by decide) (fun q1 => ?_) (fun q1 => ?_)
  · have q1 := zb_f q1
    exfalso
    omega
  · have q1 := zb_t q1
    refine lv_iload_n hx hb d_X_node_7 rfl (lv_at hl 2 rfl) ?_
    refine tq_S ⟨hx, hb, hml, hown, hts⟩ hT (c_X_isYear l v) lk_X_84 wN_mv trivial rfl hl.1 rfl (Nat.le_of_ble_eq_true rfl) d_X_node_8 ⟨rfl, rfl, Nat.le_of_ble_eq_true rfl, Nat.le_of_ble_eq_true rfl⟩ ⟨Nat.zero_le _, Nat.zero_le _⟩ ?_
    refine lv_if_ne hx hb d_X_node_11 (tgt := 24) (by decide) (fun q2 => ?_) (fun q2 => ?_)
    · have q2 := zb_t q2
      refine lv_iload_n hx hb d_X_node_24 rfl (lv_at hl 3 rfl) ?_
      refine lv_if_lt hx hb d_X_node_25 (tgt := 34) (by decide) (fun q3 => ?_) (fun q3 => ?_)
      · have q3 := iv_lt0.mp q3
        exact tw_A hx hb htr hown (fun w h => hts w (hT w h)) hE (fun _ _ _ h => h) (is := 90) (text := "no such factor") (by decide) va_S.rf (hl.1.trans hml.symm) d_X_node_34 d_X_node_37 d_X_node_38 d_X_node_40 d_X_node_43 hno ⟨by decide, by decide, by decide, by decide⟩ hlocks (fun t ha h1 h2 => ⟨(), trivial, rfl, h1, fun q hq _ => h2 q hq⟩) (fun z hz => nomatch hz) (Nat.le_refl _) (Nat.le_refl _)
      · have q3 := mt iv_lt0.mpr q3
        refine lv_iload_n hx hb d_X_node_28 rfl (lv_at hl 3 rfl) ?_
        refine lv_ldc hx hb (v := (nI 81920)) hown (hts _ (hT _ k_X_89)) d_X_node_29 ?_
        refine lv_icmp_le hx hb d_X_node_31 (tgt := 44) (by decide) (fun q4 => ?_) (fun q4 => ?_)
        · have q4 := Int32.le_iff_toInt_le.mp q4
          rw [nI_toInt (n := 81920) (by decide)] at q4
          refine lv_lload hx hb d_X_node_44 (lv_at hl 4 rfl) ?_
          refine tq_S ⟨hx, hb, hml, hown, hts⟩ hT (c_X_isPosition l z) lk_X_75 wN_mv trivial rfl hl.1 rfl (Nat.le_of_ble_eq_true rfl) d_X_node_46 ⟨rfl, rfl, Nat.le_of_ble_eq_true rfl, Nat.le_of_ble_eq_true rfl⟩ ⟨Nat.zero_le _, Nat.zero_le _⟩ ?_
          refine lv_if_ne hx hb d_X_node_49 (tgt := 62) (by decide) (fun q5 => ?_) (fun q5 => ?_)
          · have q5 := zb_t q5
            exfalso
            omega
          · have q5 := zb_f q5
            exact tw_A hx hb htr hown (fun w h => hts w (hT w h)) hE (fun _ _ _ h => h) (is := 92) (text := "no such shift") (by decide) va_S.rf (hl.1.trans hml.symm) d_X_node_52 d_X_node_55 d_X_node_56 d_X_node_58 d_X_node_61 hno ⟨by decide, by decide, by decide, by decide⟩ hlocks (fun t ha h1 h2 => ⟨(), trivial, rfl, h1, fun q hq _ => h2 q hq⟩) (fun z hz => nomatch hz) (Nat.le_refl _) (Nat.le_refl _)
        · have q4 := mt Int32.le_iff_toInt_le.mpr q4
          rw [nI_toInt (n := 81920) (by decide)] at q4
          exact tw_A hx hb htr hown (fun w h => hts w (hT w h)) hE (fun _ _ _ h => h) (is := 90) (text := "no such factor") (by decide) va_S.rf (hl.1.trans hml.symm) d_X_node_34 d_X_node_37 d_X_node_38 d_X_node_40 d_X_node_43 hno ⟨by decide, by decide, by decide, by decide⟩ hlocks (fun t ha h1 h2 => ⟨(), trivial, rfl, h1, fun q hq _ => h2 q hq⟩) (fun z hz => nomatch hz) (Nat.le_refl _) (Nat.le_refl _)
    · have q2 := zb_f q2
      exfalso
      omega
section G22
variable {p : Program} {l : Launch} {e : Env} {R : Room} {s : State} {m : MethodId} {args : Array Value} {below : List Frame} {meth : Method} {c : Code} {cells slots : Nat} {Q : State → Prop} {Ts : List Cond}
variable {D : va_G} {ci : Nat → ClassId} {ad : Nat → Nat} {g : TS} {tc td : Int32} {tn : Nat → Int32}
set_option maxHeartbeats 4000000 in
set_option maxRecDepth 100000 in
theorem l_X_days (hx : p.tables.exec = Jvm.exec) (hb : c.code = b_X_days) (hts : ∀ w ∈ Ts, w.before args s = true) (hT : ∀ w ∈ TT, w ∈ Ts) (hown : s.vm.findClass RX = some m.cls) (hK : tk D ci s) (hg : tt_ok g) (hD : tx_D ad) {H0 : Heap} {y n : Nat} (hy : y < 10) (hn : n ≤ 366)
    (kk : ∀ (H : Heap) (locs : List Loc) (ls : Array Slot), va_P D tcl [(ad 6, .inl (ci 0, 11, .inl (fun j => nI (if j < 11 then tt_fst (ts_day g y n) j else tt_fst g j))))] H → H.size = H0.size → (∀ q : Nat, q ≠ ad 6 → H[q]? = H0[q]?) → (∀ q ∈ locs, txF ad q.base) → lv_has ls 5 [(4, .int (nI 11)), (3, .int (nI (tt_day g y))), (0, .ref (ad 0)), (1, .int (nI y)), (2, .int (nI n))] → W p l e R s m args below meth c H locs cells slots Q (F0 m 96 ls [])) :
    ∀ (d k : Nat) (H : Heap) (locs : List Loc) (ls : Array Slot), k + d = 11 → y < k → va_P D tcl [(ad 0, .inr (0, [.int (iZ (tt_lev g)), .ref (ad 1), .ref (ad 2), .ref (ad 3), .ref (ad 4), .ref (ad 5), .ref (ad 6), .ref (ad 7), .int tc, .int td]))] H → va_P D tcl [(ad 6, .inl (ci 0, 11, .inl (fun j => nI (if j < k then tt_fst (ts_day g y n) j else tt_fst g j))))] H → H.size = H0.size → (∀ q : Nat, q ≠ ad 6 → H[q]? = H0[q]?) → (∀ q ∈ locs, txF ad q.base) → lv_has ls 5 [(4, .int (nI k)), (3, .int (nI (tt_day g y))), (0, .ref (ad 0)), (1, .int (nI y)), (2, .int (nI n))] → W p l e R s m args below meth c H locs cells slots Q (F0 m 66 ls []) := by
  intro d
  induction d with
  | zero =>
    intro k H locs ls hk hyk hB hA hz hq hL hl
    obtain rfl : k = 11 := by omega
    refine lv_iload hx hb d_X_days_66 (lv_at hl 0 rfl) ?_
    refine lv_bipush hx hb d_X_days_68 (v := (nI 10)) rfl ?_
    refine lv_icmp_gt hx hb d_X_days_70 (tgt := 96) (by decide) (fun _ => ?_) (fun hno => absurd (nI_lt (show 10 < 11 by decide) (by decide)) hno)
    exact kk H locs ls hA hz hq hL hl
  | succ d ih =>
    intro k H locs ls hk hyk hB hA hz hq hL hl
    have hdy := tt_db_hi (tt_day g) y n k hyk
    have hle := (tt_db_in hg.2.2.2 k (by omega)).2
    have hdd := hg.2.2.2 y hy
    refine lv_iload hx hb d_X_days_66 (lv_at hl 0 rfl) ?_
    refine lv_bipush hx hb d_X_days_68 (v := (nI 10)) rfl ?_
    refine lv_icmp_gt hx hb d_X_days_70 (tgt := 96) (by decide) (fun hyes => absurd hyes (nI_nlt (show k ≤ 10 by omega) (by decide))) (fun _ => ?_)
    refine lv_aload_n hx hb d_X_days_73 rfl (lv_at hl 2 rfl) ?_
    refine va_get hx hb hts (fun w h => hT w (uX_in w h)) hown hK hB 0 rfl rfl 6 (by decide) (hts _ (hT _ k_X_30)) (fun _ h => h) rfl d_X_days_74 ?_
    refine lv_iload hx hb d_X_days_77 (lv_at hl 0 rfl) ?_
    refine lv_dup2_11 hx hb d_X_days_79 rfl rfl ?_
    refine tq_iald hx hb hK hA 0 0 rfl rfl (show k < 11 by omega) (by decide) d_X_days_80 ?_
    refine tq_ti (show _ = (nI (tt_fst g k)) from (by show nI (if k < k then _ else _) = _; rw [if_neg (Nat.lt_irrefl k)])) ?_
    refine lv_iload_n hx hb d_X_days_81 rfl (lv_at hl 4 rfl) ?_
    refine lv_iload_n hx hb d_X_days_82 rfl (lv_at hl 1 rfl) ?_
    refine lv_isub hx hb d_X_days_83 ?_
    refine lv_sipush hx hb d_X_days_84 (v := (nI 1440)) rfl ?_
    refine lv_imul hx hb d_X_days_87 ?_
    refine lv_iadd hx hb d_X_days_88 ?_
    refine tq_ti (show _ = (nI (tt_fst (ts_day g y n) k)) from (by have e5 : tt_db (tt_day (ts_day g y n)) k = tt_db (fun j => if j = y then n else tt_day g j) k := rfl; rw [show nI 1440 = iZ 1440 from rfl, nI_iZ, nI_iZ, nI_iZ, nI_iZ, iZ_sub, iZ_mul, iZ_add]; congr 1; unfold tt_fst; omega)) ?_
    refine tq_iast (F := txF ad) hx hb hK 0 hA rfl (show k < 11 by omega) (by decide) ⟨6, by decide, rfl⟩ hL d_X_days_89 (fun H1 locs1 hP1 hz1 hq1 hL => ?_)
    have hA : va_P D tcl [(ad 6, .inl (ci 0, 11, .inl (fun j => nI (if j < k + 1 then tt_fst (ts_day g y n) j else tt_fst g j))))] H1 := vP_same hP1 (fun j _ => by unfold upd; by_cases e : j = k; rw [if_pos e, if_pos (by omega), e]; rw [if_neg e]; dsimp only; by_cases e2 : j < k; rw [if_pos e2, if_pos (by omega)]; rw [if_neg e2, if_neg (by omega)])
    have hB := vP_but hB (fun x hx => by rw [List.mem_singleton.mp hx]; exact hD.ne (i := 0) (j := 6) (by decide) (by decide) (by decide)) hq1
    refine lv_iinc hx hb d_X_days_90 hl (k := 0) rfl (v := (nI (k + 1))) (by rw [show Int32.ofInt 1 = 1 from rfl]; exact nI_1 k) (by decide) (lv' := [(4, .int (nI (k + 1))), (3, .int (nI (tt_day g y))), (0, .ref (ad 0)), (1, .int (nI y)), (2, .int (nI n))]) rfl (fun ls hl => ?_)
    refine lv_goto hx hb d_X_days_93 (tgt := 66) (by decide) ?_
    exact ih (k + 1) H1 locs1 ls (by omega) (by omega) hB hA (hz1.trans hz) (fun q h => (hq1 q h).trans (hq q h)) hL hl
end G22
def wXO (D : va_G) (ci : Nat → ClassId) (ad : Nat → Nat) (g : TS) (tc td : Int32) (tn : Nat → Int32) (U : State) (H : Heap) : Prop := tk D ci U ∧ tt_ok g ∧ tx D ci ad g tc td tn H ∧ tx_D ad
theorem wXO_mv {D : va_G} {ci : Nat → ClassId} {ad : Nat → Nat} {g : TS} {tc td : Int32} {tn : Nat → Int32} : tmov (wXO D ci ad g tc td tn) := fun _ _ _ hW h => ⟨tk.moved hW h.1, h.2⟩
set_option maxHeartbeats 4000000 in
set_option maxRecDepth 100000 in
theorem c_X_days (l : Launch) (D : va_G) (ci : Nat → ClassId) (ad : Nat → Nat) (g : TS) (tc td : Int32) (tn : Nat → Int32) {y n : Nat} (hy : y < 10) (hn : n = 365 ∨ n = 366) : Met l y_X_days (wT y_X_days b_X_days 5 (some .int)) (rP 1 21) (tb (wXO D ci ad g tc td tn) [.ref (ad 0), .int (nI y), .int (nI n)]) (qX D ci ad (ts_day g y n) tc (-1) tn (some (.int (nI (tt_day g y))))) 0 0 (txF ad) := by
  refine Met.ofW (cc := b_X_days) (maxL := 5) (ret := (some .int)) (by decide) rfl ?_
  intro p e s m args below meth c s₁ B hml hv
  obtain ⟨rfl, hK, hg, hX, hD⟩ := hv
  have hx := B.exec
  have hb := B.bytes
  have hr := B.returns
  have hts := atoms_spec (ws := wT y_X_days b_X_days 5 (some .int)) B.pre
  have hT : ∀ w ∈ TT, w ∈ wT y_X_days b_X_days 5 (some .int) := wT_T
  have hown : s.vm.findClass RX = some m.cls := findClass_of_methodNamed B.named
  have hlocks := B.notSynchronized
  have hl := lv_entry ([.ref (ad 0), .int (nI y), .int (nI n)]) (n := 5) (Nat.le_of_ble_eq_true rfl)
  rw [lg_entry_eq]
  generalize (lg_sl ([.ref (ad 0), .int (nI y), .int (nI n)]) ++ List.replicate (5 - (lg_sl ([.ref (ad 0), .int (nI y), .int (nI n)])).length) Slot.unset).toArray = ls at hl ⊢
  have hl : lv_has ls 5 [(0, .ref (ad 0)), (1, .int (nI y)), (2, .int (nI n))] := hl
  have hL : ∀ q ∈ ([] : List Loc), txF ad q.base := fun q hq => nomatch hq
  have hO : txO ad s.heap s.heap := txO.rf
  have ey : (nI y).toInt = y := nI_toInt (by omega)
  have en : (nI n).toInt = n := nI_toInt (by omega)
  have h1 := (tt_db_in hg.2.2.2 (y + 1) (by omega)).2
  have h2 : tt_db (tt_day g) (y + 1) = tt_db (tt_day g) y + tt_day g y := rfl
  have h3 := hg.2.2.2 y hy
  refine lv_iload_n hx hb d_X_days_0 rfl (lv_at hl 1 rfl) ?_
  refine tq_S ⟨hx, hb, hml, hown, hts⟩ hT (c_X_isYear l (nI y)) lk_X_84 wN_mv trivial rfl hl.1 rfl (Nat.le_of_ble_eq_true rfl) d_X_days_1 ⟨rfl, rfl, Nat.le_of_ble_eq_true rfl, Nat.le_of_ble_eq_true rfl⟩ ⟨Nat.zero_le _, Nat.zero_le _⟩ ?_
  refine lv_if_ne hx hb d_X_days_4 (tgt := 17) (by decide) (fun q1 => ?_) (fun q1 => ?_)
  · have q1 := zb_t q1
    refine lv_iload_n hx hb d_X_days_17 rfl (lv_at hl 2 rfl) ?_
    refine lv_sipush hx hb d_X_days_18 (v := (nI 365)) rfl ?_
    refine lv_icmp_eq hx hb d_X_days_21 (tgt := 41) (by decide) (fun q2 => ?_) (fun q2 => ?_)
    · have q2 := Int32.toInt_inj.symm.mp q2
      rw [nI_toInt (n := 365) (by decide)] at q2
      refine lv_aload_n hx hb d_X_days_41 rfl (lv_at hl 0 rfl) ?_
      refine va_get hx hb hts (fun w h => hT w (uX_in w h)) hown hK hX.1 0 rfl rfl 6 (by decide) (hts _ (hT _ k_X_30)) (fun _ h => h) rfl d_X_days_42 ?_
      refine lv_iload_n hx hb d_X_days_45 rfl (lv_at hl 1 rfl) ?_
      refine lv_iconst hx hb d_X_days_46 (v := (nI 1)) rfl ?_
      refine lv_iadd hx hb d_X_days_47 ?_
      refine tq_ti (show _ = (nI (y + 1)) from nI_add y 1) ?_
      refine tq_iald hx hb hK hX.1 6 0 rfl rfl (show y + 1 < 11 by omega) (by decide) d_X_days_48 ?_
      refine lv_aload_n hx hb d_X_days_49 rfl (lv_at hl 0 rfl) ?_
      refine va_get hx hb hts (fun w h => hT w (uX_in w h)) hown hK hX.1 0 rfl rfl 6 (by decide) (hts _ (hT _ k_X_30)) (fun _ h => h) rfl d_X_days_50 ?_
      refine lv_iload_n hx hb d_X_days_53 rfl (lv_at hl 1 rfl) ?_
      refine tq_iald hx hb hK hX.1 6 0 rfl rfl (show y < 11 by omega) (by decide) d_X_days_54 ?_
      refine lv_isub hx hb d_X_days_55 ?_
      refine tq_ti (show _ = (nI (tt_fst g (y + 1) - tt_fst g y)) from pk_sub (by unfold tt_fst; omega)) ?_
      refine lv_sipush hx hb d_X_days_56 (v := (nI 1440)) rfl ?_
      refine lv_idiv hx hb d_X_days_59 (by decide) ?_
      refine tq_ti (show _ = (nI (tt_day g y)) from (by rw [show nI 1440 = nI 1440 from rfl, pk_div (by unfold tt_fst; omega) (by decide) (by decide)]; congr 1; unfold tt_fst; omega)) ?_
      refine lv_istore_n hx hb d_X_days_60 rfl hl (by decide) (lv' := [(3, .int (nI (tt_day g y))), (0, .ref (ad 0)), (1, .int (nI y)), (2, .int (nI n))]) rfl (fun ls hl => ?_)
      refine lv_iload_n hx hb d_X_days_61 rfl (lv_at hl 2 rfl) ?_
      refine lv_iconst hx hb d_X_days_62 (v := (nI 1)) rfl ?_
      refine lv_iadd hx hb d_X_days_63 ?_
      refine tq_ti (show _ = (nI (y + 1)) from nI_add y 1) ?_
      refine lv_istore hx hb d_X_days_64 hl (by decide) (lv' := [(4, .int (nI (y + 1))), (3, .int (nI (tt_day g y))), (0, .ref (ad 0)), (1, .int (nI y)), (2, .int (nI n))]) rfl (fun ls hl => ?_)
      refine l_X_days hx hb hts hT hown hK hg hD (H0 := s.heap) hy (by omega) (fun H1 locs1 ls hA hz1 hq1 hL hl => ?_) (10 - y) (y + 1) s.heap [] ls (by omega) (by omega) (tx_one hX 0 rfl) (vP_same (tx_one hX 6 rfl) (fun j _ => by by_cases e : j < y + 1; rw [if_pos e]; exact (congrArg (fun z => nI (1440 * z)) (tt_db_lo (tt_day g) y n j (by omega))).symm; rw [if_neg e])) rfl (fun _ _ => rfl) hL hl
      have hA := vP_same (f' := fun j => nI (tt_fst (ts_day g y n) j)) hA (fun j hj => by rw [if_pos hj])
      have hX : tx D ci ad (ts_day g y n) tc td tn H1 := tx_set hD hX 6 (by decide) rfl rfl rfl hA (fun j hj => by rcases j with _ | _ | _ | _ | _ | _ | _ | _ | j <;> first | rfl | exact absurd rfl hj) hq1
      have hO := hO.tr (txO.put (k := 6) (by decide) hz1 hq1)
      refine lv_aload_n hx hb d_X_days_96 rfl (lv_at hl 2 rfl) ?_
      refine tq_VW ⟨hx, hb, hml, hown, hts⟩ hT (c_X_forgetTurns l D ci ad (ts_day g y n) tc td tn) lk_X_81 wXW_mv ⟨hK, hX, hD⟩ (wXW_rc hK hX) rfl hl.1 rfl (Nat.le_of_ble_eq_true rfl) d_X_days_97 ⟨rfl, rfl, Nat.le_of_ble_eq_true rfl, Nat.le_of_ble_eq_true rfl⟩ ⟨Nat.zero_le _, Nat.zero_le _⟩ hL (fun v9 H1 locs1 hF9 hL => ?_)
      obtain ⟨rfl, hX, hO9⟩ := hF9
      have hO := hO.tr hO9
      refine lv_iload_n hx hb d_X_days_100 rfl (lv_at hl 1 rfl) ?_
      exact W.iret hx hb hr (fun t ht hW => ⟨_, rfl, rfl, by rw [ht]; exact hX, by rw [ht]; exact hO⟩) hL d_X_days_101
    · have q2 := mt Int32.toInt_inj.symm.mpr q2
      rw [nI_toInt (n := 365) (by decide)] at q2
      refine lv_iload_n hx hb d_X_days_24 rfl (lv_at hl 2 rfl) ?_
      refine lv_sipush hx hb d_X_days_25 (v := (nI 366)) rfl ?_
      refine lv_icmp_eq hx hb d_X_days_28 (tgt := 41) (by decide) (fun q3 => ?_) (fun q3 => ?_)
      · have q3 := Int32.toInt_inj.symm.mp q3
        rw [nI_toInt (n := 366) (by decide)] at q3
        refine lv_aload_n hx hb d_X_days_41 rfl (lv_at hl 0 rfl) ?_
        refine va_get hx hb hts (fun w h => hT w (uX_in w h)) hown hK hX.1 0 rfl rfl 6 (by decide) (hts _ (hT _ k_X_30)) (fun _ h => h) rfl d_X_days_42 ?_
        refine lv_iload_n hx hb d_X_days_45 rfl (lv_at hl 1 rfl) ?_
        refine lv_iconst hx hb d_X_days_46 (v := (nI 1)) rfl ?_
        refine lv_iadd hx hb d_X_days_47 ?_
        refine tq_ti (show _ = (nI (y + 1)) from nI_add y 1) ?_
        refine tq_iald hx hb hK hX.1 6 0 rfl rfl (show y + 1 < 11 by omega) (by decide) d_X_days_48 ?_
        refine lv_aload_n hx hb d_X_days_49 rfl (lv_at hl 0 rfl) ?_
        refine va_get hx hb hts (fun w h => hT w (uX_in w h)) hown hK hX.1 0 rfl rfl 6 (by decide) (hts _ (hT _ k_X_30)) (fun _ h => h) rfl d_X_days_50 ?_
        refine lv_iload_n hx hb d_X_days_53 rfl (lv_at hl 1 rfl) ?_
        refine tq_iald hx hb hK hX.1 6 0 rfl rfl (show y < 11 by omega) (by decide) d_X_days_54 ?_
        refine lv_isub hx hb d_X_days_55 ?_
        refine tq_ti (show _ = (nI (tt_fst g (y + 1) - tt_fst g y)) from pk_sub (by unfold tt_fst; omega)) ?_
        refine lv_sipush hx hb d_X_days_56 (v := (nI 1440)) rfl ?_
        refine lv_idiv hx hb d_X_days_59 (by decide) ?_
        refine tq_ti (show _ = (nI (tt_day g y)) from (by rw [show nI 1440 = nI 1440 from rfl, pk_div (by unfold tt_fst; omega) (by decide) (by decide)]; congr 1; unfold tt_fst; omega)) ?_
        refine lv_istore_n hx hb d_X_days_60 rfl hl (by decide) (lv' := [(3, .int (nI (tt_day g y))), (0, .ref (ad 0)), (1, .int (nI y)), (2, .int (nI n))]) rfl (fun ls hl => ?_)
        refine lv_iload_n hx hb d_X_days_61 rfl (lv_at hl 2 rfl) ?_
        refine lv_iconst hx hb d_X_days_62 (v := (nI 1)) rfl ?_
        refine lv_iadd hx hb d_X_days_63 ?_
        refine tq_ti (show _ = (nI (y + 1)) from nI_add y 1) ?_
        refine lv_istore hx hb d_X_days_64 hl (by decide) (lv' := [(4, .int (nI (y + 1))), (3, .int (nI (tt_day g y))), (0, .ref (ad 0)), (1, .int (nI y)), (2, .int (nI n))]) rfl (fun ls hl => ?_)
        refine l_X_days hx hb hts hT hown hK hg hD (H0 := s.heap) hy (by omega) (fun H1 locs1 ls hA hz1 hq1 hL hl => ?_) (10 - y) (y + 1) s.heap [] ls (by omega) (by omega) (tx_one hX 0 rfl) (vP_same (tx_one hX 6 rfl) (fun j _ => by by_cases e : j < y + 1; rw [if_pos e]; exact (congrArg (fun z => nI (1440 * z)) (tt_db_lo (tt_day g) y n j (by omega))).symm; rw [if_neg e])) rfl (fun _ _ => rfl) hL hl
        have hA := vP_same (f' := fun j => nI (tt_fst (ts_day g y n) j)) hA (fun j hj => by rw [if_pos hj])
        have hX : tx D ci ad (ts_day g y n) tc td tn H1 := tx_set hD hX 6 (by decide) rfl rfl rfl hA (fun j hj => by rcases j with _ | _ | _ | _ | _ | _ | _ | _ | j <;> first | rfl | exact absurd rfl hj) hq1
        have hO := hO.tr (txO.put (k := 6) (by decide) hz1 hq1)
        refine lv_aload_n hx hb d_X_days_96 rfl (lv_at hl 2 rfl) ?_
        refine tq_VW ⟨hx, hb, hml, hown, hts⟩ hT (c_X_forgetTurns l D ci ad (ts_day g y n) tc td tn) lk_X_81 wXW_mv ⟨hK, hX, hD⟩ (wXW_rc hK hX) rfl hl.1 rfl (Nat.le_of_ble_eq_true rfl) d_X_days_97 ⟨rfl, rfl, Nat.le_of_ble_eq_true rfl, Nat.le_of_ble_eq_true rfl⟩ ⟨Nat.zero_le _, Nat.zero_le _⟩ hL (fun v9 H1 locs1 hF9 hL => ?_)
        obtain ⟨rfl, hX, hO9⟩ := hF9
        have hO := hO.tr hO9
        refine lv_iload_n hx hb d_X_days_100 rfl (lv_at hl 1 rfl) ?_
        exact W.iret hx hb hr (fun t ht hW => ⟨_, rfl, rfl, by rw [ht]; exact hX, by rw [ht]; exact hO⟩) hL d_X_days_101
      · have q3 := mt Int32.toInt_inj.symm.mpr q3
        rw [nI_toInt (n := 366) (by decide)] at q3
        exfalso
        omega
  · have q1 := zb_f q1
    exfalso
    omega
set_option maxHeartbeats 4000000 in
set_option maxRecDepth 100000 in
theorem x_X_daysI (l : Launch) (htr : l.stackTraces = false) (D : va_G) (ci : Nat → ClassId) (ad : Nat → Nat) (g : TS) (tc td : Int32) (tn : Nat → Int32) (u v : Int32) (hv0 : ¬ (0 ≤ u.toInt ∧ u.toInt < 10)) : vx_Met l y_X_days (wT y_X_days b_X_days 5 (some .int)) ({ frames := 6, cells := 1, slots := 6, locals := 82 }) (tb (wXE D ci ad g tc td tn) [.ref (ad 0), .int u, .int v]) tw_N (vx_X (fun _ : Unit => True) (fun E _ _ => E = eI) (fun _ => False)) 1 6 tq_n := by
  refine vx_ofW (cc := b_X_days) (maxL := 5) (ret := (some .int)) (by decide) rfl ?_
  intro p e s m args below meth c s₁ B hml hno hv
  obtain ⟨rfl, ⟨hK, hg, hX⟩, hE⟩ := hv
  have hx := B.exec
  have hb := B.bytes
  have hr := B.returns
  have hts := atoms_spec (ws := wT y_X_days b_X_days 5 (some .int)) B.pre
  have hT : ∀ w ∈ TT, w ∈ wT y_X_days b_X_days 5 (some .int) := wT_T
  have hown : s.vm.findClass RX = some m.cls := findClass_of_methodNamed B.named
  have hlocks := B.notSynchronized
  have hl := lv_entry ([.ref (ad 0), .int u, .int v]) (n := 5) (Nat.le_of_ble_eq_true rfl)
  rw [lg_entry_eq]
  generalize (lg_sl ([.ref (ad 0), .int u, .int v]) ++ List.replicate (5 - (lg_sl ([.ref (ad 0), .int u, .int v])).length) Slot.unset).toArray = ls at hl ⊢
  have hl : lv_has ls 5 [(0, .ref (ad 0)), (1, .int u), (2, .int v)] := hl
  refine lv_iload_n hx hb d_X_days_0 rfl (lv_at hl 1 rfl) ?_
  refine tq_S ⟨hx, hb, hml, hown, hts⟩ hT (c_X_isYear l u) lk_X_84 wN_mv trivial rfl hl.1 rfl (Nat.le_of_ble_eq_true rfl) d_X_days_1 ⟨rfl, rfl, Nat.le_of_ble_eq_true rfl, Nat.le_of_ble_eq_true rfl⟩ ⟨Nat.zero_le _, Nat.zero_le _⟩ ?_
  refine lv_if_ne hx hb d_X_days_4 (tgt := 17) (by decide) (fun q1 => ?_) (fun q1 => ?_)
  · have q1 := zb_t q1
    exfalso
    omega
  · have q1 := zb_f q1
    exact tw_I hx hb htr hown (fun w h => hts w (hT w h)) hE (fun _ _ _ h => h) (is := 94) (text := "no such year") (by decide) va_S.rf (hl.1.trans hml.symm) d_X_days_7 d_X_days_10 d_X_days_11 d_X_days_13 d_X_days_16 hno ⟨by decide, by decide, by decide, by decide⟩ hlocks (fun t ha h1 h2 => ⟨(), trivial, rfl, h1, fun q hq _ => h2 q hq⟩) (fun z hz => nomatch hz) (Nat.le_refl _) (Nat.le_refl _)
set_option maxHeartbeats 4000000 in
set_option maxRecDepth 100000 in
theorem x_X_daysA (l : Launch) (htr : l.stackTraces = false) (D : va_G) (ci : Nat → ClassId) (ad : Nat → Nat) (g : TS) (tc td : Int32) (tn : Nat → Int32) (u v : Int32) (hv1 : 0 ≤ u.toInt ∧ u.toInt < 10) (hv0 : ¬ (v.toInt = 365 ∨ v.toInt = 366)) : vx_Met l y_X_days (wT y_X_days b_X_days 5 (some .int)) ({ frames := 6, cells := 1, slots := 6, locals := 82 }) (tb (wXE D ci ad g tc td tn) [.ref (ad 0), .int u, .int v]) tw_N (vx_X (fun _ : Unit => True) (fun E _ _ => E = eA) (fun _ => False)) 1 6 tq_n := by
  refine vx_ofW (cc := b_X_days) (maxL := 5) (ret := (some .int)) (by decide) rfl ?_
  intro p e s m args below meth c s₁ B hml hno hv
  obtain ⟨rfl, ⟨hK, hg, hX⟩, hE⟩ := hv
  have hx := B.exec
  have hb := B.bytes
  have hr := B.returns
  have hts := atoms_spec (ws := wT y_X_days b_X_days 5 (some .int)) B.pre
  have hT : ∀ w ∈ TT, w ∈ wT y_X_days b_X_days 5 (some .int) := wT_T
  have hown : s.vm.findClass RX = some m.cls := findClass_of_methodNamed B.named
  have hlocks := B.notSynchronized
  have hl := lv_entry ([.ref (ad 0), .int u, .int v]) (n := 5) (Nat.le_of_ble_eq_true rfl)
  rw [lg_entry_eq]
  generalize (lg_sl ([.ref (ad 0), .int u, .int v]) ++ List.replicate (5 - (lg_sl ([.ref (ad 0), .int u, .int v])).length) Slot.unset).toArray = ls at hl ⊢
  have hl : lv_has ls 5 [(0, .ref (ad 0)), (1, .int u), (2, .int v)] := hl
  refine lv_iload_n hx hb d_X_days_0 rfl (lv_at hl 1 rfl) ?_
  refine tq_S ⟨hx, hb, hml, hown, hts⟩ hT (c_X_isYear l u) lk_X_84 wN_mv trivial rfl hl.1 rfl (Nat.le_of_ble_eq_true rfl) d_X_days_1 ⟨rfl, rfl, Nat.le_of_ble_eq_true rfl, Nat.le_of_ble_eq_true rfl⟩ ⟨Nat.zero_le _, Nat.zero_le _⟩ ?_
  refine lv_if_ne hx hb d_X_days_4 (tgt := 17) (by decide) (fun q1 => ?_) (fun q1 => ?_)
  · have q1 := zb_t q1
    refine lv_iload_n hx hb d_X_days_17 rfl (lv_at hl 2 rfl) ?_
    refine lv_sipush hx hb d_X_days_18 (v := (nI 365)) rfl ?_
    refine lv_icmp_eq hx hb d_X_days_21 (tgt := 41) (by decide) (fun q2 => ?_) (fun q2 => ?_)
    · have q2 := Int32.toInt_inj.symm.mp q2
      rw [nI_toInt (n := 365) (by decide)] at q2
      exfalso
      omega
    · have q2 := mt Int32.toInt_inj.symm.mpr q2
      rw [nI_toInt (n := 365) (by decide)] at q2
      refine lv_iload_n hx hb d_X_days_24 rfl (lv_at hl 2 rfl) ?_
      refine lv_sipush hx hb d_X_days_25 (v := (nI 366)) rfl ?_
      refine lv_icmp_eq hx hb d_X_days_28 (tgt := 41) (by decide) (fun q3 => ?_) (fun q3 => ?_)
      · have q3 := Int32.toInt_inj.symm.mp q3
        rw [nI_toInt (n := 366) (by decide)] at q3
        exfalso
        omega
      · have q3 := mt Int32.toInt_inj.symm.mpr q3
        rw [nI_toInt (n := 366) (by decide)] at q3
        exact tw_A hx hb htr hown (fun w h => hts w (hT w h)) hE (fun _ _ _ h => h) (is := 96) (text := "a year has 365 or 366 days") (by decide) va_S.rf (hl.1.trans hml.symm) d_X_days_31 d_X_days_34 d_X_days_35 d_X_days_37 d_X_days_40 hno ⟨by decide, by decide, by decide, by decide⟩ hlocks (fun t ha h1 h2 => ⟨(), trivial, rfl, h1, fun q hq _ => h2 q hq⟩) (fun z hz => nomatch hz) (Nat.le_refl _) (Nat.le_refl _)
  · have q1 := zb_f q1
    exfalso
    omega
end
section
/-! the search for a day's extremes. Written by wip/whole/gen.py -/
def tt_dh (g : TS) (d : Nat) : Nat → Int := fun k => tt_hgt g (1440 * d + k)
/-- the extremes L of day d are kept in tc, tn -/
def tt_C (d : Nat) (L : List Nat) (tc : Int32) (tn : Nat → Int32) : Prop := tc = nI L.length ∧ ∀ i, i < L.length → tn i = nI (1440 * d + L.getD i 0)
theorem tt_C_add {d : Nat} {L : List Nat} {tc : Int32} {tn : Nat → Int32} {r : Nat} (h : tt_C d L tc tn) : tt_C d (L ++ [r]) (nI (L.length + 1)) (upd tn L.length (nI (1440 * d + r))) := by
  refine ⟨by rw [List.length_append]; rfl, fun i hi => ?_⟩
  rw [List.length_append, List.length_singleton] at hi
  unfold upd
  by_cases e : i = L.length
  · rw [if_pos e, e]
    simp
  · rw [if_neg e, h.2 i (by omega)]
    simp [List.getElem?_append, show i < L.length by omega]
theorem tt_row_len {h : Nat → Int} {k r : Nat} {c : Int} (q : tt_row h k r c) : (tt_L h r).length ≤ 1439 := by
  have := tt_L_len h r
  have h1 := q.1
  have h2 := q.2.1
  omega
section G23
variable {p : Program} {l : Launch} {e : Env} {R : Room} {s : State} {m : MethodId} {args : Array Value} {below : List Frame} {meth : Method} {c : Code} {cells slots : Nat} {Q : State → Prop} {Ts : List Cond}
variable {D : va_G} {ci : Nat → ClassId} {ad : Nat → Nat} {g : TS} {td : Int32}
set_option maxHeartbeats 4000000 in
set_option maxRecDepth 100000 in
theorem l_X_findTurns (hx : p.tables.exec = Jvm.exec) (hb : c.code = b_X_findTurns) (hts : ∀ w ∈ Ts, w.before args s = true) (hT : ∀ w ∈ TT, w ∈ Ts) (hown : s.vm.findClass RX = some m.cls) (hml : c.maxLocals = 8) (hK : tk D ci s) (hg : tt_ok g) (hD : tx_D ad) (hR : 2 + 1 ≤ R.frames ∧ 8 + (6 + 11) + 59 ≤ R.locals) (hf : cells ≤ R.cells ∧ slots ≤ R.slots) {H0 : Heap} {dd : Nat} (hd : dd < 5000)
    (kk : ∀ (tc : Int32) (tn : Nat → Int32) (H : Heap) (locs : List Loc) (ls : Array Slot), tx D ci ad g tc td tn H → tt_C dd (tt_L (tt_dh g dd) 1440) tc tn → txO ad H0 H → (∀ q ∈ locs, txF ad q.base) → W p l e R s m args below meth c H locs cells slots Q (F0 m 114 ls [])) :
    ∀ (n k r : Nat) (cb : Int) (tc : Int32) (tn : Nat → Int32) (H : Heap) (locs : List Loc) (ls : Array Slot), k + n = 1440 → tt_row (tt_dh g dd) k r cb → tx D ci ad g tc td tn H → tt_C dd (tt_L (tt_dh g dd) r) tc tn → txO ad H0 H → (∀ q ∈ locs, txF ad q.base) → lv_has ls 8 [(5, .int (nI (1440 * dd + k))), (4, .int (iZ cb)), (3, .int (iZ (tt_dh g dd r))), (2, .int (nI (1440 * dd + r))), (0, .ref (ad 0)), (1, .int (nI (1440 * dd)))] → W p l e R s m args below meth c H locs cells slots Q (F0 m 21 ls []) := by
  intro n
  induction n with
  | zero =>
    intro k r cb tc tn H locs ls hk hrow hX hC hO hL hl
    obtain rfl : k = 1440 := by omega
    refine lv_iload hx hb d_X_findTurns_21 (lv_at hl 0 rfl) ?_
    refine lv_iload_n hx hb d_X_findTurns_23 rfl (lv_at hl 5 rfl) ?_
    refine lv_sipush hx hb d_X_findTurns_24 (v := (nI 1440)) rfl ?_
    refine lv_iadd hx hb d_X_findTurns_27 ?_
    refine tq_ti (show _ = (nI (1440 * dd + 1440)) from nI_add _ _) ?_
    refine lv_icmp_ge hx hb d_X_findTurns_28 (tgt := 114) (by decide) (fun _ => ?_) (fun hno => absurd (nI_le (Nat.le_refl _) (by omega)) hno)
    exact kk tc tn H locs ls hX (by rw [tt_row_end hrow]; exact hC) hO hL
  | succ n ih =>
    intro k r cb tc tn H locs ls hk hrow hX hC hO hL hl
    have h1 : -2000000 ≤ tt_dh g dd k ∧ tt_dh g dd k ≤ 2000000 := tt_hgt_in hg _
    have h2 : -2000000 ≤ tt_dh g dd r ∧ tt_dh g dd r ≤ 2000000 := tt_hgt_in hg _
    have hlen := tt_row_len hrow
    have hk4 : k < 1440 := by omega
    have hrk := hrow.1
    have hcb : -1 ≤ cb ∧ cb ≤ 1 := by rcases hrow.2.2.2 with h | h | h <;> omega
    refine lv_iload hx hb d_X_findTurns_21 (lv_at hl 0 rfl) ?_
    refine lv_iload_n hx hb d_X_findTurns_23 rfl (lv_at hl 5 rfl) ?_
    refine lv_sipush hx hb d_X_findTurns_24 (v := (nI 1440)) rfl ?_
    refine lv_iadd hx hb d_X_findTurns_27 ?_
    refine tq_ti (show _ = (nI (1440 * dd + 1440)) from nI_add _ _) ?_
    refine lv_icmp_ge hx hb d_X_findTurns_28 (tgt := 114) (by decide) (fun hyes => absurd hyes (nI_ge (show 1440 * dd + k < 1440 * dd + 1440 by omega) (by omega))) (fun _ => ?_)
    refine lv_aload_n hx hb d_X_findTurns_31 rfl (lv_at hl 4 rfl) ?_
    refine lv_iload hx hb d_X_findTurns_32 (lv_at hl 0 rfl) ?_
    refine tq_V ⟨hx, hb, hml, hown, hts⟩ hT (c_X_heightAt l D ci ad g tc td tn (mm := 1440 * dd + k) (by omega)) lk_X_119 wX_mv ⟨hK, hg, hX⟩ (wX_rc ⟨hK, hg, hX⟩) rfl hl.1 rfl (Nat.le_of_ble_eq_true rfl) d_X_findTurns_34 ⟨rfl, rfl, hR⟩ hf ?_
    refine lv_istore hx hb d_X_findTurns_37 hl (by decide) (lv' := [(6, .int (iZ (tt_dh g dd k))), (5, .int (nI (1440 * dd + k))), (4, .int (iZ cb)), (3, .int (iZ (tt_dh g dd r))), (2, .int (nI (1440 * dd + r))), (0, .ref (ad 0)), (1, .int (nI (1440 * dd)))]) rfl (fun ls hl => ?_)
    refine lv_iload hx hb d_X_findTurns_39 (lv_at hl 0 rfl) ?_
    refine lv_iload_n hx hb d_X_findTurns_41 rfl (lv_at hl 3 rfl) ?_
    refine lv_icmp_eq hx hb d_X_findTurns_42 (tgt := 108) (by decide) (fun h3 => ?_) (fun h3 => ?_)
    · have h3 := (iZ_eq (by omega) (by omega) (by omega) (by omega)).mp h3
      refine lv_iinc hx hb d_X_findTurns_108 hl (k := 1) rfl (v := (nI (1440 * dd + (k + 1)))) (by rw [show Int32.ofInt 1 = 1 from rfl]; exact nI_1 _) (by decide) (lv' := [(5, .int (nI (1440 * dd + (k + 1)))), (6, .int (iZ (tt_dh g dd k))), (4, .int (iZ cb)), (3, .int (iZ (tt_dh g dd r))), (2, .int (nI (1440 * dd + r))), (0, .ref (ad 0)), (1, .int (nI (1440 * dd)))]) rfl (fun ls hl => ?_)
      refine lv_goto hx hb d_X_findTurns_111 (tgt := 21) (by decide) ?_
      have hl := lv_sub hl (l' := [(5, .int (nI (1440 * dd + (k + 1)))), (4, .int (iZ cb)), (3, .int (iZ (tt_dh g dd r))), (2, .int (nI (1440 * dd + r))), (0, .ref (ad 0)), (1, .int (nI (1440 * dd)))]) [0, 2, 3, 4, 5, 6] rfl
      exact ih (k + 1) r cb tc tn H locs ls (by omega) (tt_row_on hrow hk4 h3) hX hC hO hL hl
    · have h3 := mt (iZ_eq (by omega) (by omega) (by omega) (by omega)).mpr h3
      refine lv_iload hx hb d_X_findTurns_45 (lv_at hl 0 rfl) ?_
      refine lv_iload_n hx hb d_X_findTurns_47 rfl (lv_at hl 3 rfl) ?_
      refine lv_icmp_le hx hb d_X_findTurns_48 (tgt := 55) (by decide) (fun h4 => ?_) (fun h4 => ?_)
      · have h4 := (iZ_le (by omega) (by omega) (by omega) (by omega)).mp h4
        refine lv_iconst hx hb d_X_findTurns_55 (v := (-1)) rfl ?_
        refine lv_istore hx hb d_X_findTurns_56 hl (by decide) (lv' := [(7, .int (-1)), (6, .int (iZ (tt_dh g dd k))), (5, .int (nI (1440 * dd + k))), (4, .int (iZ cb)), (3, .int (iZ (tt_dh g dd r))), (2, .int (nI (1440 * dd + r))), (0, .ref (ad 0)), (1, .int (nI (1440 * dd)))]) rfl (fun ls hl => ?_)
        refine lv_iload hx hb d_X_findTurns_58 (lv_at hl 3 rfl) ?_
        refine lv_iload hx hb d_X_findTurns_60 (lv_at hl 0 rfl) ?_
        refine lv_ineg hx hb d_X_findTurns_62 ?_
        refine tq_ti (show _ = (iZ 1) from rfl) ?_
        refine lv_icmp_ne hx hb d_X_findTurns_63 (tgt := 98) (by decide) (fun h5 => ?_) (fun h5 => ?_)
        · have h5 := mt (iZ_eq (by omega) (by omega) (by omega) (by omega)).mpr h5
          have hT9 : tt_T (tt_dh g dd) r = false := by
            have := mt (tt_row_T hrow hk4 h3).mp (by omega)
            simpa using this
          have hC : tt_C dd (tt_L (tt_dh g dd) k) tc tn := by rw [tt_row_L hrow, hT9]; exact hC
          refine lv_iload hx hb d_X_findTurns_98 (lv_at hl 0 rfl) ?_
          refine lv_istore hx hb d_X_findTurns_100 hl (by decide) (lv' := [(4, .int (-1)), (7, .int (-1)), (6, .int (iZ (tt_dh g dd k))), (5, .int (nI (1440 * dd + k))), (3, .int (iZ (tt_dh g dd r))), (2, .int (nI (1440 * dd + r))), (0, .ref (ad 0)), (1, .int (nI (1440 * dd)))]) rfl (fun ls hl => ?_)
          refine lv_iload hx hb d_X_findTurns_102 (lv_at hl 3 rfl) ?_
          refine lv_istore_n hx hb d_X_findTurns_104 rfl hl (by decide) (lv' := [(2, .int (nI (1440 * dd + k))), (4, .int (-1)), (7, .int (-1)), (6, .int (iZ (tt_dh g dd k))), (5, .int (nI (1440 * dd + k))), (3, .int (iZ (tt_dh g dd r))), (0, .ref (ad 0)), (1, .int (nI (1440 * dd)))]) rfl (fun ls hl => ?_)
          refine lv_iload hx hb d_X_findTurns_105 (lv_at hl 3 rfl) ?_
          refine lv_istore_n hx hb d_X_findTurns_107 rfl hl (by decide) (lv' := [(3, .int (iZ (tt_dh g dd k))), (2, .int (nI (1440 * dd + k))), (4, .int (-1)), (7, .int (-1)), (6, .int (iZ (tt_dh g dd k))), (5, .int (nI (1440 * dd + k))), (0, .ref (ad 0)), (1, .int (nI (1440 * dd)))]) rfl (fun ls hl => ?_)
          refine lv_iinc hx hb d_X_findTurns_108 hl (k := 5) rfl (v := (nI (1440 * dd + (k + 1)))) (by rw [show Int32.ofInt 1 = 1 from rfl]; exact nI_1 _) (by decide) (lv' := [(5, .int (nI (1440 * dd + (k + 1)))), (3, .int (iZ (tt_dh g dd k))), (2, .int (nI (1440 * dd + k))), (4, .int (-1)), (7, .int (-1)), (6, .int (iZ (tt_dh g dd k))), (0, .ref (ad 0)), (1, .int (nI (1440 * dd)))]) rfl (fun ls hl => ?_)
          refine lv_goto hx hb d_X_findTurns_111 (tgt := 21) (by decide) ?_
          have hl := lv_sub hl (l' := [(5, .int (nI (1440 * dd + (k + 1)))), (4, .int (-1)), (3, .int (iZ (tt_dh g dd k))), (2, .int (nI (1440 * dd + k))), (0, .ref (ad 0)), (1, .int (nI (1440 * dd)))]) [0, 3, 1, 2, 6, 7] rfl
          exact ih (k + 1) k (-1) tc tn H locs ls (by omega) (tt_row_down hrow hk4 (by omega)) hX hC hO hL hl
        · have h5 := (iZ_eq (by omega) (by omega) (by omega) (by omega)).mp h5
          have hT9 : tt_T (tt_dh g dd) r = true := (tt_row_T hrow hk4 h3).mpr (by omega)
          refine lv_aload_n hx hb d_X_findTurns_66 rfl (lv_at hl 6 rfl) ?_
          refine va_get hx hb hts (fun w h => hT w (uX_in w h)) hown hK hX.1 0 rfl rfl 8 (by decide) (hts _ (hT _ k_X_196)) (fun _ h => h) rfl d_X_findTurns_67 ?_
          refine lv_aload_n hx hb d_X_findTurns_70 rfl (lv_at hl 6 rfl) ?_
          refine va_get hx hb hts (fun w h => hT w (uX_in w h)) hown hK hX.1 0 rfl rfl 7 (by decide) (hts _ (hT _ k_X_33)) (fun _ h => h) rfl d_X_findTurns_71 ?_
          refine va_alen hx hb hK hX.1 7 0 rfl rfl (v := nI 1440) rfl d_X_findTurns_74 ?_
          have ht := hC.1
          refine lv_icmp_ge hx hb d_X_findTurns_75 (tgt := 98) (by decide) (fun hyes => absurd hyes (by rw [ht]; exact nI_ge (show (tt_L (tt_dh g dd) r).length < 1440 by omega) (by decide))) (fun _ => ?_)
          refine lv_aload_n hx hb d_X_findTurns_78 rfl (lv_at hl 6 rfl) ?_
          refine va_get hx hb hts (fun w h => hT w (uX_in w h)) hown hK hX.1 0 rfl rfl 7 (by decide) (hts _ (hT _ k_X_33)) (fun _ h => h) rfl d_X_findTurns_79 ?_
          refine lv_aload_n hx hb d_X_findTurns_82 rfl (lv_at hl 6 rfl) ?_
          refine va_get hx hb hts (fun w h => hT w (uX_in w h)) hown hK hX.1 0 rfl rfl 8 (by decide) (hts _ (hT _ k_X_196)) (fun _ h => h) rfl d_X_findTurns_83 ?_
          refine lv_iload_n hx hb d_X_findTurns_86 rfl (lv_at hl 5 rfl) ?_
          subst ht
          refine tq_iast (F := txF ad) hx hb hK 0 (tx_one hX 7 rfl) rfl (show (tt_L (tt_dh g dd) r).length < 1440 by omega) (by decide) ⟨7, by decide, rfl⟩ hL d_X_findTurns_87 (fun H1 locs1 hP1 hz1 hq1 hL => ?_)
          have hX := tx_set hD hX 7 (by decide) (g' := g) (tc' := nI (tt_L (tt_dh g dd) r).length) (td' := td) (tn' := upd tn (tt_L (tt_dh g dd) r).length (nI (1440 * dd + r))) rfl rfl rfl hP1 (fun j hj => by rcases j with _ | _ | _ | _ | _ | _ | _ | _ | j <;> first | rfl | exact absurd rfl hj) hq1
          have hO := hO.tr (txO.put (k := 7) (by decide) hz1 hq1)
          refine lv_aload_n hx hb d_X_findTurns_88 rfl (lv_at hl 6 rfl) ?_
          refine lv_dup hx hb d_X_findTurns_89 rfl ?_
          refine va_get hx hb hts (fun w h => hT w (uX_in w h)) hown hK hX.1 0 rfl rfl 8 (by decide) (hts _ (hT _ k_X_196)) (fun _ h => h) rfl d_X_findTurns_90 ?_
          refine lv_iconst hx hb d_X_findTurns_93 (v := (nI 1)) rfl ?_
          refine lv_iadd hx hb d_X_findTurns_94 ?_
          refine tq_ti (show _ = (nI ((tt_L (tt_dh g dd) r).length + 1)) from nI_add _ 1) ?_
          refine tq_put (F := txF ad) hx hb hts (fun w h => hT w (uX_in w h)) tX tX_ok nX hown hK (tx_one hX 0 rfl) (ci := 0) rfl 8 (by decide) (hts _ (hT _ k_X_196)) (fun _ h => h) rfl (ty := .int) rfl rfl rfl (Nat.le_of_ble_eq_true rfl) ⟨0, by decide, rfl⟩ hL d_X_findTurns_95 (fun H1 locs1 hP1 hz1 hq1 hL => ?_)
          have hX : tx D ci ad g (nI ((tt_L (tt_dh g dd) r).length + 1)) td (upd tn (tt_L (tt_dh g dd) r).length (nI (1440 * dd + r))) H1 := tx_set hD hX 0 (by decide) rfl rfl rfl hP1 (fun j hj => by rcases j with _ | _ | _ | _ | _ | _ | _ | _ | j <;> first | rfl | exact absurd rfl hj) hq1
          have hO := hO.tr (txO.put (k := 0) (by decide) hz1 hq1)
          have hC : tt_C dd (tt_L (tt_dh g dd) k) (nI ((tt_L (tt_dh g dd) r).length + 1)) (upd tn (tt_L (tt_dh g dd) r).length (nI (1440 * dd + r))) := by rw [tt_row_L hrow, hT9]; exact tt_C_add hC
          refine lv_iload hx hb d_X_findTurns_98 (lv_at hl 0 rfl) ?_
          refine lv_istore hx hb d_X_findTurns_100 hl (by decide) (lv' := [(4, .int (-1)), (7, .int (-1)), (6, .int (iZ (tt_dh g dd k))), (5, .int (nI (1440 * dd + k))), (3, .int (iZ (tt_dh g dd r))), (2, .int (nI (1440 * dd + r))), (0, .ref (ad 0)), (1, .int (nI (1440 * dd)))]) rfl (fun ls hl => ?_)
          refine lv_iload hx hb d_X_findTurns_102 (lv_at hl 3 rfl) ?_
          refine lv_istore_n hx hb d_X_findTurns_104 rfl hl (by decide) (lv' := [(2, .int (nI (1440 * dd + k))), (4, .int (-1)), (7, .int (-1)), (6, .int (iZ (tt_dh g dd k))), (5, .int (nI (1440 * dd + k))), (3, .int (iZ (tt_dh g dd r))), (0, .ref (ad 0)), (1, .int (nI (1440 * dd)))]) rfl (fun ls hl => ?_)
          refine lv_iload hx hb d_X_findTurns_105 (lv_at hl 3 rfl) ?_
          refine lv_istore_n hx hb d_X_findTurns_107 rfl hl (by decide) (lv' := [(3, .int (iZ (tt_dh g dd k))), (2, .int (nI (1440 * dd + k))), (4, .int (-1)), (7, .int (-1)), (6, .int (iZ (tt_dh g dd k))), (5, .int (nI (1440 * dd + k))), (0, .ref (ad 0)), (1, .int (nI (1440 * dd)))]) rfl (fun ls hl => ?_)
          refine lv_iinc hx hb d_X_findTurns_108 hl (k := 5) rfl (v := (nI (1440 * dd + (k + 1)))) (by rw [show Int32.ofInt 1 = 1 from rfl]; exact nI_1 _) (by decide) (lv' := [(5, .int (nI (1440 * dd + (k + 1)))), (3, .int (iZ (tt_dh g dd k))), (2, .int (nI (1440 * dd + k))), (4, .int (-1)), (7, .int (-1)), (6, .int (iZ (tt_dh g dd k))), (0, .ref (ad 0)), (1, .int (nI (1440 * dd)))]) rfl (fun ls hl => ?_)
          refine lv_goto hx hb d_X_findTurns_111 (tgt := 21) (by decide) ?_
          have hl := lv_sub hl (l' := [(5, .int (nI (1440 * dd + (k + 1)))), (4, .int (-1)), (3, .int (iZ (tt_dh g dd k))), (2, .int (nI (1440 * dd + k))), (0, .ref (ad 0)), (1, .int (nI (1440 * dd)))]) [0, 3, 1, 2, 6, 7] rfl
          exact ih (k + 1) k (-1) _ _ H1 locs1 ls (by omega) (tt_row_down hrow hk4 (by omega)) hX hC hO hL hl
      · have h4 := mt (iZ_le (by omega) (by omega) (by omega) (by omega)).mpr h4
        refine lv_iconst hx hb d_X_findTurns_51 (v := (nI 1)) rfl ?_
        refine lv_goto hx hb d_X_findTurns_52 (tgt := 56) (by decide) ?_
        refine lv_istore hx hb d_X_findTurns_56 hl (by decide) (lv' := [(7, .int (nI 1)), (6, .int (iZ (tt_dh g dd k))), (5, .int (nI (1440 * dd + k))), (4, .int (iZ cb)), (3, .int (iZ (tt_dh g dd r))), (2, .int (nI (1440 * dd + r))), (0, .ref (ad 0)), (1, .int (nI (1440 * dd)))]) rfl (fun ls hl => ?_)
        refine lv_iload hx hb d_X_findTurns_58 (lv_at hl 3 rfl) ?_
        refine lv_iload hx hb d_X_findTurns_60 (lv_at hl 0 rfl) ?_
        refine lv_ineg hx hb d_X_findTurns_62 ?_
        refine tq_ti (show _ = (iZ (-1)) from rfl) ?_
        refine lv_icmp_ne hx hb d_X_findTurns_63 (tgt := 98) (by decide) (fun h5 => ?_) (fun h5 => ?_)
        · have h5 := mt (iZ_eq (by omega) (by omega) (by omega) (by omega)).mpr h5
          have hT9 : tt_T (tt_dh g dd) r = false := by
            have := mt (tt_row_T hrow hk4 h3).mp (by omega)
            simpa using this
          have hC : tt_C dd (tt_L (tt_dh g dd) k) tc tn := by rw [tt_row_L hrow, hT9]; exact hC
          refine lv_iload hx hb d_X_findTurns_98 (lv_at hl 0 rfl) ?_
          refine lv_istore hx hb d_X_findTurns_100 hl (by decide) (lv' := [(4, .int (nI 1)), (7, .int (nI 1)), (6, .int (iZ (tt_dh g dd k))), (5, .int (nI (1440 * dd + k))), (3, .int (iZ (tt_dh g dd r))), (2, .int (nI (1440 * dd + r))), (0, .ref (ad 0)), (1, .int (nI (1440 * dd)))]) rfl (fun ls hl => ?_)
          refine lv_iload hx hb d_X_findTurns_102 (lv_at hl 3 rfl) ?_
          refine lv_istore_n hx hb d_X_findTurns_104 rfl hl (by decide) (lv' := [(2, .int (nI (1440 * dd + k))), (4, .int (nI 1)), (7, .int (nI 1)), (6, .int (iZ (tt_dh g dd k))), (5, .int (nI (1440 * dd + k))), (3, .int (iZ (tt_dh g dd r))), (0, .ref (ad 0)), (1, .int (nI (1440 * dd)))]) rfl (fun ls hl => ?_)
          refine lv_iload hx hb d_X_findTurns_105 (lv_at hl 3 rfl) ?_
          refine lv_istore_n hx hb d_X_findTurns_107 rfl hl (by decide) (lv' := [(3, .int (iZ (tt_dh g dd k))), (2, .int (nI (1440 * dd + k))), (4, .int (nI 1)), (7, .int (nI 1)), (6, .int (iZ (tt_dh g dd k))), (5, .int (nI (1440 * dd + k))), (0, .ref (ad 0)), (1, .int (nI (1440 * dd)))]) rfl (fun ls hl => ?_)
          refine lv_iinc hx hb d_X_findTurns_108 hl (k := 5) rfl (v := (nI (1440 * dd + (k + 1)))) (by rw [show Int32.ofInt 1 = 1 from rfl]; exact nI_1 _) (by decide) (lv' := [(5, .int (nI (1440 * dd + (k + 1)))), (3, .int (iZ (tt_dh g dd k))), (2, .int (nI (1440 * dd + k))), (4, .int (nI 1)), (7, .int (nI 1)), (6, .int (iZ (tt_dh g dd k))), (0, .ref (ad 0)), (1, .int (nI (1440 * dd)))]) rfl (fun ls hl => ?_)
          refine lv_goto hx hb d_X_findTurns_111 (tgt := 21) (by decide) ?_
          have hl := lv_sub hl (l' := [(5, .int (nI (1440 * dd + (k + 1)))), (4, .int (nI 1)), (3, .int (iZ (tt_dh g dd k))), (2, .int (nI (1440 * dd + k))), (0, .ref (ad 0)), (1, .int (nI (1440 * dd)))]) [0, 3, 1, 2, 6, 7] rfl
          exact ih (k + 1) k (1) tc tn H locs ls (by omega) (tt_row_up hrow hk4 (by omega)) hX hC hO hL hl
        · have h5 := (iZ_eq (by omega) (by omega) (by omega) (by omega)).mp h5
          have hT9 : tt_T (tt_dh g dd) r = true := (tt_row_T hrow hk4 h3).mpr (by omega)
          refine lv_aload_n hx hb d_X_findTurns_66 rfl (lv_at hl 6 rfl) ?_
          refine va_get hx hb hts (fun w h => hT w (uX_in w h)) hown hK hX.1 0 rfl rfl 8 (by decide) (hts _ (hT _ k_X_196)) (fun _ h => h) rfl d_X_findTurns_67 ?_
          refine lv_aload_n hx hb d_X_findTurns_70 rfl (lv_at hl 6 rfl) ?_
          refine va_get hx hb hts (fun w h => hT w (uX_in w h)) hown hK hX.1 0 rfl rfl 7 (by decide) (hts _ (hT _ k_X_33)) (fun _ h => h) rfl d_X_findTurns_71 ?_
          refine va_alen hx hb hK hX.1 7 0 rfl rfl (v := nI 1440) rfl d_X_findTurns_74 ?_
          have ht := hC.1
          refine lv_icmp_ge hx hb d_X_findTurns_75 (tgt := 98) (by decide) (fun hyes => absurd hyes (by rw [ht]; exact nI_ge (show (tt_L (tt_dh g dd) r).length < 1440 by omega) (by decide))) (fun _ => ?_)
          refine lv_aload_n hx hb d_X_findTurns_78 rfl (lv_at hl 6 rfl) ?_
          refine va_get hx hb hts (fun w h => hT w (uX_in w h)) hown hK hX.1 0 rfl rfl 7 (by decide) (hts _ (hT _ k_X_33)) (fun _ h => h) rfl d_X_findTurns_79 ?_
          refine lv_aload_n hx hb d_X_findTurns_82 rfl (lv_at hl 6 rfl) ?_
          refine va_get hx hb hts (fun w h => hT w (uX_in w h)) hown hK hX.1 0 rfl rfl 8 (by decide) (hts _ (hT _ k_X_196)) (fun _ h => h) rfl d_X_findTurns_83 ?_
          refine lv_iload_n hx hb d_X_findTurns_86 rfl (lv_at hl 5 rfl) ?_
          subst ht
          refine tq_iast (F := txF ad) hx hb hK 0 (tx_one hX 7 rfl) rfl (show (tt_L (tt_dh g dd) r).length < 1440 by omega) (by decide) ⟨7, by decide, rfl⟩ hL d_X_findTurns_87 (fun H1 locs1 hP1 hz1 hq1 hL => ?_)
          have hX := tx_set hD hX 7 (by decide) (g' := g) (tc' := nI (tt_L (tt_dh g dd) r).length) (td' := td) (tn' := upd tn (tt_L (tt_dh g dd) r).length (nI (1440 * dd + r))) rfl rfl rfl hP1 (fun j hj => by rcases j with _ | _ | _ | _ | _ | _ | _ | _ | j <;> first | rfl | exact absurd rfl hj) hq1
          have hO := hO.tr (txO.put (k := 7) (by decide) hz1 hq1)
          refine lv_aload_n hx hb d_X_findTurns_88 rfl (lv_at hl 6 rfl) ?_
          refine lv_dup hx hb d_X_findTurns_89 rfl ?_
          refine va_get hx hb hts (fun w h => hT w (uX_in w h)) hown hK hX.1 0 rfl rfl 8 (by decide) (hts _ (hT _ k_X_196)) (fun _ h => h) rfl d_X_findTurns_90 ?_
          refine lv_iconst hx hb d_X_findTurns_93 (v := (nI 1)) rfl ?_
          refine lv_iadd hx hb d_X_findTurns_94 ?_
          refine tq_ti (show _ = (nI ((tt_L (tt_dh g dd) r).length + 1)) from nI_add _ 1) ?_
          refine tq_put (F := txF ad) hx hb hts (fun w h => hT w (uX_in w h)) tX tX_ok nX hown hK (tx_one hX 0 rfl) (ci := 0) rfl 8 (by decide) (hts _ (hT _ k_X_196)) (fun _ h => h) rfl (ty := .int) rfl rfl rfl (Nat.le_of_ble_eq_true rfl) ⟨0, by decide, rfl⟩ hL d_X_findTurns_95 (fun H1 locs1 hP1 hz1 hq1 hL => ?_)
          have hX : tx D ci ad g (nI ((tt_L (tt_dh g dd) r).length + 1)) td (upd tn (tt_L (tt_dh g dd) r).length (nI (1440 * dd + r))) H1 := tx_set hD hX 0 (by decide) rfl rfl rfl hP1 (fun j hj => by rcases j with _ | _ | _ | _ | _ | _ | _ | _ | j <;> first | rfl | exact absurd rfl hj) hq1
          have hO := hO.tr (txO.put (k := 0) (by decide) hz1 hq1)
          have hC : tt_C dd (tt_L (tt_dh g dd) k) (nI ((tt_L (tt_dh g dd) r).length + 1)) (upd tn (tt_L (tt_dh g dd) r).length (nI (1440 * dd + r))) := by rw [tt_row_L hrow, hT9]; exact tt_C_add hC
          refine lv_iload hx hb d_X_findTurns_98 (lv_at hl 0 rfl) ?_
          refine lv_istore hx hb d_X_findTurns_100 hl (by decide) (lv' := [(4, .int (nI 1)), (7, .int (nI 1)), (6, .int (iZ (tt_dh g dd k))), (5, .int (nI (1440 * dd + k))), (3, .int (iZ (tt_dh g dd r))), (2, .int (nI (1440 * dd + r))), (0, .ref (ad 0)), (1, .int (nI (1440 * dd)))]) rfl (fun ls hl => ?_)
          refine lv_iload hx hb d_X_findTurns_102 (lv_at hl 3 rfl) ?_
          refine lv_istore_n hx hb d_X_findTurns_104 rfl hl (by decide) (lv' := [(2, .int (nI (1440 * dd + k))), (4, .int (nI 1)), (7, .int (nI 1)), (6, .int (iZ (tt_dh g dd k))), (5, .int (nI (1440 * dd + k))), (3, .int (iZ (tt_dh g dd r))), (0, .ref (ad 0)), (1, .int (nI (1440 * dd)))]) rfl (fun ls hl => ?_)
          refine lv_iload hx hb d_X_findTurns_105 (lv_at hl 3 rfl) ?_
          refine lv_istore_n hx hb d_X_findTurns_107 rfl hl (by decide) (lv' := [(3, .int (iZ (tt_dh g dd k))), (2, .int (nI (1440 * dd + k))), (4, .int (nI 1)), (7, .int (nI 1)), (6, .int (iZ (tt_dh g dd k))), (5, .int (nI (1440 * dd + k))), (0, .ref (ad 0)), (1, .int (nI (1440 * dd)))]) rfl (fun ls hl => ?_)
          refine lv_iinc hx hb d_X_findTurns_108 hl (k := 5) rfl (v := (nI (1440 * dd + (k + 1)))) (by rw [show Int32.ofInt 1 = 1 from rfl]; exact nI_1 _) (by decide) (lv' := [(5, .int (nI (1440 * dd + (k + 1)))), (3, .int (iZ (tt_dh g dd k))), (2, .int (nI (1440 * dd + k))), (4, .int (nI 1)), (7, .int (nI 1)), (6, .int (iZ (tt_dh g dd k))), (0, .ref (ad 0)), (1, .int (nI (1440 * dd)))]) rfl (fun ls hl => ?_)
          refine lv_goto hx hb d_X_findTurns_111 (tgt := 21) (by decide) ?_
          have hl := lv_sub hl (l' := [(5, .int (nI (1440 * dd + (k + 1)))), (4, .int (nI 1)), (3, .int (iZ (tt_dh g dd k))), (2, .int (nI (1440 * dd + k))), (0, .ref (ad 0)), (1, .int (nI (1440 * dd)))]) [0, 3, 1, 2, 6, 7] rfl
          exact ih (k + 1) k (1) _ _ H1 locs1 ls (by omega) (tt_row_up hrow hk4 (by omega)) hX hC hO hL hl
end G23
set_option maxHeartbeats 4000000 in
set_option maxRecDepth 100000 in
theorem c_X_findTurns (l : Launch) (D : va_G) (ci : Nat → ClassId) (ad : Nat → Nat) (g : TS) (tc td : Int32) (tn : Nat → Int32) {dd : Nat} (hd : dd < 5000) : Met l y_X_findTurns (wT y_X_findTurns b_X_findTurns 8 none) (rP 3 84) (tb (wXO D ci ad g tc td tn) [.ref (ad 0), .int (nI (1440 * dd))]) (tq_Q (fun v H H1 => v = none ∧ ∃ tc1 tn1, tx D ci ad g tc1 td tn1 H1 ∧ tt_C dd (tt_L (tt_dh g dd) 1440) tc1 tn1 ∧ txO ad H H1)) 0 0 (txF ad) := by
  refine Met.ofW (cc := b_X_findTurns) (maxL := 8) (ret := none) (by decide) rfl ?_
  intro p e s m args below meth c s₁ B hml hv
  obtain ⟨rfl, hK, hg, hX, hD⟩ := hv
  have hx := B.exec
  have hb := B.bytes
  have hr := B.returns
  have hts := atoms_spec (ws := wT y_X_findTurns b_X_findTurns 8 none) B.pre
  have hT : ∀ w ∈ TT, w ∈ wT y_X_findTurns b_X_findTurns 8 none := wT_T
  have hown : s.vm.findClass RX = some m.cls := findClass_of_methodNamed B.named
  have hlocks := B.notSynchronized
  have hl := lv_entry ([.ref (ad 0), .int (nI (1440 * dd))]) (n := 8) (Nat.le_of_ble_eq_true rfl)
  rw [lg_entry_eq]
  generalize (lg_sl ([.ref (ad 0), .int (nI (1440 * dd))]) ++ List.replicate (8 - (lg_sl ([.ref (ad 0), .int (nI (1440 * dd))])).length) Slot.unset).toArray = ls at hl ⊢
  have hl : lv_has ls 8 [(0, .ref (ad 0)), (1, .int (nI (1440 * dd)))] := hl
  have hL : ∀ q ∈ ([] : List Loc), txF ad q.base := fun q hq => nomatch hq
  have hO : txO ad s.heap s.heap := txO.rf
  refine lv_aload_n hx hb d_X_findTurns_0 rfl (lv_at hl 0 rfl) ?_
  refine lv_iconst hx hb d_X_findTurns_1 (v := (nI 0)) rfl ?_
  refine tq_put (F := txF ad) hx hb hts (fun w h => hT w (uX_in w h)) tX tX_ok nX hown hK (tx_one hX 0 rfl) (ci := 0) rfl 8 (by decide) (hts _ (hT _ k_X_196)) (fun _ h => h) rfl (ty := .int) rfl rfl rfl (Nat.le_of_ble_eq_true rfl) ⟨0, by decide, rfl⟩ hL d_X_findTurns_2 (fun H1 locs1 hP1 hz1 hq1 hL => ?_)
  have hX : tx D ci ad g (nI 0) td tn H1 := tx_set hD hX 0 (by decide) rfl rfl rfl hP1 (fun j hj => by rcases j with _ | _ | _ | _ | _ | _ | _ | _ | j <;> first | rfl | exact absurd rfl hj) hq1
  have hO := hO.tr (txO.put (k := 0) (by decide) hz1 hq1)
  refine lv_iload_n hx hb d_X_findTurns_5 rfl (lv_at hl 1 rfl) ?_
  refine lv_istore_n hx hb d_X_findTurns_6 rfl hl (by decide) (lv' := [(2, .int (nI (1440 * dd))), (0, .ref (ad 0)), (1, .int (nI (1440 * dd)))]) rfl (fun ls hl => ?_)
  refine lv_aload_n hx hb d_X_findTurns_7 rfl (lv_at hl 1 rfl) ?_
  refine lv_iload_n hx hb d_X_findTurns_8 rfl (lv_at hl 2 rfl) ?_
  refine tq_V ⟨hx, hb, hml, hown, hts⟩ hT (c_X_heightAt l D ci ad g (nI 0) td tn (mm := 1440 * dd) (by omega)) lk_X_119 wX_mv ⟨hK, hg, hX⟩ (wX_rc ⟨hK, hg, hX⟩) rfl hl.1 rfl (Nat.le_of_ble_eq_true rfl) d_X_findTurns_9 ⟨rfl, rfl, Nat.le_of_ble_eq_true rfl, Nat.le_of_ble_eq_true rfl⟩ ⟨Nat.zero_le _, Nat.zero_le _⟩ ?_
  refine lv_istore_n hx hb d_X_findTurns_12 rfl hl (by decide) (lv' := [(3, .int (iZ (tt_dh g dd 0))), (2, .int (nI (1440 * dd))), (0, .ref (ad 0)), (1, .int (nI (1440 * dd)))]) rfl (fun ls hl => ?_)
  refine lv_iconst hx hb d_X_findTurns_13 (v := (nI 0)) rfl ?_
  refine lv_istore hx hb d_X_findTurns_14 hl (by decide) (lv' := [(4, .int (nI 0)), (3, .int (iZ (tt_dh g dd 0))), (2, .int (nI (1440 * dd))), (0, .ref (ad 0)), (1, .int (nI (1440 * dd)))]) rfl (fun ls hl => ?_)
  refine lv_iload_n hx hb d_X_findTurns_16 rfl (lv_at hl 4 rfl) ?_
  refine lv_iconst hx hb d_X_findTurns_17 (v := (nI 1)) rfl ?_
  refine lv_iadd hx hb d_X_findTurns_18 ?_
  refine tq_ti (show _ = (nI (1440 * dd + 1)) from nI_add _ 1) ?_
  refine lv_istore hx hb d_X_findTurns_19 hl (by decide) (lv' := [(5, .int (nI (1440 * dd + 1))), (4, .int (nI 0)), (3, .int (iZ (tt_dh g dd 0))), (2, .int (nI (1440 * dd))), (0, .ref (ad 0)), (1, .int (nI (1440 * dd)))]) rfl (fun ls hl => ?_)
  refine l_X_findTurns hx hb hts hT hown hml hK hg hD ⟨Nat.le_of_ble_eq_true rfl, Nat.le_of_ble_eq_true rfl⟩ ⟨Nat.zero_le _, Nat.zero_le _⟩ (H0 := s.heap) hd (fun tc1 tn1 H1 locs1 ls hX hC hO hL => ?_) 1439 1 0 0 (nI 0) tn H1 locs1 ls rfl (tt_row_0 _) hX ⟨rfl, fun i hi => absurd hi (Nat.not_lt_zero i)⟩ hO hL hl
  exact W.vret hx hb hr (fun t ht hW => ⟨_, rfl, rfl, tc1, tn1, by rw [ht]; exact hX, hC, by rw [ht]; exact hO⟩) hL d_X_findTurns_114
end
section
/-! how many extremes, which. Written by wip/whole/gen.py -/
/-- what the kept extremes are worth -/
def tt_CI (g : TS) (tc td : Int32) (tn : Nat → Int32) : Prop := td = -1 ∨ ∃ d, d < tt_db (tt_day g) 10 ∧ td = nI d ∧ tt_C d (tt_L (tt_dh g d) 1440) tc tn
def wXC (D : va_G) (ci : Nat → ClassId) (ad : Nat → Nat) (g : TS) (tc td : Int32) (tn : Nat → Int32) (U : State) (H : Heap) : Prop := tk D ci U ∧ tt_ok g ∧ tx D ci ad g tc td tn H ∧ tx_D ad ∧ tt_CI g tc td tn
theorem wXC_mv {D : va_G} {ci : Nat → ClassId} {ad : Nat → Nat} {g : TS} {tc td : Int32} {tn : Nat → Int32} : tmov (wXC D ci ad g tc td tn) := fun _ _ _ hW h => ⟨tk.moved hW h.1, h.2⟩
theorem tt_L1440 (h : Nat → Int) : (tt_L h 1440).length ≤ 1439 := tt_L_len1 h 1439
set_option maxHeartbeats 4000000 in
set_option maxRecDepth 100000 in
theorem c_X_countTurns (l : Launch) (D : va_G) (ci : Nat → ClassId) (ad : Nat → Nat) (g : TS) (tc td : Int32) (tn : Nat → Int32) {dd : Nat} (hd : dd < tt_db (tt_day g) 10) : Met l y_X_countTurns (wT y_X_countTurns b_X_countTurns 2 (some .int)) (rP 4 111) (tb (wXC D ci ad g tc td tn) [.ref (ad 0), .int (nI dd)]) (tq_Q (fun o9 H H1 => o9 = some (.int (nI (tt_L (tt_dh g dd) 1440).length)) ∧ ∃ tc1 tn1, tx D ci ad g tc1 (nI dd) tn1 H1 ∧ tt_C dd (tt_L (tt_dh g dd) 1440) tc1 tn1 ∧ txO ad H H1)) 0 0 (txF ad) := by
  refine Met.ofW (cc := b_X_countTurns) (maxL := 2) (ret := (some .int)) (by decide) rfl ?_
  intro p e s m args below meth c s₁ B hml hv
  obtain ⟨rfl, hK, hg, hX, hD, hCI⟩ := hv
  have hx := B.exec
  have hb := B.bytes
  have hr := B.returns
  have hts := atoms_spec (ws := wT y_X_countTurns b_X_countTurns 2 (some .int)) B.pre
  have hT : ∀ w ∈ TT, w ∈ wT y_X_countTurns b_X_countTurns 2 (some .int) := wT_T
  have hown : s.vm.findClass RX = some m.cls := findClass_of_methodNamed B.named
  have hlocks := B.notSynchronized
  have hl := lv_entry ([.ref (ad 0), .int (nI dd)]) (n := 2) (Nat.le_of_ble_eq_true rfl)
  rw [lg_entry_eq]
  generalize (lg_sl ([.ref (ad 0), .int (nI dd)]) ++ List.replicate (2 - (lg_sl ([.ref (ad 0), .int (nI dd)])).length) Slot.unset).toArray = ls at hl ⊢
  have hl : lv_has ls 2 [(0, .ref (ad 0)), (1, .int (nI dd))] := hl
  have hL : ∀ q ∈ ([] : List Loc), txF ad q.base := fun q hq => nomatch hq
  have hO : txO ad s.heap s.heap := txO.rf
  have hdb := (tt_db_in hg.2.2.2 10 (Nat.le_refl _)).2
  refine lv_aload_n hx hb d_X_countTurns_0 rfl (lv_at hl 0 rfl) ?_
  refine va_get hx hb hts (fun w h => hT w (uX_in w h)) hown hK hX.1 0 rfl rfl 9 (by decide) (hts _ (hT _ k_X_36)) (fun _ h => h) rfl d_X_countTurns_1 ?_
  refine lv_iload_n hx hb d_X_countTurns_4 rfl (lv_at hl 1 rfl) ?_
  refine lv_icmp_eq hx hb d_X_countTurns_5 (tgt := 22) (by decide) (fun h1 => ?_) (fun h1 => ?_)
  · have hC : tt_C dd (tt_L (tt_dh g dd) 1440) tc tn := by
      rcases hCI with h | ⟨d9, h2, h3, h4⟩
      · rw [h] at h1
        have := congrArg Int32.toInt h1
        rw [nI_toInt (by omega)] at this
        exact absurd this (by have : (-1 : Int32).toInt = -1 := rfl; omega)
      · rw [h3] at h1
        obtain rfl := (nI_eq (by omega) (by omega)).mp h1
        exact h4
    subst h1
    refine lv_aload_n hx hb d_X_countTurns_22 rfl (lv_at hl 0 rfl) ?_
    refine va_get hx hb hts (fun w h => hT w (uX_in w h)) hown hK hX.1 0 rfl rfl 8 (by decide) (hts _ (hT _ k_X_196)) (fun _ h => h) rfl d_X_countTurns_23 ?_
    exact W.iret hx hb hr (fun t ht hW => ⟨_, rfl, by rw [hC.1], tc, tn, by rw [ht]; exact hX, hC, by rw [ht]; exact hO⟩) hL d_X_countTurns_26
  · refine lv_aload_n hx hb d_X_countTurns_8 rfl (lv_at hl 0 rfl) ?_
    refine lv_iload_n hx hb d_X_countTurns_9 rfl (lv_at hl 1 rfl) ?_
    refine lv_sipush hx hb d_X_countTurns_10 (v := (nI 1440)) rfl ?_
    refine lv_imul hx hb d_X_countTurns_13 ?_
    refine tq_ti (show _ = (nI (1440 * dd)) from ((pk_mul _ _).trans (by rw [Nat.mul_comm]))) ?_
    refine tq_VW ⟨hx, hb, hml, hown, hts⟩ hT (c_X_findTurns l D ci ad g tc td tn (dd := dd) (by omega)) lk_X_192 wXO_mv ⟨hK, hg, hX, hD⟩ (wXW_rc hK hX) rfl hl.1 rfl (Nat.le_of_ble_eq_true rfl) d_X_countTurns_14 ⟨rfl, rfl, Nat.le_of_ble_eq_true rfl, Nat.le_of_ble_eq_true rfl⟩ ⟨Nat.zero_le _, Nat.zero_le _⟩ hL (fun v9 H1 locs1 hF9 hL => ?_)
    obtain ⟨rfl, tc1, tn1, hX, hC, hO9⟩ := hF9
    have hO := hO.tr hO9
    refine lv_aload_n hx hb d_X_countTurns_17 rfl (lv_at hl 0 rfl) ?_
    refine lv_iload_n hx hb d_X_countTurns_18 rfl (lv_at hl 1 rfl) ?_
    refine tq_put (F := txF ad) hx hb hts (fun w h => hT w (uX_in w h)) tX tX_ok nX hown hK (tx_one hX 0 rfl) (ci := 0) rfl 9 (by decide) (hts _ (hT _ k_X_36)) (fun _ h => h) rfl (ty := .int) rfl rfl rfl (Nat.le_of_ble_eq_true rfl) ⟨0, by decide, rfl⟩ hL d_X_countTurns_19 (fun H1 locs1 hP1 hz1 hq1 hL => ?_)
    have hX : tx D ci ad g tc1 (nI dd) tn1 H1 := tx_set hD hX 0 (by decide) rfl rfl rfl hP1 (fun j hj => by rcases j with _ | _ | _ | _ | _ | _ | _ | _ | j <;> first | rfl | exact absurd rfl hj) hq1
    have hO := hO.tr (txO.put (k := 0) (by decide) hz1 hq1)
    refine lv_aload_n hx hb d_X_countTurns_22 rfl (lv_at hl 0 rfl) ?_
    refine va_get hx hb hts (fun w h => hT w (uX_in w h)) hown hK hX.1 0 rfl rfl 8 (by decide) (hts _ (hT _ k_X_196)) (fun _ h => h) rfl d_X_countTurns_23 ?_
    exact W.iret hx hb hr (fun t ht hW => ⟨_, rfl, by rw [hC.1], tc1, tn1, by rw [ht]; exact hX, hC, by rw [ht]; exact hO⟩) hL d_X_countTurns_26
set_option maxHeartbeats 4000000 in
set_option maxRecDepth 100000 in
theorem c_X_extremes (l : Launch) (D : va_G) (ci : Nat → ClassId) (ad : Nat → Nat) (g : TS) (tc td : Int32) (tn : Nat → Int32) {dd : Nat} (hd : dd < tt_db (tt_day g) 10) : Met l y_X_extremes (wT y_X_extremes b_X_extremes 2 (some .int)) (rP 5 132) (tb (wXC D ci ad g tc td tn) [.ref (ad 0), .int (nI dd)]) (tq_Q (fun o9 H H1 => o9 = some (.int (nI (tt_L (tt_dh g dd) 1440).length)) ∧ ∃ tc1 tn1, tx D ci ad g tc1 (nI dd) tn1 H1 ∧ tt_C dd (tt_L (tt_dh g dd) 1440) tc1 tn1 ∧ txO ad H H1)) 0 0 (txF ad) := by
  refine Met.ofW (cc := b_X_extremes) (maxL := 2) (ret := (some .int)) (by decide) rfl ?_
  intro p e s m args below meth c s₁ B hml hv
  obtain ⟨rfl, hK, hg, hX, hD, hCI⟩ := hv
  have hx := B.exec
  have hb := B.bytes
  have hr := B.returns
  have hts := atoms_spec (ws := wT y_X_extremes b_X_extremes 2 (some .int)) B.pre
  have hT : ∀ w ∈ TT, w ∈ wT y_X_extremes b_X_extremes 2 (some .int) := wT_T
  have hown : s.vm.findClass RX = some m.cls := findClass_of_methodNamed B.named
  have hlocks := B.notSynchronized
  have hl := lv_entry ([.ref (ad 0), .int (nI dd)]) (n := 2) (Nat.le_of_ble_eq_true rfl)
  rw [lg_entry_eq]
  generalize (lg_sl ([.ref (ad 0), .int (nI dd)]) ++ List.replicate (2 - (lg_sl ([.ref (ad 0), .int (nI dd)])).length) Slot.unset).toArray = ls at hl ⊢
  have hl : lv_has ls 2 [(0, .ref (ad 0)), (1, .int (nI dd))] := hl
  have hL : ∀ q ∈ ([] : List Loc), txF ad q.base := fun q hq => nomatch hq
  have hO : txO ad s.heap s.heap := txO.rf
  have hdb := (tt_db_in hg.2.2.2 10 (Nat.le_refl _)).2
  have ed : (nI dd).toInt = dd := nI_toInt (by omega)
  refine lv_aload_n hx hb d_X_extremes_0 rfl (lv_at hl 0 rfl) ?_
  refine lv_iload_n hx hb d_X_extremes_1 rfl (lv_at hl 1 rfl) ?_
  refine tq_V ⟨hx, hb, hml, hown, hts⟩ hT (c_X_isDay l D ci ad g tc td tn (nI dd)) lk_X_130 wX_mv ⟨hK, hg, hX⟩ (wX_rc ⟨hK, hg, hX⟩) rfl hl.1 rfl (Nat.le_of_ble_eq_true rfl) d_X_extremes_2 ⟨rfl, rfl, Nat.le_of_ble_eq_true rfl, Nat.le_of_ble_eq_true rfl⟩ ⟨Nat.zero_le _, Nat.zero_le _⟩ ?_
  refine lv_if_ne hx hb d_X_extremes_5 (tgt := 18) (by decide) (fun q1 => ?_) (fun q1 => ?_)
  · have q1 := zb_t q1
    refine lv_aload_n hx hb d_X_extremes_18 rfl (lv_at hl 0 rfl) ?_
    refine lv_iload_n hx hb d_X_extremes_19 rfl (lv_at hl 1 rfl) ?_
    refine tq_VW ⟨hx, hb, hml, hown, hts⟩ hT (c_X_countTurns l D ci ad g tc td tn hd) lk_X_135 wXC_mv ⟨hK, hg, hX, hD, hCI⟩ (wXW_rc hK hX) rfl hl.1 rfl (Nat.le_of_ble_eq_true rfl) d_X_extremes_20 ⟨rfl, rfl, Nat.le_of_ble_eq_true rfl, Nat.le_of_ble_eq_true rfl⟩ ⟨Nat.zero_le _, Nat.zero_le _⟩ hL (fun v9 H1 locs1 hF9 hL => ?_)
    obtain ⟨rfl, tc1, tn1, hX, hC, hO9⟩ := hF9
    have hO := hO.tr hO9
    exact W.iret hx hb hr (fun t ht hW => ⟨_, rfl, rfl, tc1, tn1, by rw [ht]; exact hX, hC, by rw [ht]; exact hO⟩) hL d_X_extremes_23
  · have q1 := zb_f q1
    exfalso
    omega
set_option maxHeartbeats 4000000 in
set_option maxRecDepth 100000 in
theorem x_X_extremes (l : Launch) (htr : l.stackTraces = false) (D : va_G) (ci : Nat → ClassId) (ad : Nat → Nat) (g : TS) (tc td : Int32) (tn : Nat → Int32) (v : Int32) (hv0 : ¬ (0 ≤ v.toInt ∧ v.toInt < (tt_db (tt_day g) 10 : Nat))) : vx_Met l y_X_extremes (wT y_X_extremes b_X_extremes 2 (some .int)) ({ frames := 6, cells := 1, slots := 6, locals := 82 }) (tb (wXE D ci ad g tc td tn) [.ref (ad 0), .int v]) tw_N (vx_X (fun _ : Unit => True) (fun E _ _ => E = eI) (fun _ => False)) 1 6 tq_n := by
  refine vx_ofW (cc := b_X_extremes) (maxL := 2) (ret := (some .int)) (by decide) rfl ?_
  intro p e s m args below meth c s₁ B hml hno hv
  obtain ⟨rfl, ⟨hK, hg, hX⟩, hE⟩ := hv
  have hx := B.exec
  have hb := B.bytes
  have hr := B.returns
  have hts := atoms_spec (ws := wT y_X_extremes b_X_extremes 2 (some .int)) B.pre
  have hT : ∀ w ∈ TT, w ∈ wT y_X_extremes b_X_extremes 2 (some .int) := wT_T
  have hown : s.vm.findClass RX = some m.cls := findClass_of_methodNamed B.named
  have hlocks := B.notSynchronized
  have hl := lv_entry ([.ref (ad 0), .int v]) (n := 2) (Nat.le_of_ble_eq_true rfl)
  rw [lg_entry_eq]
  generalize (lg_sl ([.ref (ad 0), .int v]) ++ List.replicate (2 - (lg_sl ([.ref (ad 0), .int v])).length) Slot.unset).toArray = ls at hl ⊢
  have hl : lv_has ls 2 [(0, .ref (ad 0)), (1, .int v)] := hl
  refine lv_aload_n hx hb d_X_extremes_0 rfl (lv_at hl 0 rfl) ?_
  refine lv_iload_n hx hb d_X_extremes_1 rfl (lv_at hl 1 rfl) ?_
  refine tq_V ⟨hx, hb, hml, hown, hts⟩ hT (c_X_isDay l D ci ad g tc td tn v) lk_X_130 wX_mv ⟨hK, hg, hX⟩ (wX_rc ⟨hK, hg, hX⟩) rfl hl.1 rfl (Nat.le_of_ble_eq_true rfl) d_X_extremes_2 ⟨rfl, rfl, Nat.le_of_ble_eq_true rfl, Nat.le_of_ble_eq_true rfl⟩ ⟨Nat.zero_le _, Nat.zero_le _⟩ ?_
  refine lv_if_ne hx hb d_X_extremes_5 (tgt := 18) (by decide) (fun q1 => ?_) (fun q1 => ?_)
  · have q1 := zb_t q1
    exfalso
    omega
  · have q1 := zb_f q1
    exact tw_I hx hb htr hown (fun w h => hts w (hT w h)) hE (fun _ _ _ h => h) (is := 133) (text := "no such day") (by decide) va_S.rf (hl.1.trans hml.symm) d_X_extremes_8 d_X_extremes_11 d_X_extremes_12 d_X_extremes_14 d_X_extremes_17 hno ⟨by decide, by decide, by decide, by decide⟩ hlocks (fun t ha h1 h2 => ⟨(), trivial, rfl, h1, fun q hq _ => h2 q hq⟩) (fun z hz => nomatch hz) (Nat.le_refl _) (Nat.le_refl _)
set_option maxHeartbeats 4000000 in
set_option maxRecDepth 100000 in
theorem c_X_isExtreme (l : Launch) (D : va_G) (ci : Nat → ClassId) (ad : Nat → Nat) (g : TS) (tc td : Int32) (tn : Nat → Int32) {dd : Nat} (hd : dd < tt_db (tt_day g) 10) (v : Int32) (hv : 0 ≤ v.toInt) : Met l y_X_isExtreme (wT y_X_isExtreme b_X_isExtreme 3 (some .boolean)) (rP 5 132) (tb (wXC D ci ad g tc td tn) [.ref (ad 0), .int (nI dd), .int v]) (tq_Q (fun o9 H H1 => o9 = some (.int (zb (v.toInt < ((tt_L (tt_dh g dd) 1440).length : Nat)))) ∧ ∃ tc1 tn1, tx D ci ad g tc1 (nI dd) tn1 H1 ∧ tt_C dd (tt_L (tt_dh g dd) 1440) tc1 tn1 ∧ txO ad H H1)) 0 0 (txF ad) := by
  refine Met.ofW (cc := b_X_isExtreme) (maxL := 3) (ret := (some .boolean)) (by decide) rfl ?_
  intro p e s m args below meth c s₁ B hml hv
  obtain ⟨rfl, hK, hg, hX, hD, hCI⟩ := hv
  have hx := B.exec
  have hb := B.bytes
  have hr := B.returns
  have hts := atoms_spec (ws := wT y_X_isExtreme b_X_isExtreme 3 (some .boolean)) B.pre
  have hT : ∀ w ∈ TT, w ∈ wT y_X_isExtreme b_X_isExtreme 3 (some .boolean) := wT_T
  have hown : s.vm.findClass RX = some m.cls := findClass_of_methodNamed B.named
  have hlocks := B.notSynchronized
  have hl := lv_entry ([.ref (ad 0), .int (nI dd), .int v]) (n := 3) (Nat.le_of_ble_eq_true rfl)
  rw [lg_entry_eq]
  generalize (lg_sl ([.ref (ad 0), .int (nI dd), .int v]) ++ List.replicate (3 - (lg_sl ([.ref (ad 0), .int (nI dd), .int v])).length) Slot.unset).toArray = ls at hl ⊢
  have hl : lv_has ls 3 [(0, .ref (ad 0)), (1, .int (nI dd)), (2, .int v)] := hl
  have hL : ∀ q ∈ ([] : List Loc), txF ad q.base := fun q hq => nomatch hq
  have hO : txO ad s.heap s.heap := txO.rf
  have hdb := (tt_db_in hg.2.2.2 10 (Nat.le_refl _)).2
  have ed : (nI dd).toInt = dd := nI_toInt (by omega)
  have hlen := tt_L1440 (tt_dh g dd)
  refine lv_aload_n hx hb d_X_isExtreme_0 rfl (lv_at hl 0 rfl) ?_
  refine lv_iload_n hx hb d_X_isExtreme_1 rfl (lv_at hl 1 rfl) ?_
  refine tq_V ⟨hx, hb, hml, hown, hts⟩ hT (c_X_isDay l D ci ad g tc td tn (nI dd)) lk_X_130 wX_mv ⟨hK, hg, hX⟩ (wX_rc ⟨hK, hg, hX⟩) rfl hl.1 rfl (Nat.le_of_ble_eq_true rfl) d_X_isExtreme_2 ⟨rfl, rfl, Nat.le_of_ble_eq_true rfl, Nat.le_of_ble_eq_true rfl⟩ ⟨Nat.zero_le _, Nat.zero_le _⟩ ?_
  refine lv_if_eq hx hb d_X_isExtreme_5 (tgt := 25) (by decide) (fun q1 => ?_) (fun q1 => ?_)
  · have q1 := zb_f q1
    refine lv_iconst hx hb d_X_isExtreme_25 (v := (nI 0)) rfl ?_
    first | (exfalso; omega) | exact W.zret hx hb hr narrow_b0 (fun t ht hW => ⟨_, rfl, zb_0 (by omega), tc1, tn1, by rw [ht]; exact hX, hC, by rw [ht]; exact hO⟩) hL d_X_isExtreme_26
  · have q1 := zb_t q1
    refine lv_iload_n hx hb d_X_isExtreme_8 rfl (lv_at hl 2 rfl) ?_
    refine lv_if_lt hx hb d_X_isExtreme_9 (tgt := 25) (by decide) (fun q2 => ?_) (fun q2 => ?_)
    · have q2 := iv_lt0.mp q2
      refine lv_iconst hx hb d_X_isExtreme_25 (v := (nI 0)) rfl ?_
      first | (exfalso; omega) | exact W.zret hx hb hr narrow_b0 (fun t ht hW => ⟨_, rfl, zb_0 (by omega), tc1, tn1, by rw [ht]; exact hX, hC, by rw [ht]; exact hO⟩) hL d_X_isExtreme_26
    · have q2 := mt iv_lt0.mpr q2
      refine lv_iload_n hx hb d_X_isExtreme_12 rfl (lv_at hl 2 rfl) ?_
      refine lv_aload_n hx hb d_X_isExtreme_13 rfl (lv_at hl 0 rfl) ?_
      refine lv_iload_n hx hb d_X_isExtreme_14 rfl (lv_at hl 1 rfl) ?_
      refine tq_VW ⟨hx, hb, hml, hown, hts⟩ hT (c_X_countTurns l D ci ad g tc td tn hd) lk_X_135 wXC_mv ⟨hK, hg, hX, hD, hCI⟩ (wXW_rc hK hX) rfl hl.1 rfl (Nat.le_of_ble_eq_true rfl) d_X_isExtreme_15 ⟨rfl, rfl, Nat.le_of_ble_eq_true rfl, Nat.le_of_ble_eq_true rfl⟩ ⟨Nat.zero_le _, Nat.zero_le _⟩ hL (fun v9 H1 locs1 hF9 hL => ?_)
      obtain ⟨rfl, tc1, tn1, hX, hC, hO9⟩ := hF9
      have hO := hO.tr hO9
      refine lv_icmp_ge hx hb d_X_isExtreme_18 (tgt := 25) (by decide) (fun q3 => ?_) (fun q3 => ?_)
      · have q3 := Int32.le_iff_toInt_le.mp q3
        rw [nI_toInt (n := (tt_L (tt_dh g dd) 1440).length) (by omega)] at q3
        refine lv_iconst hx hb d_X_isExtreme_25 (v := (nI 0)) rfl ?_
        first | (exfalso; omega) | exact W.zret hx hb hr narrow_b0 (fun t ht hW => ⟨_, rfl, zb_0 (by omega), tc1, tn1, by rw [ht]; exact hX, hC, by rw [ht]; exact hO⟩) hL d_X_isExtreme_26
      · have q3 := mt Int32.le_iff_toInt_le.mpr q3
        rw [nI_toInt (n := (tt_L (tt_dh g dd) 1440).length) (by omega)] at q3
        refine lv_iconst hx hb d_X_isExtreme_21 (v := (nI 1)) rfl ?_
        refine lv_goto hx hb d_X_isExtreme_22 (tgt := 26) (by decide) ?_
        exact W.zret hx hb hr narrow_b1 (fun t ht hW => ⟨_, rfl, zb_1 (by omega), tc1, tn1, by rw [ht]; exact hX, hC, by rw [ht]; exact hO⟩) hL d_X_isExtreme_26
set_option maxHeartbeats 4000000 in
set_option maxRecDepth 100000 in
theorem c_X_isExtreme0 (l : Launch) (D : va_G) (ci : Nat → ClassId) (ad : Nat → Nat) (g : TS) (tc td : Int32) (tn : Nat → Int32) (u v : Int32) (hv : ¬ ((0 ≤ u.toInt ∧ u.toInt < (tt_db (tt_day g) 10 : Nat)) ∧ 0 ≤ v.toInt)) : Met l y_X_isExtreme (wT y_X_isExtreme b_X_isExtreme 3 (some .boolean)) (rP 1 21) (tb (wX D ci ad g tc td tn) [.ref (ad 0), .int u, .int v]) (tq_P (some (.int 0))) 0 0 tq_n := by
  refine Met.ofW (cc := b_X_isExtreme) (maxL := 3) (ret := (some .boolean)) (by decide) rfl ?_
  intro p e s m args below meth c s₁ B hml hv
  obtain ⟨rfl, hK, hg, hX⟩ := hv
  have hx := B.exec
  have hb := B.bytes
  have hr := B.returns
  have hts := atoms_spec (ws := wT y_X_isExtreme b_X_isExtreme 3 (some .boolean)) B.pre
  have hT : ∀ w ∈ TT, w ∈ wT y_X_isExtreme b_X_isExtreme 3 (some .boolean) := wT_T
  have hown : s.vm.findClass RX = some m.cls := findClass_of_methodNamed B.named
  have hlocks := B.notSynchronized
  have hl := lv_entry ([.ref (ad 0), .int u, .int v]) (n := 3) (Nat.le_of_ble_eq_true rfl)
  rw [lg_entry_eq]
  generalize (lg_sl ([.ref (ad 0), .int u, .int v]) ++ List.replicate (3 - (lg_sl ([.ref (ad 0), .int u, .int v])).length) Slot.unset).toArray = ls at hl ⊢
  have hl : lv_has ls 3 [(0, .ref (ad 0)), (1, .int u), (2, .int v)] := hl
  refine lv_aload_n hx hb d_X_isExtreme_0 rfl (lv_at hl 0 rfl) ?_
  refine lv_iload_n hx hb d_X_isExtreme_1 rfl (lv_at hl 1 rfl) ?_
  refine tq_V ⟨hx, hb, hml, hown, hts⟩ hT (c_X_isDay l D ci ad g tc td tn u) lk_X_130 wX_mv ⟨hK, hg, hX⟩ (wX_rc ⟨hK, hg, hX⟩) rfl hl.1 rfl (Nat.le_of_ble_eq_true rfl) d_X_isExtreme_2 ⟨rfl, rfl, Nat.le_of_ble_eq_true rfl, Nat.le_of_ble_eq_true rfl⟩ ⟨Nat.zero_le _, Nat.zero_le _⟩ ?_
  refine lv_if_eq hx hb d_X_isExtreme_5 (tgt := 25) (by decide) (fun q1 => ?_) (fun q1 => ?_)
  · have q1 := zb_f q1
    refine lv_iconst hx hb d_X_isExtreme_25 (v := (nI 0)) rfl ?_
    exact W.zret hx hb hr narrow_b0 (fun t ht hW => ⟨_, rfl, ⟨rfl, ht⟩⟩) (fun q hq => nomatch hq) d_X_isExtreme_26
  · have q1 := zb_t q1
    refine lv_iload_n hx hb d_X_isExtreme_8 rfl (lv_at hl 2 rfl) ?_
    refine lv_if_lt hx hb d_X_isExtreme_9 (tgt := 25) (by decide) (fun q2 => ?_) (fun q2 => ?_)
    · have q2 := iv_lt0.mp q2
      refine lv_iconst hx hb d_X_isExtreme_25 (v := (nI 0)) rfl ?_
      exact W.zret hx hb hr narrow_b0 (fun t ht hW => ⟨_, rfl, ⟨rfl, ht⟩⟩) (fun q hq => nomatch hq) d_X_isExtreme_26
    · have q2 := mt iv_lt0.mpr q2
      exfalso
      omega
set_option maxHeartbeats 4000000 in
set_option maxRecDepth 100000 in
theorem c_X_isHigh (l : Launch) (D : va_G) (ci : Nat → ClassId) (ad : Nat → Nat) (g : TS) (tc td : Int32) (tn : Nat → Int32) {mm : Nat} (h0 : 1 ≤ mm) (hmm : mm < 2147483648) : Met l y_X_isHigh (wT y_X_isHigh b_X_isHigh 2 (some .boolean)) (rP 3 84) (tb (wX D ci ad g tc td tn) [.ref (ad 0), .int (nI mm)]) (tq_P (some (.int (zb (tt_hgt g (mm - 1) < tt_hgt g mm))))) 0 0 tq_n := by
  refine Met.ofW (cc := b_X_isHigh) (maxL := 2) (ret := (some .boolean)) (by decide) rfl ?_
  intro p e s m args below meth c s₁ B hml hv
  obtain ⟨rfl, hK, hg, hX⟩ := hv
  have hx := B.exec
  have hb := B.bytes
  have hr := B.returns
  have hts := atoms_spec (ws := wT y_X_isHigh b_X_isHigh 2 (some .boolean)) B.pre
  have hT : ∀ w ∈ TT, w ∈ wT y_X_isHigh b_X_isHigh 2 (some .boolean) := wT_T
  have hown : s.vm.findClass RX = some m.cls := findClass_of_methodNamed B.named
  have hlocks := B.notSynchronized
  have hl := lv_entry ([.ref (ad 0), .int (nI mm)]) (n := 2) (Nat.le_of_ble_eq_true rfl)
  rw [lg_entry_eq]
  generalize (lg_sl ([.ref (ad 0), .int (nI mm)]) ++ List.replicate (2 - (lg_sl ([.ref (ad 0), .int (nI mm)])).length) Slot.unset).toArray = ls at hl ⊢
  have hl : lv_has ls 2 [(0, .ref (ad 0)), (1, .int (nI mm))] := hl
  have h1 := tt_hgt_in hg (mm - 1)
  have h2 := tt_hgt_in hg mm
  refine lv_aload_n hx hb d_X_isHigh_0 rfl (lv_at hl 0 rfl) ?_
  refine lv_iload_n hx hb d_X_isHigh_1 rfl (lv_at hl 1 rfl) ?_
  refine lv_iconst hx hb d_X_isHigh_2 (v := (nI 1)) rfl ?_
  refine lv_isub hx hb d_X_isHigh_3 ?_
  refine tq_ti (show _ = (nI (mm - 1)) from pk_sub h0) ?_
  refine tq_V ⟨hx, hb, hml, hown, hts⟩ hT (c_X_heightAt l D ci ad g tc td tn (mm := mm - 1) (by omega)) lk_X_119 wX_mv ⟨hK, hg, hX⟩ (wX_rc ⟨hK, hg, hX⟩) rfl hl.1 rfl (Nat.le_of_ble_eq_true rfl) d_X_isHigh_4 ⟨rfl, rfl, Nat.le_of_ble_eq_true rfl, Nat.le_of_ble_eq_true rfl⟩ ⟨Nat.zero_le _, Nat.zero_le _⟩ ?_
  refine lv_aload_n hx hb d_X_isHigh_7 rfl (lv_at hl 0 rfl) ?_
  refine lv_iload_n hx hb d_X_isHigh_8 rfl (lv_at hl 1 rfl) ?_
  refine tq_V ⟨hx, hb, hml, hown, hts⟩ hT (c_X_heightAt l D ci ad g tc td tn (mm := mm) hmm) lk_X_119 wX_mv ⟨hK, hg, hX⟩ (wX_rc ⟨hK, hg, hX⟩) rfl hl.1 rfl (Nat.le_of_ble_eq_true rfl) d_X_isHigh_9 ⟨rfl, rfl, Nat.le_of_ble_eq_true rfl, Nat.le_of_ble_eq_true rfl⟩ ⟨Nat.zero_le _, Nat.zero_le _⟩ ?_
  refine lv_icmp_ge hx hb d_X_isHigh_12 (tgt := 19) (by decide) (fun h3 => ?_) (fun h3 => ?_)
  · have h3 := (iZ_le (by omega) (by omega) (by omega) (by omega)).mp h3
    refine lv_iconst hx hb d_X_isHigh_19 (v := (nI 0)) rfl ?_
    exact W.zret hx hb hr narrow_b0 (fun t ht hW => ⟨_, rfl, ⟨zb_0 (by omega), ht⟩⟩) (fun q hq => nomatch hq) d_X_isHigh_20
  · have h3 := mt (iZ_le (by omega) (by omega) (by omega) (by omega)).mpr h3
    refine lv_iconst hx hb d_X_isHigh_15 (v := (nI 1)) rfl ?_
    refine lv_goto hx hb d_X_isHigh_16 (tgt := 20) (by decide) ?_
    exact W.zret hx hb hr narrow_b1 (fun t ht hW => ⟨_, rfl, ⟨zb_1 (by omega), ht⟩⟩) (fun q hq => nomatch hq) d_X_isHigh_20
end
section
/-! extreme. Written by wip/whole/gen.py -/
theorem tx_cell {D : va_G} {ci : Nat → ClassId} {ad : Nat → Nat} {g : TS} {tc td : Int32} {tn : Nat → Int32} {H : Heap} (h : tx D ci ad g tc td tn H) {k : Nat} (hk : k < 24) : ∃ cell : Cell, H[ad k]? = some cell ∧ cell.vm = .none := by
  by_cases h8 : k < 8
  · match k, h8 with
    | 0, _ => obtain ⟨r, h1, cell, q1, q2, q3, -⟩ := h.1 0 _ rfl; exact ⟨cell, q1, q3⟩
    | 1, _ => exact ⟨_, h.1 1 _ rfl, rfl⟩
    | 2, _ => exact ⟨_, h.1 2 _ rfl, rfl⟩
    | 3, _ => exact ⟨_, h.1 3 _ rfl, rfl⟩
    | 4, _ => exact ⟨_, h.1 4 _ rfl, rfl⟩
    | 5, _ => exact ⟨_, h.1 5 _ rfl, rfl⟩
    | 6, _ => exact ⟨_, h.1 6 _ rfl, rfl⟩
    | 7, _ => exact ⟨_, h.1 7 _ rfl, rfl⟩
  · by_cases h16 : k < 16
    · obtain ⟨i, rfl⟩ : ∃ i, k = 8 + i := ⟨k - 8, by omega⟩
      exact ⟨_, h.2.1 i (by omega) 0 _ rfl, rfl⟩
    · obtain ⟨i, rfl⟩ : ∃ i, k = 16 + i := ⟨k - 16, by omega⟩
      exact ⟨_, h.2.2 i (by omega) 0 _ rfl, rfl⟩
theorem tx_lt {D : va_G} {ci : Nat → ClassId} {ad : Nat → Nat} {g : TS} {tc td : Int32} {tn : Nat → Int32} {H : Heap} (h : tx D ci ad g tc td tn H) {k : Nat} (hk : k < 24) : ad k < H.size := by
  obtain ⟨cell, h1, -⟩ := tx_cell h hk
  exact (Array.getElem?_eq_some_iff.mp h1).1
theorem tx_nst {D : va_G} {ci : Nat → ClassId} {ad : Nat → Nat} {g : TS} {tc td : Int32} {tn : Nat → Int32} {H : Heap} (h : tx D ci ad g tc td tn H) {a : Nat} {cell : Cell} (h1 : H[a]? = some cell) (h2 : cell.vm.isStatics = true) : ¬ txF ad a := by
  rintro ⟨k, hk, rfl⟩
  obtain ⟨c2, q1, q2⟩ := tx_cell h hk
  rw [h1] at q1
  cases q1
  rw [q2] at h2
  cases h2
def wXCE (D : va_G) (ci : Nat → ClassId) (ad : Nat → Nat) (g : TS) (tc td : Int32) (tn : Nat → Int32) (U : State) (H : Heap) : Prop := wXC D ci ad g tc td tn U H ∧ wE U H
theorem wXCE_mv {D : va_G} {ci : Nat → ClassId} {ad : Nat → Nat} {g : TS} {tc td : Int32} {tn : Nat → Int32} : tmov (wXCE D ci ad g tc td tn) := fun _ _ _ hW h => ⟨wXC_mv _ _ _ hW h.1, wE_mv _ _ _ hW h.2⟩
set_option maxHeartbeats 4000000 in
set_option maxRecDepth 100000 in
theorem c_X_extreme0 (l : Launch) (D : va_G) (ci : Nat → ClassId) (ad : Nat → Nat) (g : TS) (tc td : Int32) (tn : Nat → Int32) {dd k : Nat} (hd : dd < tt_db (tt_day g) 10) (hk : k < (tt_L (tt_dh g dd) 1440).length) : Met l y_X_extreme (wT y_X_extreme b_X_extreme 5 (some .int)) (rP 6 154) (tb (wXC D ci ad g tc td tn) [.ref (ad 0), .int (nI dd), .int (nI k), .int (nI 0)]) (tq_Q (fun o9 H H1 => o9 = some (.int (nI (1440 * dd + (tt_L (tt_dh g dd) 1440).getD k 0))) ∧ ∃ tc1 tn1, tx D ci ad g tc1 (nI dd) tn1 H1 ∧ tt_C dd (tt_L (tt_dh g dd) 1440) tc1 tn1 ∧ txO ad H H1)) 0 0 (txF ad) := by
  refine Met.ofW (cc := b_X_extreme) (maxL := 5) (ret := (some .int)) (by decide) rfl ?_
  intro p e s m args below meth c s₁ B hml hv
  obtain ⟨rfl, hK, hg, hX, hD, hCI⟩ := hv
  have hx := B.exec
  have hb := B.bytes
  have hr := B.returns
  have hts := atoms_spec (ws := wT y_X_extreme b_X_extreme 5 (some .int)) B.pre
  have hT : ∀ w ∈ TT, w ∈ wT y_X_extreme b_X_extreme 5 (some .int) := wT_T
  have hown : s.vm.findClass RX = some m.cls := findClass_of_methodNamed B.named
  have hlocks := B.notSynchronized
  have hl := lv_entry ([.ref (ad 0), .int (nI dd), .int (nI k), .int (nI 0)]) (n := 5) (Nat.le_of_ble_eq_true rfl)
  rw [lg_entry_eq]
  generalize (lg_sl ([.ref (ad 0), .int (nI dd), .int (nI k), .int (nI 0)]) ++ List.replicate (5 - (lg_sl ([.ref (ad 0), .int (nI dd), .int (nI k), .int (nI 0)])).length) Slot.unset).toArray = ls at hl ⊢
  have hl : lv_has ls 5 [(0, .ref (ad 0)), (1, .int (nI dd)), (2, .int (nI k)), (3, .int (nI 0))] := hl
  have hL : ∀ q ∈ ([] : List Loc), txF ad q.base := fun q hq => nomatch hq
  have hO : txO ad s.heap s.heap := txO.rf
  have hdb := (tt_db_in hg.2.2.2 10 (Nat.le_refl _)).2
  have hlen := tt_L1440 (tt_dh g dd)
  have hLk := tt_L_get hk
  have hTk := tt_T_kind hLk.2
  have ek : (nI k).toInt = k := nI_toInt (by omega)
  refine lv_aload_n hx hb d_X_extreme_0 rfl (lv_at hl 0 rfl) ?_
  refine lv_iload_n hx hb d_X_extreme_1 rfl (lv_at hl 1 rfl) ?_
  refine lv_iload_n hx hb d_X_extreme_2 rfl (lv_at hl 2 rfl) ?_
  refine tq_VW ⟨hx, hb, hml, hown, hts⟩ hT (c_X_isExtreme l D ci ad g tc td tn hd (nI k) (by omega)) lk_X_138 wXC_mv ⟨hK, hg, hX, hD, hCI⟩ (wXW_rc hK hX) rfl hl.1 rfl (Nat.le_of_ble_eq_true rfl) d_X_extreme_3 ⟨rfl, rfl, Nat.le_of_ble_eq_true rfl, Nat.le_of_ble_eq_true rfl⟩ ⟨Nat.zero_le _, Nat.zero_le _⟩ hL (fun v9 H1 locs1 hF9 hL => ?_)
  obtain ⟨rfl, tc1, tn1, hX, hC, hO9⟩ := hF9
  have hO := hO.tr hO9
  refine lv_if_ne hx hb d_X_extreme_6 (tgt := 19) (by decide) (fun _ => ?_) (fun hno => absurd hno (fun z => zb_f z (by omega)))
  refine lv_aload_n hx hb d_X_extreme_19 rfl (lv_at hl 0 rfl) ?_
  refine va_get hx hb hts (fun w h => hT w (uX_in w h)) hown hK hX.1 0 rfl rfl 7 (by decide) (hts _ (hT _ k_X_33)) (fun _ h => h) rfl d_X_extreme_20 ?_
  refine lv_iload_n hx hb d_X_extreme_23 rfl (lv_at hl 2 rfl) ?_
  refine tq_iald hx hb hK hX.1 7 0 rfl rfl (show k < 1440 by omega) (by decide) d_X_extreme_24 ?_
  refine tq_ti (show _ = (nI (1440 * dd + (tt_L (tt_dh g dd) 1440).getD k 0)) from hC.2 k hk) ?_
  refine lv_istore hx hb d_X_extreme_25 hl (by decide) (lv' := [(4, .int (nI (1440 * dd + (tt_L (tt_dh g dd) 1440).getD k 0))), (0, .ref (ad 0)), (1, .int (nI dd)), (2, .int (nI k)), (3, .int (nI 0))]) rfl (fun ls hl => ?_)
  refine lv_iload_n hx hb d_X_extreme_27 rfl (lv_at hl 4 rfl) ?_
  refine lv_tableIn hx hb d_X_extreme_28 (by decide) (by decide) (off := 28) (by decide) (tgt := 56) (by decide) ?_
  refine lv_iload hx hb d_X_extreme_56 (lv_at hl 0 rfl) ?_
  exact W.iret hx hb hr (fun t ht hW => ⟨_, rfl, rfl, tc1, tn1, by rw [ht]; exact hX, hC, by rw [ht]; exact hO⟩) hL d_X_extreme_58
set_option maxHeartbeats 4000000 in
set_option maxRecDepth 100000 in
theorem c_X_extreme1 (l : Launch) (D : va_G) (ci : Nat → ClassId) (ad : Nat → Nat) (g : TS) (tc td : Int32) (tn : Nat → Int32) {dd k : Nat} (hd : dd < tt_db (tt_day g) 10) (hk : k < (tt_L (tt_dh g dd) 1440).length) : Met l y_X_extreme (wT y_X_extreme b_X_extreme 5 (some .int)) (rP 6 154) (tb (wXC D ci ad g tc td tn) [.ref (ad 0), .int (nI dd), .int (nI k), .int (nI 1)]) (tq_Q (fun o9 H H1 => o9 = some (.int (iZ (tt_hgt g (1440 * dd + (tt_L (tt_dh g dd) 1440).getD k 0)))) ∧ ∃ tc1 tn1, tx D ci ad g tc1 (nI dd) tn1 H1 ∧ tt_C dd (tt_L (tt_dh g dd) 1440) tc1 tn1 ∧ txO ad H H1)) 0 0 (txF ad) := by
  refine Met.ofW (cc := b_X_extreme) (maxL := 5) (ret := (some .int)) (by decide) rfl ?_
  intro p e s m args below meth c s₁ B hml hv
  obtain ⟨rfl, hK, hg, hX, hD, hCI⟩ := hv
  have hx := B.exec
  have hb := B.bytes
  have hr := B.returns
  have hts := atoms_spec (ws := wT y_X_extreme b_X_extreme 5 (some .int)) B.pre
  have hT : ∀ w ∈ TT, w ∈ wT y_X_extreme b_X_extreme 5 (some .int) := wT_T
  have hown : s.vm.findClass RX = some m.cls := findClass_of_methodNamed B.named
  have hlocks := B.notSynchronized
  have hl := lv_entry ([.ref (ad 0), .int (nI dd), .int (nI k), .int (nI 1)]) (n := 5) (Nat.le_of_ble_eq_true rfl)
  rw [lg_entry_eq]
  generalize (lg_sl ([.ref (ad 0), .int (nI dd), .int (nI k), .int (nI 1)]) ++ List.replicate (5 - (lg_sl ([.ref (ad 0), .int (nI dd), .int (nI k), .int (nI 1)])).length) Slot.unset).toArray = ls at hl ⊢
  have hl : lv_has ls 5 [(0, .ref (ad 0)), (1, .int (nI dd)), (2, .int (nI k)), (3, .int (nI 1))] := hl
  have hL : ∀ q ∈ ([] : List Loc), txF ad q.base := fun q hq => nomatch hq
  have hO : txO ad s.heap s.heap := txO.rf
  have hdb := (tt_db_in hg.2.2.2 10 (Nat.le_refl _)).2
  have hlen := tt_L1440 (tt_dh g dd)
  have hLk := tt_L_get hk
  have hTk := tt_T_kind hLk.2
  have ek : (nI k).toInt = k := nI_toInt (by omega)
  refine lv_aload_n hx hb d_X_extreme_0 rfl (lv_at hl 0 rfl) ?_
  refine lv_iload_n hx hb d_X_extreme_1 rfl (lv_at hl 1 rfl) ?_
  refine lv_iload_n hx hb d_X_extreme_2 rfl (lv_at hl 2 rfl) ?_
  refine tq_VW ⟨hx, hb, hml, hown, hts⟩ hT (c_X_isExtreme l D ci ad g tc td tn hd (nI k) (by omega)) lk_X_138 wXC_mv ⟨hK, hg, hX, hD, hCI⟩ (wXW_rc hK hX) rfl hl.1 rfl (Nat.le_of_ble_eq_true rfl) d_X_extreme_3 ⟨rfl, rfl, Nat.le_of_ble_eq_true rfl, Nat.le_of_ble_eq_true rfl⟩ ⟨Nat.zero_le _, Nat.zero_le _⟩ hL (fun v9 H1 locs1 hF9 hL => ?_)
  obtain ⟨rfl, tc1, tn1, hX, hC, hO9⟩ := hF9
  have hO := hO.tr hO9
  refine lv_if_ne hx hb d_X_extreme_6 (tgt := 19) (by decide) (fun _ => ?_) (fun hno => absurd hno (fun z => zb_f z (by omega)))
  refine lv_aload_n hx hb d_X_extreme_19 rfl (lv_at hl 0 rfl) ?_
  refine va_get hx hb hts (fun w h => hT w (uX_in w h)) hown hK hX.1 0 rfl rfl 7 (by decide) (hts _ (hT _ k_X_33)) (fun _ h => h) rfl d_X_extreme_20 ?_
  refine lv_iload_n hx hb d_X_extreme_23 rfl (lv_at hl 2 rfl) ?_
  refine tq_iald hx hb hK hX.1 7 0 rfl rfl (show k < 1440 by omega) (by decide) d_X_extreme_24 ?_
  refine tq_ti (show _ = (nI (1440 * dd + (tt_L (tt_dh g dd) 1440).getD k 0)) from hC.2 k hk) ?_
  refine lv_istore hx hb d_X_extreme_25 hl (by decide) (lv' := [(4, .int (nI (1440 * dd + (tt_L (tt_dh g dd) 1440).getD k 0))), (0, .ref (ad 0)), (1, .int (nI dd)), (2, .int (nI k)), (3, .int (nI 1))]) rfl (fun ls hl => ?_)
  refine lv_iload_n hx hb d_X_extreme_27 rfl (lv_at hl 4 rfl) ?_
  refine lv_tableIn hx hb d_X_extreme_28 (by decide) (by decide) (off := 31) (by decide) (tgt := 59) (by decide) ?_
  refine lv_aload_n hx hb d_X_extreme_59 rfl (lv_at hl 1 rfl) ?_
  refine lv_iload hx hb d_X_extreme_60 (lv_at hl 0 rfl) ?_
  refine tq_V ⟨hx, hb, hml, hown, hts⟩ hT (c_X_heightAt l D ci ad g tc1 (nI dd) tn1 (mm := (1440 * dd + (tt_L (tt_dh g dd) 1440).getD k 0)) (by omega)) lk_X_119 wX_mv ⟨hK, hg, hX⟩ (wX_rc ⟨hK, hg, hX⟩) rfl hl.1 rfl (Nat.le_of_ble_eq_true rfl) d_X_extreme_62 ⟨rfl, rfl, Nat.le_of_ble_eq_true rfl, Nat.le_of_ble_eq_true rfl⟩ ⟨Nat.zero_le _, Nat.zero_le _⟩ ?_
  exact W.iret hx hb hr (fun t ht hW => ⟨_, rfl, rfl, tc1, tn1, by rw [ht]; exact hX, hC, by rw [ht]; exact hO⟩) hL d_X_extreme_65
set_option maxHeartbeats 4000000 in
set_option maxRecDepth 100000 in
theorem c_X_extreme2 (l : Launch) (D : va_G) (ci : Nat → ClassId) (ad : Nat → Nat) (g : TS) (tc td : Int32) (tn : Nat → Int32) {dd k : Nat} (hd : dd < tt_db (tt_day g) 10) (hk : k < (tt_L (tt_dh g dd) 1440).length) : Met l y_X_extreme (wT y_X_extreme b_X_extreme 5 (some .int)) (rP 6 154) (tb (wXC D ci ad g tc td tn) [.ref (ad 0), .int (nI dd), .int (nI k), .int (nI 2)]) (tq_Q (fun o9 H H1 => o9 = some (.int (zb (tt_hgt g ((1440 * dd + (tt_L (tt_dh g dd) 1440).getD k 0) - 1) < tt_hgt g (1440 * dd + (tt_L (tt_dh g dd) 1440).getD k 0)))) ∧ ∃ tc1 tn1, tx D ci ad g tc1 (nI dd) tn1 H1 ∧ tt_C dd (tt_L (tt_dh g dd) 1440) tc1 tn1 ∧ txO ad H H1)) 0 0 (txF ad) := by
  refine Met.ofW (cc := b_X_extreme) (maxL := 5) (ret := (some .int)) (by decide) rfl ?_
  intro p e s m args below meth c s₁ B hml hv
  obtain ⟨rfl, hK, hg, hX, hD, hCI⟩ := hv
  have hx := B.exec
  have hb := B.bytes
  have hr := B.returns
  have hts := atoms_spec (ws := wT y_X_extreme b_X_extreme 5 (some .int)) B.pre
  have hT : ∀ w ∈ TT, w ∈ wT y_X_extreme b_X_extreme 5 (some .int) := wT_T
  have hown : s.vm.findClass RX = some m.cls := findClass_of_methodNamed B.named
  have hlocks := B.notSynchronized
  have hl := lv_entry ([.ref (ad 0), .int (nI dd), .int (nI k), .int (nI 2)]) (n := 5) (Nat.le_of_ble_eq_true rfl)
  rw [lg_entry_eq]
  generalize (lg_sl ([.ref (ad 0), .int (nI dd), .int (nI k), .int (nI 2)]) ++ List.replicate (5 - (lg_sl ([.ref (ad 0), .int (nI dd), .int (nI k), .int (nI 2)])).length) Slot.unset).toArray = ls at hl ⊢
  have hl : lv_has ls 5 [(0, .ref (ad 0)), (1, .int (nI dd)), (2, .int (nI k)), (3, .int (nI 2))] := hl
  have hL : ∀ q ∈ ([] : List Loc), txF ad q.base := fun q hq => nomatch hq
  have hO : txO ad s.heap s.heap := txO.rf
  have hdb := (tt_db_in hg.2.2.2 10 (Nat.le_refl _)).2
  have hlen := tt_L1440 (tt_dh g dd)
  have hLk := tt_L_get hk
  have hTk := tt_T_kind hLk.2
  have ek : (nI k).toInt = k := nI_toInt (by omega)
  refine lv_aload_n hx hb d_X_extreme_0 rfl (lv_at hl 0 rfl) ?_
  refine lv_iload_n hx hb d_X_extreme_1 rfl (lv_at hl 1 rfl) ?_
  refine lv_iload_n hx hb d_X_extreme_2 rfl (lv_at hl 2 rfl) ?_
  refine tq_VW ⟨hx, hb, hml, hown, hts⟩ hT (c_X_isExtreme l D ci ad g tc td tn hd (nI k) (by omega)) lk_X_138 wXC_mv ⟨hK, hg, hX, hD, hCI⟩ (wXW_rc hK hX) rfl hl.1 rfl (Nat.le_of_ble_eq_true rfl) d_X_extreme_3 ⟨rfl, rfl, Nat.le_of_ble_eq_true rfl, Nat.le_of_ble_eq_true rfl⟩ ⟨Nat.zero_le _, Nat.zero_le _⟩ hL (fun v9 H1 locs1 hF9 hL => ?_)
  obtain ⟨rfl, tc1, tn1, hX, hC, hO9⟩ := hF9
  have hO := hO.tr hO9
  refine lv_if_ne hx hb d_X_extreme_6 (tgt := 19) (by decide) (fun _ => ?_) (fun hno => absurd hno (fun z => zb_f z (by omega)))
  refine lv_aload_n hx hb d_X_extreme_19 rfl (lv_at hl 0 rfl) ?_
  refine va_get hx hb hts (fun w h => hT w (uX_in w h)) hown hK hX.1 0 rfl rfl 7 (by decide) (hts _ (hT _ k_X_33)) (fun _ h => h) rfl d_X_extreme_20 ?_
  refine lv_iload_n hx hb d_X_extreme_23 rfl (lv_at hl 2 rfl) ?_
  refine tq_iald hx hb hK hX.1 7 0 rfl rfl (show k < 1440 by omega) (by decide) d_X_extreme_24 ?_
  refine tq_ti (show _ = (nI (1440 * dd + (tt_L (tt_dh g dd) 1440).getD k 0)) from hC.2 k hk) ?_
  refine lv_istore hx hb d_X_extreme_25 hl (by decide) (lv' := [(4, .int (nI (1440 * dd + (tt_L (tt_dh g dd) 1440).getD k 0))), (0, .ref (ad 0)), (1, .int (nI dd)), (2, .int (nI k)), (3, .int (nI 2))]) rfl (fun ls hl => ?_)
  refine lv_iload_n hx hb d_X_extreme_27 rfl (lv_at hl 4 rfl) ?_
  refine lv_tableIn hx hb d_X_extreme_28 (by decide) (by decide) (off := 38) (by decide) (tgt := 66) (by decide) ?_
  refine lv_aload_n hx hb d_X_extreme_66 rfl (lv_at hl 1 rfl) ?_
  refine lv_iload hx hb d_X_extreme_67 (lv_at hl 0 rfl) ?_
  refine tq_V ⟨hx, hb, hml, hown, hts⟩ hT (c_X_isHigh l D ci ad g tc1 (nI dd) tn1 (mm := (1440 * dd + (tt_L (tt_dh g dd) 1440).getD k 0)) (by omega) (by omega)) lk_X_144 wX_mv ⟨hK, hg, hX⟩ (wX_rc ⟨hK, hg, hX⟩) rfl hl.1 rfl (Nat.le_of_ble_eq_true rfl) d_X_extreme_69 ⟨rfl, rfl, Nat.le_of_ble_eq_true rfl, Nat.le_of_ble_eq_true rfl⟩ ⟨Nat.zero_le _, Nat.zero_le _⟩ ?_
  refine lv_if_eq hx hb d_X_extreme_72 (tgt := 79) (by decide) (fun h9 => ?_) (fun h9 => ?_)
  · refine lv_iconst hx hb d_X_extreme_79 (v := (nI 0)) rfl ?_
    exact W.iret hx hb hr (fun t ht hW => ⟨_, rfl, (by rw [h9]; rfl), tc1, tn1, by rw [ht]; exact hX, hC, by rw [ht]; exact hO⟩) hL d_X_extreme_80
  · refine lv_iconst hx hb d_X_extreme_75 (v := (nI 1)) rfl ?_
    refine lv_goto hx hb d_X_extreme_76 (tgt := 80) (by decide) ?_
    exact W.iret hx hb hr (fun t ht hW => ⟨_, rfl, (zb_1 (zb_t h9)), tc1, tn1, by rw [ht]; exact hX, hC, by rw [ht]; exact hO⟩) hL d_X_extreme_80
set_option maxHeartbeats 4000000 in
set_option maxRecDepth 100000 in
theorem x_X_extremeI0 (l : Launch) (htr : l.stackTraces = false) (D : va_G) (ci : Nat → ClassId) (ad : Nat → Nat) (g : TS) (tc td : Int32) (tn : Nat → Int32) (u v x : Int32) (hv : ¬ ((0 ≤ u.toInt ∧ u.toInt < (tt_db (tt_day g) 10 : Nat)) ∧ 0 ≤ v.toInt)) : vx_Met l y_X_extreme (wT y_X_extreme b_X_extreme 5 (some .int)) ({ frames := 6, cells := 1, slots := 6, locals := 154 }) (tb (wXCE D ci ad g tc td tn) [.ref (ad 0), .int u, .int v, .int x]) tw_N (vx_X (fun u : Int32 × Int32 × (Nat → Int32) => tt_CI g u.1 u.2.1 u.2.2) (fun E u t => E = eI ∧ tx D ci ad g u.1 u.2.1 u.2.2 t.heap) (txF ad)) 1 6 (txF ad) := by
  refine vx_ofW (cc := b_X_extreme) (maxL := 5) (ret := (some .int)) (by decide) rfl ?_
  intro p e s m args below meth c s₁ B hml hno hv
  obtain ⟨rfl, ⟨hK, hg, hX, hD, hCI⟩, hE⟩ := hv
  have hx := B.exec
  have hb := B.bytes
  have hr := B.returns
  have hts := atoms_spec (ws := wT y_X_extreme b_X_extreme 5 (some .int)) B.pre
  have hT : ∀ w ∈ TT, w ∈ wT y_X_extreme b_X_extreme 5 (some .int) := wT_T
  have hown : s.vm.findClass RX = some m.cls := findClass_of_methodNamed B.named
  have hlocks := B.notSynchronized
  have hl := lv_entry ([.ref (ad 0), .int u, .int v, .int x]) (n := 5) (Nat.le_of_ble_eq_true rfl)
  rw [lg_entry_eq]
  generalize (lg_sl ([.ref (ad 0), .int u, .int v, .int x]) ++ List.replicate (5 - (lg_sl ([.ref (ad 0), .int u, .int v, .int x])).length) Slot.unset).toArray = ls at hl ⊢
  have hl : lv_has ls 5 [(0, .ref (ad 0)), (1, .int u), (2, .int v), (3, .int x)] := hl
  have hL : ∀ q ∈ ([] : List Loc), txF ad q.base := fun q hq => nomatch hq
  have hO : txO ad s.heap s.heap := txO.rf
  have hX0 := hX
  refine lv_aload_n hx hb d_X_extreme_0 rfl (lv_at hl 0 rfl) ?_
  refine lv_iload_n hx hb d_X_extreme_1 rfl (lv_at hl 1 rfl) ?_
  refine lv_iload_n hx hb d_X_extreme_2 rfl (lv_at hl 2 rfl) ?_
  refine tq_V ⟨hx, hb, hml, hown, hts⟩ hT (c_X_isExtreme0 l D ci ad g tc td tn u v hv) lk_X_138 wX_mv ⟨hK, hg, hX⟩ (wX_rc ⟨hK, hg, hX⟩) rfl hl.1 rfl (Nat.le_of_ble_eq_true rfl) d_X_extreme_3 ⟨rfl, rfl, Nat.le_of_ble_eq_true rfl, Nat.le_of_ble_eq_true rfl⟩ ⟨Nat.zero_le _, Nat.zero_le _⟩ ?_
  refine lv_if_ne hx hb d_X_extreme_6 (tgt := 19) (by decide) (fun hyes => absurd rfl hyes) (fun _ => ?_)
  exact tw_I hx hb htr hown (fun w h => hts w (hT w h)) hE (A := txF ad) (fun C n d h => vz_mk h (fun a cell h1 h2 => ⟨h1, tx_nst hX0 h1 h2⟩)) (is := 142) (text := "no such day or extreme") (by decide) ⟨Nat.le_of_eq hO.1.symm, fun q _ h => hO.2 q h, hL⟩ (hl.1.trans hml.symm) d_X_extreme_9 d_X_extreme_12 d_X_extreme_13 d_X_extreme_15 d_X_extreme_18 hno ⟨by decide, by decide, by decide, by decide⟩ hlocks (fun t ha h1 h2 => ⟨(tc, td, tn), hCI, ⟨rfl, tx_keep hX (fun k hk => h2 _ (tx_lt hX hk))⟩, by rw [← hO.1]; exact h1, fun q hq hn => (h2 q (by rw [hO.1]; exact hq)).trans (hO.2 q hn)⟩) hL (Nat.le_refl _) (Nat.le_refl _)
set_option maxHeartbeats 4000000 in
set_option maxRecDepth 100000 in
theorem x_X_extremeI1 (l : Launch) (htr : l.stackTraces = false) (D : va_G) (ci : Nat → ClassId) (ad : Nat → Nat) (g : TS) (tc td : Int32) (tn : Nat → Int32) {dd : Nat} (hd : dd < tt_db (tt_day g) 10) (v x : Int32) (hv : 0 ≤ v.toInt) (hv2 : ¬ v.toInt < ((tt_L (tt_dh g dd) 1440).length : Nat)) : vx_Met l y_X_extreme (wT y_X_extreme b_X_extreme 5 (some .int)) ({ frames := 6, cells := 1, slots := 6, locals := 154 }) (tb (wXCE D ci ad g tc td tn) [.ref (ad 0), .int (nI dd), .int v, .int x]) tw_N (vx_X (fun u : Int32 × Int32 × (Nat → Int32) => tt_CI g u.1 u.2.1 u.2.2) (fun E u t => E = eI ∧ tx D ci ad g u.1 u.2.1 u.2.2 t.heap) (txF ad)) 1 6 (txF ad) := by
  refine vx_ofW (cc := b_X_extreme) (maxL := 5) (ret := (some .int)) (by decide) rfl ?_
  intro p e s m args below meth c s₁ B hml hno hv
  obtain ⟨rfl, ⟨hK, hg, hX, hD, hCI⟩, hE⟩ := hv
  have hx := B.exec
  have hb := B.bytes
  have hr := B.returns
  have hts := atoms_spec (ws := wT y_X_extreme b_X_extreme 5 (some .int)) B.pre
  have hT : ∀ w ∈ TT, w ∈ wT y_X_extreme b_X_extreme 5 (some .int) := wT_T
  have hown : s.vm.findClass RX = some m.cls := findClass_of_methodNamed B.named
  have hlocks := B.notSynchronized
  have hl := lv_entry ([.ref (ad 0), .int (nI dd), .int v, .int x]) (n := 5) (Nat.le_of_ble_eq_true rfl)
  rw [lg_entry_eq]
  generalize (lg_sl ([.ref (ad 0), .int (nI dd), .int v, .int x]) ++ List.replicate (5 - (lg_sl ([.ref (ad 0), .int (nI dd), .int v, .int x])).length) Slot.unset).toArray = ls at hl ⊢
  have hl : lv_has ls 5 [(0, .ref (ad 0)), (1, .int (nI dd)), (2, .int v), (3, .int x)] := hl
  have hL : ∀ q ∈ ([] : List Loc), txF ad q.base := fun q hq => nomatch hq
  have hO : txO ad s.heap s.heap := txO.rf
  have hX0 := hX
  refine lv_aload_n hx hb d_X_extreme_0 rfl (lv_at hl 0 rfl) ?_
  refine lv_iload_n hx hb d_X_extreme_1 rfl (lv_at hl 1 rfl) ?_
  refine lv_iload_n hx hb d_X_extreme_2 rfl (lv_at hl 2 rfl) ?_
  refine tq_VW ⟨hx, hb, hml, hown, hts⟩ hT (c_X_isExtreme l D ci ad g tc td tn hd v hv) lk_X_138 wXC_mv ⟨hK, hg, hX, hD, hCI⟩ (wXW_rc hK hX) rfl hl.1 rfl (Nat.le_of_ble_eq_true rfl) d_X_extreme_3 ⟨rfl, rfl, Nat.le_of_ble_eq_true rfl, Nat.le_of_ble_eq_true rfl⟩ ⟨Nat.zero_le _, Nat.zero_le _⟩ hL (fun v9 H1 locs1 hF9 hL => ?_)
  obtain ⟨rfl, tc1, tn1, hX, hC, hO9⟩ := hF9
  have hO := hO.tr hO9
  refine lv_if_ne hx hb d_X_extreme_6 (tgt := 19) (by decide) (fun hyes => absurd (by rw [zb, if_neg hv2]) hyes) (fun _ => ?_)
  exact tw_I hx hb htr hown (fun w h => hts w (hT w h)) hE (A := txF ad) (fun C n d h => vz_mk h (fun a cell h1 h2 => ⟨h1, tx_nst hX0 h1 h2⟩)) (is := 142) (text := "no such day or extreme") (by decide) ⟨Nat.le_of_eq hO.1.symm, fun q _ h => hO.2 q h, hL⟩ (hl.1.trans hml.symm) d_X_extreme_9 d_X_extreme_12 d_X_extreme_13 d_X_extreme_15 d_X_extreme_18 hno ⟨by decide, by decide, by decide, by decide⟩ hlocks (fun t ha h1 h2 => ⟨(tc1, nI dd, tn1), Or.inr ⟨dd, hd, rfl, hC⟩, ⟨rfl, tx_keep hX (fun k hk => h2 _ (tx_lt hX hk))⟩, by rw [← hO.1]; exact h1, fun q hq hn => (h2 q (by rw [hO.1]; exact hq)).trans (hO.2 q hn)⟩) hL (Nat.le_refl _) (Nat.le_refl _)
set_option maxHeartbeats 4000000 in
set_option maxRecDepth 100000 in
theorem x_X_extremeA (l : Launch) (htr : l.stackTraces = false) (D : va_G) (ci : Nat → ClassId) (ad : Nat → Nat) (g : TS) (tc td : Int32) (tn : Nat → Int32) {dd k : Nat} (hd : dd < tt_db (tt_day g) 10) (hk : k < (tt_L (tt_dh g dd) 1440).length) (x : Int32) (hv2 : x.toInt < 0 ∨ 2 < x.toInt) : vx_Met l y_X_extreme (wT y_X_extreme b_X_extreme 5 (some .int)) ({ frames := 6, cells := 1, slots := 6, locals := 154 }) (tb (wXCE D ci ad g tc td tn) [.ref (ad 0), .int (nI dd), .int (nI k), .int x]) tw_N (vx_X (fun u : Int32 × Int32 × (Nat → Int32) => tt_CI g u.1 u.2.1 u.2.2) (fun E u t => E = eA ∧ tx D ci ad g u.1 u.2.1 u.2.2 t.heap) (txF ad)) 1 6 (txF ad) := by
  refine vx_ofW (cc := b_X_extreme) (maxL := 5) (ret := (some .int)) (by decide) rfl ?_
  intro p e s m args below meth c s₁ B hml hno hv
  obtain ⟨rfl, ⟨hK, hg, hX, hD, hCI⟩, hE⟩ := hv
  have hx := B.exec
  have hb := B.bytes
  have hr := B.returns
  have hts := atoms_spec (ws := wT y_X_extreme b_X_extreme 5 (some .int)) B.pre
  have hT : ∀ w ∈ TT, w ∈ wT y_X_extreme b_X_extreme 5 (some .int) := wT_T
  have hown : s.vm.findClass RX = some m.cls := findClass_of_methodNamed B.named
  have hlocks := B.notSynchronized
  have hl := lv_entry ([.ref (ad 0), .int (nI dd), .int (nI k), .int x]) (n := 5) (Nat.le_of_ble_eq_true rfl)
  rw [lg_entry_eq]
  generalize (lg_sl ([.ref (ad 0), .int (nI dd), .int (nI k), .int x]) ++ List.replicate (5 - (lg_sl ([.ref (ad 0), .int (nI dd), .int (nI k), .int x])).length) Slot.unset).toArray = ls at hl ⊢
  have hl : lv_has ls 5 [(0, .ref (ad 0)), (1, .int (nI dd)), (2, .int (nI k)), (3, .int x)] := hl
  have hL : ∀ q ∈ ([] : List Loc), txF ad q.base := fun q hq => nomatch hq
  have hO : txO ad s.heap s.heap := txO.rf
  have hdb := (tt_db_in hg.2.2.2 10 (Nat.le_refl _)).2
  have hlen := tt_L1440 (tt_dh g dd)
  have hLk := tt_L_get hk
  have hTk := tt_T_kind hLk.2
  have ek : (nI k).toInt = k := nI_toInt (by omega)
  have hX0 := hX
  refine lv_aload_n hx hb d_X_extreme_0 rfl (lv_at hl 0 rfl) ?_
  refine lv_iload_n hx hb d_X_extreme_1 rfl (lv_at hl 1 rfl) ?_
  refine lv_iload_n hx hb d_X_extreme_2 rfl (lv_at hl 2 rfl) ?_
  refine tq_VW ⟨hx, hb, hml, hown, hts⟩ hT (c_X_isExtreme l D ci ad g tc td tn hd (nI k) (by omega)) lk_X_138 wXC_mv ⟨hK, hg, hX, hD, hCI⟩ (wXW_rc hK hX) rfl hl.1 rfl (Nat.le_of_ble_eq_true rfl) d_X_extreme_3 ⟨rfl, rfl, Nat.le_of_ble_eq_true rfl, Nat.le_of_ble_eq_true rfl⟩ ⟨Nat.zero_le _, Nat.zero_le _⟩ hL (fun v9 H1 locs1 hF9 hL => ?_)
  obtain ⟨rfl, tc1, tn1, hX, hC, hO9⟩ := hF9
  have hO := hO.tr hO9
  refine lv_if_ne hx hb d_X_extreme_6 (tgt := 19) (by decide) (fun _ => ?_) (fun hno => absurd hno (fun z => zb_f z (by omega)))
  refine lv_aload_n hx hb d_X_extreme_19 rfl (lv_at hl 0 rfl) ?_
  refine va_get hx hb hts (fun w h => hT w (uX_in w h)) hown hK hX.1 0 rfl rfl 7 (by decide) (hts _ (hT _ k_X_33)) (fun _ h => h) rfl d_X_extreme_20 ?_
  refine lv_iload_n hx hb d_X_extreme_23 rfl (lv_at hl 2 rfl) ?_
  refine tq_iald hx hb hK hX.1 7 0 rfl rfl (show k < 1440 by omega) (by decide) d_X_extreme_24 ?_
  refine tq_ti (show _ = (nI (1440 * dd + (tt_L (tt_dh g dd) 1440).getD k 0)) from hC.2 k hk) ?_
  refine lv_istore hx hb d_X_extreme_25 hl (by decide) (lv' := [(4, .int (nI (1440 * dd + (tt_L (tt_dh g dd) 1440).getD k 0))), (0, .ref (ad 0)), (1, .int (nI dd)), (2, .int (nI k)), (3, .int x)]) rfl (fun ls hl => ?_)
  refine lv_iload_n hx hb d_X_extreme_27 rfl (lv_at hl 4 rfl) ?_
  refine lv_tableOut hx hb d_X_extreme_28 hv2 (tgt := 81) (by decide) ?_
  exact tw_A hx hb htr hown (fun w h => hts w (hT w h)) hE (A := txF ad) (fun C n d h => vz_mk h (fun a cell h1 h2 => ⟨h1, tx_nst hX0 h1 h2⟩)) (is := 147) (text := "no such question") (by decide) ⟨Nat.le_of_eq hO.1.symm, fun q _ h => hO.2 q h, hL⟩ (hl.1.trans hml.symm) d_X_extreme_81 d_X_extreme_84 d_X_extreme_85 d_X_extreme_87 d_X_extreme_90 hno ⟨by decide, by decide, by decide, by decide⟩ hlocks (fun t ha h1 h2 => ⟨(tc1, nI dd, tn1), Or.inr ⟨dd, hd, rfl, hC⟩, ⟨rfl, tx_keep hX (fun k hk => h2 _ (tx_lt hX hk))⟩, by rw [← hO.1]; exact h1, fun q hq hn => (h2 q (by rw [hO.1]; exact hq)).trans (hO.2 q hn)⟩) hL (Nat.le_refl _) (Nat.le_refl _)
end
section
/-! the reference: its object and its arrays; its leaves. Written by wip/whole/gen.py -/
abbrev tm_w (ci : Nat → ClassId) (am : Nat → Nat) (g : TS) (th fo sz : Int32) (hs mi hi tx : Nat → Int32) : va_W :=
  [(am 0, .inr (1, [.int th, .int (iZ (tt_lev g)), .ref (am 1), .ref (am 2), .ref (am 3), .ref (am 4), .ref (am 5), .ref (am 6), .ref (am 7), .int fo, .ref (am 8), .ref (am 9), .int sz, .ref (am 10)])),
   (am 1, .inl (ci 0, 10, .inl (fun j => nI (tt_day g j)))), (am 2, .inl (ci 0, 8, .inl (fun j => nI (tt_amp g j)))), (am 3, .inl (ci 1, 8, .inr (.inl (fun j => lN (tt_spd g j))))), (am 4, .inl (ci 1, 8, .inr (.inl (fun j => lN (tt_pha g j))))),
   (am 5, .inl (ci 0, 80, .inl (fun j => nI (tt_fac g (j / 10) (j % 10))))), (am 6, .inl (ci 1, 80, .inr (.inl (fun j => lN (tt_shf g (j / 10) (j % 10)))))),
   (am 7, .inl (ci 0, 1440, .inl hs)), (am 8, .inl (ci 0, 1440, .inl mi)), (am 9, .inl (ci 4, 1440, .inl hi)), (am 10, .inl (ci 0, 40, .inl tx))]
def tm (D : va_G) (ci : Nat → ClassId) (am : Nat → Nat) (g : TS) (th fo sz : Int32) (hs mi hi tx : Nat → Int32) (H : Heap) : Prop := va_P D tcl (tm_w ci am g th fo sz hs mi hi tx) H
def wM (D : va_G) (ci : Nat → ClassId) (am : Nat → Nat) (g : TS) (th fo sz : Int32) (hs mi hi tx : Nat → Int32) (U : State) (H : Heap) : Prop := tk D ci U ∧ tt_ok g ∧ tm D ci am g th fo sz hs mi hi tx H
theorem wM_mv {D : va_G} {ci : Nat → ClassId} {am : Nat → Nat} {g : TS} {th fo sz : Int32} {hs mi hi tx : Nat → Int32} : tmov (wM D ci am g th fo sz hs mi hi tx) := fun _ _ _ hW h => ⟨tk.moved hW h.1, h.2⟩
theorem wM_rc {D : va_G} {ci : Nat → ClassId} {am : Nat → Nat} {g : TS} {th fo sz : Int32} {hs mi hi tx : Nat → Int32} {s : State} {H : Heap} (hK : tk D ci s) (hM : tm D ci am g th fo sz hs mi hi tx H) : ∃ cellB : Cell, H[am 0]? = some cellB ∧ cellB.vm.isStatics = false ∧ s.vm.findClass RM = some cellB.cls := va_recv (q0 := 0) hK hM (q := (RM, TM, 14)) (ci := 1) rfl rfl
set_option maxHeartbeats 4000000 in
set_option maxRecDepth 100000 in
theorem c_M_isOne (l : Launch) (v : Int32) : Met l y_M_isOne (wT y_M_isOne b_M_isOne 1 (some .boolean)) (rP 0 0) (tb (wN) [.int v]) (tq_P (some (.int (zb (0 ≤ v.toInt ∧ v.toInt < 8))))) 0 0 tq_n := by
  refine Met.ofW (cc := b_M_isOne) (maxL := 1) (ret := (some .boolean)) (by decide) rfl ?_
  intro p e s m args below meth c s₁ B hml hv
  obtain ⟨rfl, hv⟩ := hv
  have hx := B.exec
  have hb := B.bytes
  have hr := B.returns
  have hts := atoms_spec (ws := wT y_M_isOne b_M_isOne 1 (some .boolean)) B.pre
  have hT : ∀ w ∈ TT, w ∈ wT y_M_isOne b_M_isOne 1 (some .boolean) := wT_T
  have hown : s.vm.findClass RM = some m.cls := findClass_of_methodNamed B.named
  have hlocks := B.notSynchronized
  have hl := lv_entry ([.int v]) (n := 1) (Nat.le_of_ble_eq_true rfl)
  rw [lg_entry_eq]
  generalize (lg_sl ([.int v]) ++ List.replicate (1 - (lg_sl ([.int v])).length) Slot.unset).toArray = ls at hl ⊢
  have hl : lv_has ls 1 [(0, .int v)] := hl
  refine lv_iload_n hx hb d_M_isOne_0 rfl (lv_at hl 0 rfl) ?_
  refine lv_if_lt hx hb d_M_isOne_1 (tgt := 14) (by decide) (fun q1 => ?_) (fun q1 => ?_)
  · have q1 := iv_lt0.mp q1
    refine lv_iconst hx hb d_M_isOne_14 (v := (nI 0)) rfl ?_
    exact W.zret hx hb hr narrow_b0 (fun t ht hW => ⟨_, rfl, ⟨zb_0 (by omega), ht⟩⟩) (fun q hq => nomatch hq) d_M_isOne_15
  · have q1 := mt iv_lt0.mpr q1
    refine lv_iload_n hx hb d_M_isOne_4 rfl (lv_at hl 0 rfl) ?_
    refine lv_bipush hx hb d_M_isOne_5 (v := (nI 8)) rfl ?_
    refine lv_icmp_ge hx hb d_M_isOne_7 (tgt := 14) (by decide) (fun q2 => ?_) (fun q2 => ?_)
    · have q2 := Int32.le_iff_toInt_le.mp q2
      rw [nI_toInt (n := 8) (by decide)] at q2
      refine lv_iconst hx hb d_M_isOne_14 (v := (nI 0)) rfl ?_
      exact W.zret hx hb hr narrow_b0 (fun t ht hW => ⟨_, rfl, ⟨zb_0 (by omega), ht⟩⟩) (fun q hq => nomatch hq) d_M_isOne_15
    · have q2 := mt Int32.le_iff_toInt_le.mpr q2
      rw [nI_toInt (n := 8) (by decide)] at q2
      refine lv_iconst hx hb d_M_isOne_10 (v := (nI 1)) rfl ?_
      refine lv_goto hx hb d_M_isOne_11 (tgt := 15) (by decide) ?_
      exact W.zret hx hb hr narrow_b1 (fun t ht hW => ⟨_, rfl, ⟨zb_1 (by omega), ht⟩⟩) (fun q hq => nomatch hq) d_M_isOne_15
set_option maxHeartbeats 4000000 in
set_option maxRecDepth 100000 in
theorem c_M_isYear (l : Launch) (v : Int32) : Met l y_M_isYear (wT y_M_isYear b_M_isYear 1 (some .boolean)) (rP 0 0) (tb (wN) [.int v]) (tq_P (some (.int (zb (0 ≤ v.toInt ∧ v.toInt < 10))))) 0 0 tq_n := by
  refine Met.ofW (cc := b_M_isYear) (maxL := 1) (ret := (some .boolean)) (by decide) rfl ?_
  intro p e s m args below meth c s₁ B hml hv
  obtain ⟨rfl, hv⟩ := hv
  have hx := B.exec
  have hb := B.bytes
  have hr := B.returns
  have hts := atoms_spec (ws := wT y_M_isYear b_M_isYear 1 (some .boolean)) B.pre
  have hT : ∀ w ∈ TT, w ∈ wT y_M_isYear b_M_isYear 1 (some .boolean) := wT_T
  have hown : s.vm.findClass RM = some m.cls := findClass_of_methodNamed B.named
  have hlocks := B.notSynchronized
  have hl := lv_entry ([.int v]) (n := 1) (Nat.le_of_ble_eq_true rfl)
  rw [lg_entry_eq]
  generalize (lg_sl ([.int v]) ++ List.replicate (1 - (lg_sl ([.int v])).length) Slot.unset).toArray = ls at hl ⊢
  have hl : lv_has ls 1 [(0, .int v)] := hl
  refine lv_iload_n hx hb d_M_isYear_0 rfl (lv_at hl 0 rfl) ?_
  refine lv_if_lt hx hb d_M_isYear_1 (tgt := 14) (by decide) (fun q1 => ?_) (fun q1 => ?_)
  · have q1 := iv_lt0.mp q1
    refine lv_iconst hx hb d_M_isYear_14 (v := (nI 0)) rfl ?_
    exact W.zret hx hb hr narrow_b0 (fun t ht hW => ⟨_, rfl, ⟨zb_0 (by omega), ht⟩⟩) (fun q hq => nomatch hq) d_M_isYear_15
  · have q1 := mt iv_lt0.mpr q1
    refine lv_iload_n hx hb d_M_isYear_4 rfl (lv_at hl 0 rfl) ?_
    refine lv_bipush hx hb d_M_isYear_5 (v := (nI 10)) rfl ?_
    refine lv_icmp_ge hx hb d_M_isYear_7 (tgt := 14) (by decide) (fun q2 => ?_) (fun q2 => ?_)
    · have q2 := Int32.le_iff_toInt_le.mp q2
      rw [nI_toInt (n := 10) (by decide)] at q2
      refine lv_iconst hx hb d_M_isYear_14 (v := (nI 0)) rfl ?_
      exact W.zret hx hb hr narrow_b0 (fun t ht hW => ⟨_, rfl, ⟨zb_0 (by omega), ht⟩⟩) (fun q hq => nomatch hq) d_M_isYear_15
    · have q2 := mt Int32.le_iff_toInt_le.mpr q2
      rw [nI_toInt (n := 10) (by decide)] at q2
      refine lv_iconst hx hb d_M_isYear_10 (v := (nI 1)) rfl ?_
      refine lv_goto hx hb d_M_isYear_11 (tgt := 15) (by decide) ?_
      exact W.zret hx hb hr narrow_b1 (fun t ht hW => ⟨_, rfl, ⟨zb_1 (by omega), ht⟩⟩) (fun q hq => nomatch hq) d_M_isYear_15
set_option maxHeartbeats 4000000 in
set_option maxRecDepth 100000 in
theorem c_M_isTurn (l : Launch) (v : Int64) : Met l y_M_isTurn (wT y_M_isTurn b_M_isTurn 2 (some .boolean)) (rP 0 0) (tb (wN) [.long v]) (tq_P (some (.int (zb (0 ≤ v.toInt ∧ v.toInt < 281474976710656))))) 0 0 tq_n := by
  refine Met.ofW (cc := b_M_isTurn) (maxL := 2) (ret := (some .boolean)) (by decide) rfl ?_
  intro p e s m args below meth c s₁ B hml hv
  obtain ⟨rfl, hv⟩ := hv
  have hx := B.exec
  have hb := B.bytes
  have hr := B.returns
  have hts := atoms_spec (ws := wT y_M_isTurn b_M_isTurn 2 (some .boolean)) B.pre
  have hT : ∀ w ∈ TT, w ∈ wT y_M_isTurn b_M_isTurn 2 (some .boolean) := wT_T
  have hown : s.vm.findClass RM = some m.cls := findClass_of_methodNamed B.named
  have hlocks := B.notSynchronized
  have hl := lv_entry ([.long v]) (n := 2) (Nat.le_of_ble_eq_true rfl)
  rw [lg_entry_eq]
  generalize (lg_sl ([.long v]) ++ List.replicate (2 - (lg_sl ([.long v])).length) Slot.unset).toArray = ls at hl ⊢
  have hl : lv_has ls 2 [(0, .long v)] := hl
  refine lv_lload_n hx hb d_M_isTurn_0 rfl (lv_at hl 0 rfl) ?_
  refine lv_lconst hx hb d_M_isTurn_1 (v := (lN 0)) rfl ?_
  refine W.lcmp hx hb d_M_isTurn_2 ?_
  refine lv_if_lt hx hb d_M_isTurn_3 (tgt := 18) (by decide) (fun q1 => ?_) (fun q1 => ?_)
  · have q1 := ((lg_cmp_lt _ _).trans Int64.lt_iff_toInt_lt).mp q1
    rw [pk_lT (n := 0) (by decide)] at q1
    refine lv_iconst hx hb d_M_isTurn_18 (v := (nI 0)) rfl ?_
    exact W.zret hx hb hr narrow_b0 (fun t ht hW => ⟨_, rfl, ⟨zb_0 (by omega), ht⟩⟩) (fun q hq => nomatch hq) d_M_isTurn_19
  · have q1 := mt ((lg_cmp_lt _ _).trans Int64.lt_iff_toInt_lt).mpr q1
    rw [pk_lT (n := 0) (by decide)] at q1
    refine lv_lload_n hx hb d_M_isTurn_6 rfl (lv_at hl 0 rfl) ?_
    refine lv_ldc2 hx hb (v := (lN 281474976710656)) hown (hts _ (hT _ k_M_47)) d_M_isTurn_7 ?_
    refine W.lcmp hx hb d_M_isTurn_10 ?_
    refine lv_if_ge hx hb d_M_isTurn_11 (tgt := 18) (by decide) (fun q2 => ?_) (fun q2 => ?_)
    · have q2 := ((lg_cmp_ge _ _).trans Int64.le_iff_toInt_le).mp q2
      rw [pk_lT (n := 281474976710656) (by decide)] at q2
      refine lv_iconst hx hb d_M_isTurn_18 (v := (nI 0)) rfl ?_
      exact W.zret hx hb hr narrow_b0 (fun t ht hW => ⟨_, rfl, ⟨zb_0 (by omega), ht⟩⟩) (fun q hq => nomatch hq) d_M_isTurn_19
    · have q2 := mt ((lg_cmp_ge _ _).trans Int64.le_iff_toInt_le).mpr q2
      rw [pk_lT (n := 281474976710656) (by decide)] at q2
      refine lv_iconst hx hb d_M_isTurn_14 (v := (nI 1)) rfl ?_
      refine lv_goto hx hb d_M_isTurn_15 (tgt := 19) (by decide) ?_
      exact W.zret hx hb hr narrow_b1 (fun t ht hW => ⟨_, rfl, ⟨zb_1 (by omega), ht⟩⟩) (fun q hq => nomatch hq) d_M_isTurn_19
set_option maxHeartbeats 4000000 in
set_option maxRecDepth 100000 in
theorem c_M_thrown (l : Launch) (D : va_G) (ci : Nat → ClassId) (am : Nat → Nat) (g : TS) (th fo sz : Int32) (hs mi hi tx : Nat → Int32) : Met l y_M_thrown (wT y_M_thrown b_M_thrown 1 (some .int)) (rP 0 0) (tb (wM D ci am g th fo sz hs mi hi tx) [.ref (am 0)]) (tq_P (some (.int th))) 0 0 tq_n := by
  refine Met.ofW (cc := b_M_thrown) (maxL := 1) (ret := (some .int)) (by decide) rfl ?_
  intro p e s m args below meth c s₁ B hml hv
  obtain ⟨rfl, hK, hg, hM⟩ := hv
  have hx := B.exec
  have hb := B.bytes
  have hr := B.returns
  have hts := atoms_spec (ws := wT y_M_thrown b_M_thrown 1 (some .int)) B.pre
  have hT : ∀ w ∈ TT, w ∈ wT y_M_thrown b_M_thrown 1 (some .int) := wT_T
  have hown : s.vm.findClass RM = some m.cls := findClass_of_methodNamed B.named
  have hlocks := B.notSynchronized
  have hl := lv_entry ([.ref (am 0)]) (n := 1) (Nat.le_of_ble_eq_true rfl)
  rw [lg_entry_eq]
  generalize (lg_sl ([.ref (am 0)]) ++ List.replicate (1 - (lg_sl ([.ref (am 0)])).length) Slot.unset).toArray = ls at hl ⊢
  have hl : lv_has ls 1 [(0, .ref (am 0))] := hl
  refine lv_aload_n hx hb d_M_thrown_0 rfl (lv_at hl 0 rfl) ?_
  refine va_get hx hb hts (fun w h => hT w (uM_in w h)) hown hK hM 0 rfl rfl 0 (by decide) (hts _ (hT _ k_M_43)) (fun _ h => h) rfl d_M_thrown_1 ?_
  exact W.iret hx hb hr (fun t ht hW => ⟨_, rfl, ⟨rfl, ht⟩⟩) (fun q hq => nomatch hq) d_M_thrown_4
section G30
variable {p : Program} {l : Launch} {e : Env} {R : Room} {s : State} {m : MethodId} {args : Array Value} {below : List Frame} {meth : Method} {c : Code} {H : Heap} {locs : List Loc} {cells slots : Nat} {Q : State → Prop} {Ts : List Cond}
variable {D : va_G} {ci : Nat → ClassId} {am : Nat → Nat} {g : TS} {th fo sz : Int32} {hs mi hi tx : Nat → Int32}
set_option maxHeartbeats 4000000 in
set_option maxRecDepth 100000 in
theorem l_M_daysBefore (hx : p.tables.exec = Jvm.exec) (hb : c.code = b_M_daysBefore) (hts : ∀ w ∈ Ts, w.before args s = true) (hT : ∀ w ∈ TT, w ∈ Ts) (hown : s.vm.findClass RM = some m.cls) (hK : tk D ci s) (hg : tt_ok g) (hM : tm D ci am g th fo sz hs mi hi tx H) {y : Nat} (hy : y ≤ 10)
    (kk : ∀ (ls : Array Slot), lv_has ls 4 [(3, .int (nI y)), (2, .int (nI (tt_db (tt_day g) y))), (0, .ref (am 0)), (1, .int (nI y))] → W p l e R s m args below meth c H locs cells slots Q (F0 m 24 ls [])) :
    ∀ (n k : Nat) (ls : Array Slot), k + n = y → lv_has ls 4 [(3, .int (nI k)), (2, .int (nI (tt_db (tt_day g) k))), (0, .ref (am 0)), (1, .int (nI y))] → W p l e R s m args below meth c H locs cells slots Q (F0 m 4 ls []) := by
  intro n
  induction n with
  | zero =>
    intro k ls hk hl
    obtain rfl : k = y := by omega
    refine lv_iload_n hx hb d_M_daysBefore_4 rfl (lv_at hl 0 rfl) ?_
    refine lv_iload_n hx hb d_M_daysBefore_5 rfl (lv_at hl 3 rfl) ?_
    refine lv_icmp_ge hx hb d_M_daysBefore_6 (tgt := 24) (by decide) (fun _ => ?_) (fun hno => absurd (nI_le (Nat.le_refl _) (by omega)) hno)
    exact kk ls hl
  | succ n ih =>
    intro k ls hk hl
    refine lv_iload_n hx hb d_M_daysBefore_4 rfl (lv_at hl 0 rfl) ?_
    refine lv_iload_n hx hb d_M_daysBefore_5 rfl (lv_at hl 3 rfl) ?_
    refine lv_icmp_ge hx hb d_M_daysBefore_6 (tgt := 24) (by decide) (fun hyes => absurd hyes (nI_ge (show k < y by omega) (by omega))) (fun _ => ?_)
    refine lv_iload_n hx hb d_M_daysBefore_9 rfl (lv_at hl 1 rfl) ?_
    refine lv_aload_n hx hb d_M_daysBefore_10 rfl (lv_at hl 2 rfl) ?_
    refine va_get hx hb hts (fun w h => hT w (uM_in w h)) hown hK hM 0 rfl rfl 2 (by decide) (hts _ (hT _ k_M_7)) (fun _ h => h) rfl d_M_daysBefore_11 ?_
    refine lv_iload_n hx hb d_M_daysBefore_14 rfl (lv_at hl 0 rfl) ?_
    refine tq_iald hx hb hK hM 1 0 rfl rfl (show k < 10 by omega) (by decide) d_M_daysBefore_15 ?_
    refine lv_iadd hx hb d_M_daysBefore_16 ?_
    refine tq_ti (show _ = (nI (tt_db (tt_day g) (k + 1))) from nI_add _ _) ?_
    refine lv_istore_n hx hb d_M_daysBefore_17 rfl hl (by decide) (lv' := [(2, .int (nI (tt_db (tt_day g) (k + 1)))), (3, .int (nI k)), (0, .ref (am 0)), (1, .int (nI y))]) rfl (fun ls hl => ?_)
    refine lv_iinc hx hb d_M_daysBefore_18 hl (k := 1) rfl (v := (nI (k + 1))) (by rw [show Int32.ofInt 1 = 1 from rfl]; exact nI_1 k) (by decide) (lv' := [(3, .int (nI (k + 1))), (2, .int (nI (tt_db (tt_day g) (k + 1)))), (0, .ref (am 0)), (1, .int (nI y))]) rfl (fun ls hl => ?_)
    refine lv_goto hx hb d_M_daysBefore_21 (tgt := 4) (by decide) ?_
    have hl := lv_sub hl (l' := [(3, .int (nI (k + 1))), (2, .int (nI (tt_db (tt_day g) (k + 1)))), (0, .ref (am 0)), (1, .int (nI y))]) [0, 1, 2, 3] rfl
    exact ih (k + 1) ls (by omega) hl
end G30
set_option maxHeartbeats 4000000 in
set_option maxRecDepth 100000 in
theorem c_M_daysBefore (l : Launch) (D : va_G) (ci : Nat → ClassId) (am : Nat → Nat) (g : TS) (th fo sz : Int32) (hs mi hi tx : Nat → Int32) {y : Nat} (hy : y ≤ 10) : Met l y_M_daysBefore (wT y_M_daysBefore b_M_daysBefore 4 (some .int)) (rP 0 0) (tb (wM D ci am g th fo sz hs mi hi tx) [.ref (am 0), .int (nI y)]) (tq_P (some (.int (nI (tt_db (tt_day g) y))))) 0 0 tq_n := by
  refine Met.ofW (cc := b_M_daysBefore) (maxL := 4) (ret := (some .int)) (by decide) rfl ?_
  intro p e s m args below meth c s₁ B hml hv
  obtain ⟨rfl, hK, hg, hM⟩ := hv
  have hx := B.exec
  have hb := B.bytes
  have hr := B.returns
  have hts := atoms_spec (ws := wT y_M_daysBefore b_M_daysBefore 4 (some .int)) B.pre
  have hT : ∀ w ∈ TT, w ∈ wT y_M_daysBefore b_M_daysBefore 4 (some .int) := wT_T
  have hown : s.vm.findClass RM = some m.cls := findClass_of_methodNamed B.named
  have hlocks := B.notSynchronized
  have hl := lv_entry ([.ref (am 0), .int (nI y)]) (n := 4) (Nat.le_of_ble_eq_true rfl)
  rw [lg_entry_eq]
  generalize (lg_sl ([.ref (am 0), .int (nI y)]) ++ List.replicate (4 - (lg_sl ([.ref (am 0), .int (nI y)])).length) Slot.unset).toArray = ls at hl ⊢
  have hl : lv_has ls 4 [(0, .ref (am 0)), (1, .int (nI y))] := hl
  refine lv_iconst hx hb d_M_daysBefore_0 (v := (nI 0)) rfl ?_
  refine lv_istore_n hx hb d_M_daysBefore_1 rfl hl (by decide) (lv' := [(2, .int (nI 0)), (0, .ref (am 0)), (1, .int (nI y))]) rfl (fun ls hl => ?_)
  refine lv_iconst hx hb d_M_daysBefore_2 (v := (nI 0)) rfl ?_
  refine lv_istore_n hx hb d_M_daysBefore_3 rfl hl (by decide) (lv' := [(3, .int (nI 0)), (2, .int (nI 0)), (0, .ref (am 0)), (1, .int (nI y))]) rfl (fun ls hl => ?_)
  refine l_M_daysBefore hx hb hts hT hown hK hg hM hy (fun ls hl => ?_) y 0 ls (Nat.zero_add _) hl
  refine lv_iload_n hx hb d_M_daysBefore_24 rfl (lv_at hl 1 rfl) ?_
  exact W.iret hx hb hr (fun t ht hW => ⟨_, rfl, ⟨rfl, ht⟩⟩) (fun q hq => nomatch hq) d_M_daysBefore_25
set_option maxHeartbeats 4000000 in
set_option maxRecDepth 100000 in
theorem c_M_isMinute (l : Launch) (D : va_G) (ci : Nat → ClassId) (am : Nat → Nat) (g : TS) (th fo sz : Int32) (hs mi hi tx : Nat → Int32) (v : Int32) : Met l y_M_isMinute (wT y_M_isMinute b_M_isMinute 2 (some .boolean)) (rP 1 23) (tb (wM D ci am g th fo sz hs mi hi tx) [.ref (am 0), .int v]) (tq_P (some (.int (zb (0 ≤ v.toInt ∧ v.toInt < (tt_fst g 10 : Nat)))))) 0 0 tq_n := by
  refine Met.ofW (cc := b_M_isMinute) (maxL := 2) (ret := (some .boolean)) (by decide) rfl ?_
  intro p e s m args below meth c s₁ B hml hv
  obtain ⟨rfl, hK, hg, hM⟩ := hv
  have hx := B.exec
  have hb := B.bytes
  have hr := B.returns
  have hts := atoms_spec (ws := wT y_M_isMinute b_M_isMinute 2 (some .boolean)) B.pre
  have hT : ∀ w ∈ TT, w ∈ wT y_M_isMinute b_M_isMinute 2 (some .boolean) := wT_T
  have hown : s.vm.findClass RM = some m.cls := findClass_of_methodNamed B.named
  have hlocks := B.notSynchronized
  have hl := lv_entry ([.ref (am 0), .int v]) (n := 2) (Nat.le_of_ble_eq_true rfl)
  rw [lg_entry_eq]
  generalize (lg_sl ([.ref (am 0), .int v]) ++ List.replicate (2 - (lg_sl ([.ref (am 0), .int v])).length) Slot.unset).toArray = ls at hl ⊢
  have hl : lv_has ls 2 [(0, .ref (am 0)), (1, .int v)] := hl
  have hdb := tt_db_in hg.2.2.2 10 (Nat.le_refl _)
  have hf10 : tt_fst g 10 = 1440 * tt_db (tt_day g) 10 := rfl
  refine lv_iload_n hx hb d_M_isMinute_0 rfl (lv_at hl 1 rfl) ?_
  refine lv_if_lt hx hb d_M_isMinute_1 (tgt := 22) (by decide) (fun q1 => ?_) (fun q1 => ?_)
  · have q1 := iv_lt0.mp q1
    refine lv_iconst hx hb d_M_isMinute_22 (v := (nI 0)) rfl ?_
    exact W.zret hx hb hr narrow_b0 (fun t ht hW => ⟨_, rfl, ⟨zb_0 (by omega), ht⟩⟩) (fun q hq => nomatch hq) d_M_isMinute_23
  · have q1 := mt iv_lt0.mpr q1
    refine lv_iload_n hx hb d_M_isMinute_4 rfl (lv_at hl 1 rfl) ?_
    refine lv_sipush hx hb d_M_isMinute_5 (v := (nI 1440)) rfl ?_
    refine lv_aload_n hx hb d_M_isMinute_8 rfl (lv_at hl 0 rfl) ?_
    refine lv_bipush hx hb d_M_isMinute_9 (v := (nI 10)) rfl ?_
    refine tq_V ⟨hx, hb, hml, hown, hts⟩ hT (c_M_daysBefore l D ci am g th fo sz hs mi hi tx (y := 10) (by decide)) lk_M_69 wM_mv ⟨hK, hg, hM⟩ (wM_rc hK hM) rfl hl.1 rfl (Nat.le_of_ble_eq_true rfl) d_M_isMinute_11 ⟨rfl, rfl, Nat.le_of_ble_eq_true rfl, Nat.le_of_ble_eq_true rfl⟩ ⟨Nat.zero_le _, Nat.zero_le _⟩ ?_
    refine lv_imul hx hb d_M_isMinute_14 ?_
    refine tq_ti (show _ = (nI (tt_fst g 10)) from pk_mul _ _) ?_
    refine lv_icmp_ge hx hb d_M_isMinute_15 (tgt := 22) (by decide) (fun q2 => ?_) (fun q2 => ?_)
    · have q2 := Int32.le_iff_toInt_le.mp q2
      rw [nI_toInt (n := (tt_fst g 10)) (by omega)] at q2
      refine lv_iconst hx hb d_M_isMinute_22 (v := (nI 0)) rfl ?_
      exact W.zret hx hb hr narrow_b0 (fun t ht hW => ⟨_, rfl, ⟨zb_0 (by omega), ht⟩⟩) (fun q hq => nomatch hq) d_M_isMinute_23
    · have q2 := mt Int32.le_iff_toInt_le.mpr q2
      rw [nI_toInt (n := (tt_fst g 10)) (by omega)] at q2
      refine lv_iconst hx hb d_M_isMinute_18 (v := (nI 1)) rfl ?_
      refine lv_goto hx hb d_M_isMinute_19 (tgt := 23) (by decide) ?_
      exact W.zret hx hb hr narrow_b1 (fun t ht hW => ⟨_, rfl, ⟨zb_1 (by omega), ht⟩⟩) (fun q hq => nomatch hq) d_M_isMinute_23
set_option maxHeartbeats 4000000 in
set_option maxRecDepth 100000 in
theorem c_M_isDay (l : Launch) (D : va_G) (ci : Nat → ClassId) (am : Nat → Nat) (g : TS) (th fo sz : Int32) (hs mi hi tx : Nat → Int32) (v : Int32) : Met l y_M_isDay (wT y_M_isDay b_M_isDay 2 (some .boolean)) (rP 1 23) (tb (wM D ci am g th fo sz hs mi hi tx) [.ref (am 0), .int v]) (tq_P (some (.int (zb (0 ≤ v.toInt ∧ v.toInt < (tt_db (tt_day g) 10 : Nat)))))) 0 0 tq_n := by
  refine Met.ofW (cc := b_M_isDay) (maxL := 2) (ret := (some .boolean)) (by decide) rfl ?_
  intro p e s m args below meth c s₁ B hml hv
  obtain ⟨rfl, hK, hg, hM⟩ := hv
  have hx := B.exec
  have hb := B.bytes
  have hr := B.returns
  have hts := atoms_spec (ws := wT y_M_isDay b_M_isDay 2 (some .boolean)) B.pre
  have hT : ∀ w ∈ TT, w ∈ wT y_M_isDay b_M_isDay 2 (some .boolean) := wT_T
  have hown : s.vm.findClass RM = some m.cls := findClass_of_methodNamed B.named
  have hlocks := B.notSynchronized
  have hl := lv_entry ([.ref (am 0), .int v]) (n := 2) (Nat.le_of_ble_eq_true rfl)
  rw [lg_entry_eq]
  generalize (lg_sl ([.ref (am 0), .int v]) ++ List.replicate (2 - (lg_sl ([.ref (am 0), .int v])).length) Slot.unset).toArray = ls at hl ⊢
  have hl : lv_has ls 2 [(0, .ref (am 0)), (1, .int v)] := hl
  have hdb := tt_db_in hg.2.2.2 10 (Nat.le_refl _)
  have hf10 : tt_fst g 10 = 1440 * tt_db (tt_day g) 10 := rfl
  refine lv_iload_n hx hb d_M_isDay_0 rfl (lv_at hl 1 rfl) ?_
  refine lv_if_lt hx hb d_M_isDay_1 (tgt := 18) (by decide) (fun q1 => ?_) (fun q1 => ?_)
  · have q1 := iv_lt0.mp q1
    refine lv_iconst hx hb d_M_isDay_18 (v := (nI 0)) rfl ?_
    exact W.zret hx hb hr narrow_b0 (fun t ht hW => ⟨_, rfl, ⟨zb_0 (by omega), ht⟩⟩) (fun q hq => nomatch hq) d_M_isDay_19
  · have q1 := mt iv_lt0.mpr q1
    refine lv_iload_n hx hb d_M_isDay_4 rfl (lv_at hl 1 rfl) ?_
    refine lv_aload_n hx hb d_M_isDay_5 rfl (lv_at hl 0 rfl) ?_
    refine lv_bipush hx hb d_M_isDay_6 (v := (nI 10)) rfl ?_
    refine tq_V ⟨hx, hb, hml, hown, hts⟩ hT (c_M_daysBefore l D ci am g th fo sz hs mi hi tx (y := 10) (by decide)) lk_M_69 wM_mv ⟨hK, hg, hM⟩ (wM_rc hK hM) rfl hl.1 rfl (Nat.le_of_ble_eq_true rfl) d_M_isDay_8 ⟨rfl, rfl, Nat.le_of_ble_eq_true rfl, Nat.le_of_ble_eq_true rfl⟩ ⟨Nat.zero_le _, Nat.zero_le _⟩ ?_
    refine lv_icmp_ge hx hb d_M_isDay_11 (tgt := 18) (by decide) (fun q2 => ?_) (fun q2 => ?_)
    · have q2 := Int32.le_iff_toInt_le.mp q2
      rw [nI_toInt (n := (tt_db (tt_day g) 10)) (by omega)] at q2
      refine lv_iconst hx hb d_M_isDay_18 (v := (nI 0)) rfl ?_
      exact W.zret hx hb hr narrow_b0 (fun t ht hW => ⟨_, rfl, ⟨zb_0 (by omega), ht⟩⟩) (fun q hq => nomatch hq) d_M_isDay_19
    · have q2 := mt Int32.le_iff_toInt_le.mpr q2
      rw [nI_toInt (n := (tt_db (tt_day g) 10)) (by omega)] at q2
      refine lv_iconst hx hb d_M_isDay_14 (v := (nI 1)) rfl ?_
      refine lv_goto hx hb d_M_isDay_15 (tgt := 19) (by decide) ?_
      exact W.zret hx hb hr narrow_b1 (fun t ht hW => ⟨_, rfl, ⟨zb_1 (by omega), ht⟩⟩) (fun q hq => nomatch hq) d_M_isDay_19
theorem tt_yr_day (g : TS) (m : Nat) : tt_yr g m = tt_yr g (1440 * (m / 1440)) := by
  unfold tt_yr
  have key : ∀ n, tt_yrA (tt_day g) m n = tt_yrA (tt_day g) (1440 * (m / 1440)) n := by
    intro n
    induction n with
    | zero => rfl
    | succ n ih =>
      unfold tt_yrA
      rw [ih]
      by_cases h : 1440 * tt_db (tt_day g) (n + 1) ≤ m
      · rw [if_pos h, if_pos (by omega)]
      · rw [if_neg h, if_neg (by omega)]
  exact key 9
section G30b
variable {p : Program} {l : Launch} {e : Env} {R : Room} {s : State} {m : MethodId} {args : Array Value} {below : List Frame} {meth : Method} {c : Code} {H : Heap} {locs : List Loc} {cells slots : Nat} {Q : State → Prop} {Ts : List Cond}
variable {D : va_G} {ci : Nat → ClassId} {am : Nat → Nat} {g : TS} {th fo sz : Int32} {hs mi hi tx : Nat → Int32}
set_option maxHeartbeats 4000000 in
set_option maxRecDepth 100000 in
theorem l_M_yearOfDay (hx : p.tables.exec = Jvm.exec) (hb : c.code = b_M_yearOfDay) (hts : ∀ w ∈ Ts, w.before args s = true) (hT : ∀ w ∈ TT, w ∈ Ts) (hown : s.vm.findClass RM = some m.cls) (hml : c.maxLocals = 3) (hK : tk D ci s) (hg : tt_ok g) (hM : tm D ci am g th fo sz hs mi hi tx H) (hR : 0 + 1 ≤ R.frames ∧ 8 + (4 + 11) + 0 ≤ R.locals) (hf : cells ≤ R.cells ∧ slots ≤ R.slots) {d Y : Nat} (hd : d < 1000000)
    (kk : ∀ (ls : Array Slot), lv_has ls 3 [(2, .int (nI Y)), (0, .ref (am 0)), (1, .int (nI d))] → W p l e R s m args below meth c H locs cells slots Q (F0 m 18 ls [])) :
    ∀ (n : Nat) (ls : Array Slot), n ≤ 9 → tt_yrA (tt_day g) (1440 * d) n = Y → lv_has ls 3 [(2, .int (nI n)), (0, .ref (am 0)), (1, .int (nI d))] → W p l e R s m args below meth c H locs cells slots Q (F0 m 3 ls []) := by
  intro n
  induction n with
  | zero =>
    intro ls hn hY hl
    have hY : 0 = Y := hY
    subst hY
    refine lv_aload_n hx hb d_M_yearOfDay_3 rfl (lv_at hl 1 rfl) ?_
    refine lv_iload_n hx hb d_M_yearOfDay_4 rfl (lv_at hl 0 rfl) ?_
    refine tq_V ⟨hx, hb, hml, hown, hts⟩ hT (c_M_daysBefore l D ci am g th fo sz hs mi hi tx (y := 0) (by decide)) lk_M_69 wM_mv ⟨hK, hg, hM⟩ (wM_rc hK hM) rfl hl.1 rfl (Nat.le_of_ble_eq_true rfl) d_M_yearOfDay_5 ⟨rfl, rfl, hR⟩ hf ?_
    refine lv_iload_n hx hb d_M_yearOfDay_8 rfl (lv_at hl 2 rfl) ?_
    refine lv_icmp_le hx hb d_M_yearOfDay_9 (tgt := 18) (by decide) (fun _ => ?_) (fun hno => absurd (nI_le (Nat.zero_le d) (by omega)) hno)
    exact kk ls hl
  | succ n ih =>
    intro ls hn hY hl
    have hle := (tt_db_in hg.2.2.2 (n + 1) (by omega)).2
    unfold tt_yrA at hY
    refine lv_aload_n hx hb d_M_yearOfDay_3 rfl (lv_at hl 1 rfl) ?_
    refine lv_iload_n hx hb d_M_yearOfDay_4 rfl (lv_at hl 0 rfl) ?_
    refine tq_V ⟨hx, hb, hml, hown, hts⟩ hT (c_M_daysBefore l D ci am g th fo sz hs mi hi tx (y := (n + 1)) (by omega)) lk_M_69 wM_mv ⟨hK, hg, hM⟩ (wM_rc hK hM) rfl hl.1 rfl (Nat.le_of_ble_eq_true rfl) d_M_yearOfDay_5 ⟨rfl, rfl, hR⟩ hf ?_
    refine lv_iload_n hx hb d_M_yearOfDay_8 rfl (lv_at hl 2 rfl) ?_
    refine lv_icmp_le hx hb d_M_yearOfDay_9 (tgt := 18) (by decide) (fun h1 => ?_) (fun h1 => ?_)
    · have h1 := (nI_leI (by omega) (by omega)).mp h1
      rw [if_pos (by omega)] at hY
      subst hY
      exact kk ls hl
    · have h1 := mt (nI_leI (by omega) (by omega)).mpr h1
      rw [if_neg (by omega)] at hY
      refine lv_iinc hx hb d_M_yearOfDay_12 hl (k := 0) rfl (v := (nI n)) (by rw [show Int32.ofInt (-1) = -1 from rfl]; exact pk_m1 n) (by decide) (lv' := [(2, .int (nI n)), (0, .ref (am 0)), (1, .int (nI d))]) rfl (fun ls hl => ?_)
      refine lv_goto hx hb d_M_yearOfDay_15 (tgt := 3) (by decide) ?_
      exact ih ls (by omega) hY hl
end G30b
set_option maxHeartbeats 4000000 in
set_option maxRecDepth 100000 in
theorem c_M_yearOfDay (l : Launch) (D : va_G) (ci : Nat → ClassId) (am : Nat → Nat) (g : TS) (th fo sz : Int32) (hs mi hi tx : Nat → Int32) {d : Nat} (hd : d < 1000000) : Met l y_M_yearOfDay (wT y_M_yearOfDay b_M_yearOfDay 3 (some .int)) (rP 1 23) (tb (wM D ci am g th fo sz hs mi hi tx) [.ref (am 0), .int (nI d)]) (tq_P (some (.int (nI (tt_yr g (1440 * d)))))) 0 0 tq_n := by
  refine Met.ofW (cc := b_M_yearOfDay) (maxL := 3) (ret := (some .int)) (by decide) rfl ?_
  intro p e s m args below meth c s₁ B hml hv
  obtain ⟨rfl, hK, hg, hM⟩ := hv
  have hx := B.exec
  have hb := B.bytes
  have hr := B.returns
  have hts := atoms_spec (ws := wT y_M_yearOfDay b_M_yearOfDay 3 (some .int)) B.pre
  have hT : ∀ w ∈ TT, w ∈ wT y_M_yearOfDay b_M_yearOfDay 3 (some .int) := wT_T
  have hown : s.vm.findClass RM = some m.cls := findClass_of_methodNamed B.named
  have hlocks := B.notSynchronized
  have hl := lv_entry ([.ref (am 0), .int (nI d)]) (n := 3) (Nat.le_of_ble_eq_true rfl)
  rw [lg_entry_eq]
  generalize (lg_sl ([.ref (am 0), .int (nI d)]) ++ List.replicate (3 - (lg_sl ([.ref (am 0), .int (nI d)])).length) Slot.unset).toArray = ls at hl ⊢
  have hl : lv_has ls 3 [(0, .ref (am 0)), (1, .int (nI d))] := hl
  refine lv_bipush hx hb d_M_yearOfDay_0 (v := (nI 9)) rfl ?_
  refine lv_istore_n hx hb d_M_yearOfDay_2 rfl hl (by decide) (lv' := [(2, .int (nI 9)), (0, .ref (am 0)), (1, .int (nI d))]) rfl (fun ls hl => ?_)
  refine l_M_yearOfDay hx hb hts hT hown hml hK hg hM ⟨Nat.le_of_ble_eq_true rfl, Nat.le_of_ble_eq_true rfl⟩ ⟨Nat.zero_le _, Nat.zero_le _⟩ hd (fun ls hl => ?_) 9 ls (Nat.le_refl _) rfl hl
  refine lv_iload_n hx hb d_M_yearOfDay_18 rfl (lv_at hl 0 rfl) ?_
  exact W.iret hx hb hr (fun t ht hW => ⟨_, rfl, ⟨rfl, ht⟩⟩) (fun q hq => nomatch hq) d_M_yearOfDay_19
set_option maxHeartbeats 4000000 in
set_option maxRecDepth 100000 in
theorem c_M_positionOf (l : Launch) (D : va_G) (ci : Nat → ClassId) (am : Nat → Nat) (g : TS) (th fo sz : Int32) (hs mi hj tx : Nat → Int32) {i mm y : Nat} (hi : i < 8) (hmm : mm < 8388608) (hy : y < 10) : Met l y_M_positionOf (wT y_M_positionOf b_M_positionOf 6 (some .long)) (rP 0 0) (tb (wM D ci am g th fo sz hs mi hj tx) [.ref (am 0), .int (nI i), .int (nI mm), .int (nI y)]) (tq_P (some (.long (lN (tt_pos g i mm y))))) 0 0 tq_n := by
  refine Met.ofW (cc := b_M_positionOf) (maxL := 6) (ret := (some .long)) (by decide) rfl ?_
  intro p e s m args below meth c s₁ B hml hv
  obtain ⟨rfl, hK, hg, hM⟩ := hv
  have hx := B.exec
  have hb := B.bytes
  have hr := B.returns
  have hts := atoms_spec (ws := wT y_M_positionOf b_M_positionOf 6 (some .long)) B.pre
  have hT : ∀ w ∈ TT, w ∈ wT y_M_positionOf b_M_positionOf 6 (some .long) := wT_T
  have hown : s.vm.findClass RM = some m.cls := findClass_of_methodNamed B.named
  have hlocks := B.notSynchronized
  have hl := lv_entry ([.ref (am 0), .int (nI i), .int (nI mm), .int (nI y)]) (n := 6) (Nat.le_of_ble_eq_true rfl)
  rw [lg_entry_eq]
  generalize (lg_sl ([.ref (am 0), .int (nI i), .int (nI mm), .int (nI y)]) ++ List.replicate (6 - (lg_sl ([.ref (am 0), .int (nI i), .int (nI mm), .int (nI y)])).length) Slot.unset).toArray = ls at hl ⊢
  have hl : lv_has ls 6 [(0, .ref (am 0)), (1, .int (nI i)), (2, .int (nI mm)), (3, .int (nI y))] := hl
  have hv := (hg.2.1 i hi).2
  have hsh := (hg.2.2.1 i hi y hy).2
  have hvm : tt_spd g i * mm ≤ 1099511627775 * 8388607 := Nat.mul_le_mul (by omega) (by omega)
  refine lv_aload_n hx hb d_M_positionOf_0 rfl (lv_at hl 0 rfl) ?_
  refine va_get hx hb hts (fun w h => hT w (uM_in w h)) hown hK hM 0 rfl rfl 5 (by decide) (hts _ (hT _ k_M_20)) (fun _ h => h) rfl d_M_positionOf_1 ?_
  refine lv_iload_n hx hb d_M_positionOf_4 rfl (lv_at hl 1 rfl) ?_
  refine tq_lald hx hb hK hM 4 1 rfl rfl hi (by decide) d_M_positionOf_5 ?_
  refine lv_aload_n hx hb d_M_positionOf_6 rfl (lv_at hl 0 rfl) ?_
  refine va_get hx hb hts (fun w h => hT w (uM_in w h)) hown hK hM 0 rfl rfl 4 (by decide) (hts _ (hT _ k_M_16)) (fun _ h => h) rfl d_M_positionOf_7 ?_
  refine lv_iload_n hx hb d_M_positionOf_10 rfl (lv_at hl 1 rfl) ?_
  refine tq_lald hx hb hK hM 3 1 rfl rfl hi (by decide) d_M_positionOf_11 ?_
  refine lv_iload_n hx hb d_M_positionOf_12 rfl (lv_at hl 2 rfl) ?_
  refine lv_i2l hx hb d_M_positionOf_13 (v := (nI mm).toInt64) rfl ?_
  refine tq_tl (show _ = (lN mm) from nI_l (by omega)) ?_
  refine lv_lmul hx hb d_M_positionOf_14 ?_
  refine tq_tl (show _ = (lN (tt_spd g i * mm)) from lN_mul _ _) ?_
  refine lv_ldc2 hx hb (v := (lN 281474976710656)) hown (hts _ (hT _ k_M_47)) d_M_positionOf_15 ?_
  refine lv_lrem hx hb d_M_positionOf_18 (by decide) ?_
  refine tq_tl (show _ = (lN (tt_spd g i * mm % 281474976710656)) from pk_lRem (by omega) (by decide) (by decide)) ?_
  refine lv_ladd hx hb d_M_positionOf_19 ?_
  refine tq_tl (show _ = (lN (tt_pha g i + tt_spd g i * mm % 281474976710656)) from lN_add _ _) ?_
  refine lv_aload_n hx hb d_M_positionOf_20 rfl (lv_at hl 0 rfl) ?_
  refine va_get hx hb hts (fun w h => hT w (uM_in w h)) hown hK hM 0 rfl rfl 7 (by decide) (hts _ (hT _ k_M_26)) (fun _ h => h) rfl d_M_positionOf_21 ?_
  refine lv_bipush hx hb d_M_positionOf_24 (v := (nI 10)) rfl ?_
  refine lv_iload_n hx hb d_M_positionOf_26 rfl (lv_at hl 1 rfl) ?_
  refine lv_imul hx hb d_M_positionOf_27 ?_
  refine lv_iload_n hx hb d_M_positionOf_28 rfl (lv_at hl 3 rfl) ?_
  refine lv_iadd hx hb d_M_positionOf_29 ?_
  refine tq_ti (show _ = (nI (10 * i + y)) from (by rw [pk_mul, nI_add])) ?_
  refine tq_lald hx hb hK hM 6 1 rfl rfl (show 10 * i + y < 80 by omega) (by decide) d_M_positionOf_30 ?_
  refine tq_tl (show _ = (lN (tt_shf g i y)) from (by show lN (tt_shf g ((10 * i + y) / 10) ((10 * i + y) % 10)) = _; rw [show (10 * i + y) / 10 = i by omega, show (10 * i + y) % 10 = y by omega])) ?_
  refine lv_ladd hx hb d_M_positionOf_31 ?_
  refine tq_tl (show _ = (lN (tt_pha g i + tt_spd g i * mm % 281474976710656 + tt_shf g i y)) from lN_add _ _) ?_
  refine lv_lstore hx hb d_M_positionOf_32 hl (by decide) (lv' := [(4, .long (lN (tt_pha g i + tt_spd g i * mm % 281474976710656 + tt_shf g i y))), (0, .ref (am 0)), (1, .int (nI i)), (2, .int (nI mm)), (3, .int (nI y))]) rfl (fun ls hl => ?_)
  refine lv_lload hx hb d_M_positionOf_34 (lv_at hl 0 rfl) ?_
  refine lv_ldc2 hx hb (v := (lN 281474976710656)) hown (hts _ (hT _ k_M_47)) d_M_positionOf_36 ?_
  refine lv_lrem hx hb d_M_positionOf_39 (by decide) ?_
  refine tq_tl (show _ = (lN (tt_pos g i mm y)) from ((pk_lRem (by omega) (by decide) (by decide)).trans (by unfold tt_pos; congr 1; omega))) ?_
  exact W.lret hx hb hr (fun t ht hW => ⟨_, rfl, ⟨rfl, ht⟩⟩) (fun q hq => nomatch hq) d_M_positionOf_40
end
section
/-! the reference's cosine, division, heights. Written by wip/whole/gen.py -/
section G31
variable {p : Program} {l : Launch} {e : Env} {R : Room} {s : State} {m : MethodId} {args : Array Value} {below : List Frame} {meth : Method} {c : Code} {H : Heap} {locs : List Loc} {cells slots : Nat} {Q : State → Prop} {Ts : List Cond}
set_option maxHeartbeats 4000000 in
set_option maxRecDepth 100000 in
theorem l_M_cos (hx : p.tables.exec = Jvm.exec) (hb : c.code = b_M_cosineOf) (hts : ∀ w ∈ Ts, w.before args s = true) (hT : ∀ w ∈ TT, w ∈ Ts) (hown : s.vm.findClass RM = some m.cls) {n : Nat} (hn : n < 281474976710656) (kk : ∀ ls : Array Slot, W p l e R s m args below meth c H locs cells slots Q (F0 m 129 ls [.long (lZ (tt_cos n))])) {ls : Array Slot} (hl : lv_has ls 16 [(4, .long (lN (tt_cr n))), (2, .long (lN (n / 70368744177664))), (0, .long (lN n))]) : W p l e R s m args below meth c H locs cells slots Q (F0 m 35 ls []) := by
  have hq : n / 70368744177664 < 4 := by omega
  have hr := tt_cr_le n
  have hs := tt_cs_le n
  have hrr : tt_cr n * tt_cr n ≤ 1073741824 * 1073741824 := Nat.mul_le_mul hr hr
  refine lv_lload hx hb d_M_cosineOf_35 (lv_at hl 0 rfl) ?_
  refine lv_lload hx hb d_M_cosineOf_37 (lv_at hl 0 rfl) ?_
  refine lv_lmul hx hb d_M_cosineOf_39 ?_
  refine tq_tl (show _ = (lN (tt_cr n * tt_cr n)) from lN_mul _ _) ?_
  refine lv_ldc2 hx hb (v := (lN 1073741824)) hown (hts _ (hT _ k_M_87)) d_M_cosineOf_40 ?_
  refine lv_ldiv hx hb d_M_cosineOf_43 (by decide) ?_
  refine tq_tl (show _ = (lN (tt_cs n)) from pk_lDiv (by omega) (by decide) (by decide)) ?_
  refine lv_lstore hx hb d_M_cosineOf_44 hl (by decide) (lv' := [(6, .long (lN (tt_cs n))), (4, .long (lN (tt_cr n))), (2, .long (lN (n / 70368744177664))), (0, .long (lN n))]) rfl (fun ls hl => ?_)
  refine lv_ldc2 hx hb (v := (lN 22401992)) hown (hts _ (hT _ k_M_91)) d_M_cosineOf_46 ?_
  refine lv_ldc2 hx hb (v := (lN 960477)) hown (hts _ (hT _ k_M_93)) d_M_cosineOf_49 ?_
  refine lv_lload hx hb d_M_cosineOf_52 (lv_at hl 0 rfl) ?_
  refine lv_lmul hx hb d_M_cosineOf_54 ?_
  refine tq_tl (show _ = (lN (960477 * tt_cs n)) from lN_mul _ _) ?_
  refine lv_ldc2 hx hb (v := (lN 1073741824)) hown (hts _ (hT _ k_M_87)) d_M_cosineOf_55 ?_
  refine lv_ldiv hx hb d_M_cosineOf_58 (by decide) ?_
  refine tq_tl (show _ = (lN (960477 * tt_cs n / 1073741824)) from pk_lDiv (by omega) (by decide) (by decide)) ?_
  have h1 := (tt_ce_in hs).2
  refine lv_lsub hx hb d_M_cosineOf_59 ?_
  refine tq_tl (show _ = (lN (tt_ce (tt_cs n))) from lN_sub (by omega)) ?_
  have h2 : tt_ce (tt_cs n) * tt_cs n ≤ 22401992 * 1073741824 := Nat.mul_le_mul (tt_ce_in hs).1 hs
  refine lv_lstore hx hb d_M_cosineOf_60 hl (by decide) (lv' := [(8, .long (lN (tt_ce (tt_cs n)))), (6, .long (lN (tt_cs n))), (4, .long (lN (tt_cr n))), (2, .long (lN (n / 70368744177664))), (0, .long (lN n))]) rfl (fun ls hl => ?_)
  refine lv_ldc2 hx hb (v := (lN 272375561)) hown (hts _ (hT _ k_M_95)) d_M_cosineOf_62 ?_
  refine lv_lload hx hb d_M_cosineOf_65 (lv_at hl 0 rfl) ?_
  refine lv_lload hx hb d_M_cosineOf_67 (lv_at hl 1 rfl) ?_
  refine lv_lmul hx hb d_M_cosineOf_69 ?_
  refine tq_tl (show _ = (lN (tt_ce (tt_cs n) * tt_cs n)) from lN_mul _ _) ?_
  refine lv_ldc2 hx hb (v := (lN 1073741824)) hown (hts _ (hT _ k_M_87)) d_M_cosineOf_70 ?_
  refine lv_ldiv hx hb d_M_cosineOf_73 (by decide) ?_
  refine tq_tl (show _ = (lN (tt_ce (tt_cs n) * tt_cs n / 1073741824)) from pk_lDiv (by omega) (by decide) (by decide)) ?_
  have h3 := (tt_cf_in hs).2
  refine lv_lsub hx hb d_M_cosineOf_74 ?_
  refine tq_tl (show _ = (lN (tt_cf (tt_cs n))) from lN_sub (by omega)) ?_
  have h4 : tt_cf (tt_cs n) * tt_cs n ≤ 272375561 * 1073741824 := Nat.mul_le_mul (tt_cf_in hs).1 hs
  refine lv_lstore hx hb d_M_cosineOf_75 hl (by decide) (lv' := [(10, .long (lN (tt_cf (tt_cs n)))), (8, .long (lN (tt_ce (tt_cs n)))), (6, .long (lN (tt_cs n))), (4, .long (lN (tt_cr n))), (2, .long (lN (n / 70368744177664))), (0, .long (lN n))]) rfl (fun ls hl => ?_)
  refine lv_ldc2 hx hb (v := (lN 1324675870)) hown (hts _ (hT _ k_M_97)) d_M_cosineOf_77 ?_
  refine lv_lload hx hb d_M_cosineOf_80 (lv_at hl 0 rfl) ?_
  refine lv_lload hx hb d_M_cosineOf_82 (lv_at hl 2 rfl) ?_
  refine lv_lmul hx hb d_M_cosineOf_84 ?_
  refine tq_tl (show _ = (lN (tt_cf (tt_cs n) * tt_cs n)) from lN_mul _ _) ?_
  refine lv_ldc2 hx hb (v := (lN 1073741824)) hown (hts _ (hT _ k_M_87)) d_M_cosineOf_85 ?_
  refine lv_ldiv hx hb d_M_cosineOf_88 (by decide) ?_
  refine tq_tl (show _ = (lN (tt_cf (tt_cs n) * tt_cs n / 1073741824)) from pk_lDiv (by omega) (by decide) (by decide)) ?_
  have h5 := (tt_cg_in hs).2
  refine lv_lsub hx hb d_M_cosineOf_89 ?_
  refine tq_tl (show _ = (lN (tt_cg (tt_cs n))) from lN_sub (by omega)) ?_
  have h6 : tt_cg (tt_cs n) * tt_cs n ≤ 1324675870 * 1073741824 := Nat.mul_le_mul (tt_cg_in hs).1 hs
  refine lv_lstore hx hb d_M_cosineOf_90 hl (by decide) (lv' := [(12, .long (lN (tt_cg (tt_cs n)))), (10, .long (lN (tt_cf (tt_cs n)))), (8, .long (lN (tt_ce (tt_cs n)))), (6, .long (lN (tt_cs n))), (4, .long (lN (tt_cr n))), (2, .long (lN (n / 70368744177664))), (0, .long (lN n))]) rfl (fun ls hl => ?_)
  refine lv_ldc2 hx hb (v := (lN 1073741824)) hown (hts _ (hT _ k_M_87)) d_M_cosineOf_92 ?_
  refine lv_lload hx hb d_M_cosineOf_95 (lv_at hl 0 rfl) ?_
  refine lv_lload hx hb d_M_cosineOf_97 (lv_at hl 3 rfl) ?_
  refine lv_lmul hx hb d_M_cosineOf_99 ?_
  refine tq_tl (show _ = (lN (tt_cg (tt_cs n) * tt_cs n)) from lN_mul _ _) ?_
  refine lv_ldc2 hx hb (v := (lN 1073741824)) hown (hts _ (hT _ k_M_87)) d_M_cosineOf_100 ?_
  refine lv_ldiv hx hb d_M_cosineOf_103 (by decide) ?_
  refine tq_tl (show _ = (lN (tt_cg (tt_cs n) * tt_cs n / 1073741824)) from pk_lDiv (by omega) (by decide) (by decide)) ?_
  refine lv_lsub hx hb d_M_cosineOf_104 ?_
  refine tq_tl (show _ = (lZ (tt_cc (tt_cs n))) from (by rw [lN_lZ, lN_lZ, lZ_sub]; rfl)) ?_
  refine lv_lstore hx hb d_M_cosineOf_105 hl (by decide) (lv' := [(14, .long (lZ (tt_cc (tt_cs n)))), (12, .long (lN (tt_cg (tt_cs n)))), (10, .long (lN (tt_cf (tt_cs n)))), (8, .long (lN (tt_ce (tt_cs n)))), (6, .long (lN (tt_cs n))), (4, .long (lN (tt_cr n))), (2, .long (lN (n / 70368744177664))), (0, .long (lN n))]) rfl (fun ls hl => ?_)
  refine lv_lload_n hx hb d_M_cosineOf_107 rfl (lv_at hl 6 rfl) ?_
  refine lv_lconst hx hb d_M_cosineOf_108 (v := (lN 1)) rfl ?_
  refine W.lcmp hx hb d_M_cosineOf_109 ?_
  refine lv_if_eq hx hb d_M_cosineOf_110 (tgt := 121) (by decide) (fun h7 => ?_) (fun h7 => ?_)
  · have h7 := ((lg_cmp_eq _ _).trans (pk_lEQ (by omega) (by decide))).mp h7
    refine lv_lload hx hb d_M_cosineOf_121 (lv_at hl 0 rfl) ?_
    refine lv_lneg hx hb d_M_cosineOf_123 ?_
    refine tq_tl (show _ = (lZ (tt_cos n)) from ((lZ_neg _).trans (by unfold tt_cos; rw [if_pos (Or.inl h7)]))) ?_
    refine lv_goto hx hb d_M_cosineOf_124 (tgt := 129) (by decide) ?_
    exact kk _
  · have h7 := mt ((lg_cmp_eq _ _).trans (pk_lEQ (by omega) (by decide))).mpr h7
    refine lv_lload_n hx hb d_M_cosineOf_113 rfl (lv_at hl 6 rfl) ?_
    refine lv_ldc2 hx hb (v := (lN 2)) hown (hts _ (hT _ k_M_89)) d_M_cosineOf_114 ?_
    refine W.lcmp hx hb d_M_cosineOf_117 ?_
    refine lv_if_ne hx hb d_M_cosineOf_118 (tgt := 127) (by decide) (fun h8 => ?_) (fun h8 => ?_)
    · have h8 := mt ((lg_cmp_eq _ _).trans (pk_lEQ (by omega) (by decide))).mpr h8
      refine lv_lload hx hb d_M_cosineOf_127 (lv_at hl 0 rfl) ?_
      refine tq_tl (show _ = (lZ (tt_cos n)) from (by unfold tt_cos; rw [if_neg (fun h => h.elim h7 h8)])) ?_
      exact kk _
    · have h8 := ((lg_cmp_eq _ _).trans (pk_lEQ (by omega) (by decide))).mp h8
      refine lv_lload hx hb d_M_cosineOf_121 (lv_at hl 0 rfl) ?_
      refine lv_lneg hx hb d_M_cosineOf_123 ?_
      refine tq_tl (show _ = (lZ (tt_cos n)) from ((lZ_neg _).trans (by unfold tt_cos; rw [if_pos (Or.inr h8)]))) ?_
      refine lv_goto hx hb d_M_cosineOf_124 (tgt := 129) (by decide) ?_
      exact kk _
end G31
set_option maxHeartbeats 4000000 in
set_option maxRecDepth 100000 in
theorem c_M_cosineOf (l : Launch) {n : Nat} (hn : n < 281474976710656) : Met l y_M_cosineOf (wT y_M_cosineOf b_M_cosineOf 16 (some .long)) (rP 0 0) (tb (wN) [.long (lN n)]) (tq_P (some (.long (lZ (tt_cos n))))) 0 0 tq_n := by
  refine Met.ofW (cc := b_M_cosineOf) (maxL := 16) (ret := (some .long)) (by decide) rfl ?_
  intro p e s m args below meth c s₁ B hml hv
  obtain ⟨rfl, hv⟩ := hv
  have hx := B.exec
  have hb := B.bytes
  have hr := B.returns
  have hts := atoms_spec (ws := wT y_M_cosineOf b_M_cosineOf 16 (some .long)) B.pre
  have hT : ∀ w ∈ TT, w ∈ wT y_M_cosineOf b_M_cosineOf 16 (some .long) := wT_T
  have hown : s.vm.findClass RM = some m.cls := findClass_of_methodNamed B.named
  have hlocks := B.notSynchronized
  have hl := lv_entry ([.long (lN n)]) (n := 16) (Nat.le_of_ble_eq_true rfl)
  rw [lg_entry_eq]
  generalize (lg_sl ([.long (lN n)]) ++ List.replicate (16 - (lg_sl ([.long (lN n)])).length) Slot.unset).toArray = ls at hl ⊢
  have hl : lv_has ls 16 [(0, .long (lN n))] := hl
  refine lv_lload_n hx hb d_M_cosineOf_0 rfl (lv_at hl 0 rfl) ?_
  refine lv_ldc2 hx hb (v := (lN 70368744177664)) hown (hts _ (hT _ k_M_83)) d_M_cosineOf_1 ?_
  refine lv_ldiv hx hb d_M_cosineOf_4 (by decide) ?_
  refine tq_tl (show _ = (lN (n / 70368744177664)) from pk_lDiv (by omega) (by decide) (by decide)) ?_
  refine lv_lstore_n hx hb d_M_cosineOf_5 rfl hl (by decide) (lv' := [(2, .long (lN (n / 70368744177664))), (0, .long (lN n))]) rfl (fun ls hl => ?_)
  refine lv_lload_n hx hb d_M_cosineOf_6 rfl (lv_at hl 1 rfl) ?_
  refine lv_ldc2 hx hb (v := (lN 65536)) hown (hts _ (hT _ k_M_85)) d_M_cosineOf_7 ?_
  refine lv_ldiv hx hb d_M_cosineOf_10 (by decide) ?_
  refine tq_tl (show _ = (lN (n / 65536)) from pk_lDiv (by omega) (by decide) (by decide)) ?_
  refine lv_ldc2 hx hb (v := (lN 1073741824)) hown (hts _ (hT _ k_M_87)) d_M_cosineOf_11 ?_
  refine lv_lrem hx hb d_M_cosineOf_14 (by decide) ?_
  refine tq_tl (show _ = (lN (n / 65536 % 1073741824)) from pk_lRem (by omega) (by decide) (by decide)) ?_
  refine lv_lstore hx hb d_M_cosineOf_15 hl (by decide) (lv' := [(4, .long (lN (n / 65536 % 1073741824))), (2, .long (lN (n / 70368744177664))), (0, .long (lN n))]) rfl (fun ls hl => ?_)
  refine lv_lload_n hx hb d_M_cosineOf_17 rfl (lv_at hl 1 rfl) ?_
  refine lv_ldc2 hx hb (v := (lN 2)) hown (hts _ (hT _ k_M_89)) d_M_cosineOf_18 ?_
  refine lv_lrem hx hb d_M_cosineOf_21 (by decide) ?_
  refine tq_tl (show _ = (lN (n / 70368744177664 % 2)) from pk_lRem (by omega) (by decide) (by decide)) ?_
  refine lv_lconst hx hb d_M_cosineOf_22 (v := (lN 1)) rfl ?_
  refine W.lcmp hx hb d_M_cosineOf_23 ?_
  refine lv_if_ne hx hb d_M_cosineOf_24 (tgt := 35) (by decide) (fun h1 => ?_) (fun h1 => ?_)
  · have h1 := mt ((lg_cmp_eq _ _).trans (pk_lEQ (by omega) (by decide))).mpr h1
    have e9 : tt_cr n = n / 65536 % 1073741824 := by unfold tt_cr; rw [if_neg h1]
    rw [← e9] at hl
    exact l_M_cos hx hb hts hT hown hn (fun ls => W.lret hx hb hr (fun t ht hW => ⟨_, rfl, ⟨rfl, ht⟩⟩) (fun q hq => nomatch hq) d_M_cosineOf_129) hl
  · have h1 := ((lg_cmp_eq _ _).trans (pk_lEQ (by omega) (by decide))).mp h1
    have e9 : tt_cr n = 1073741824 - n / 65536 % 1073741824 := by unfold tt_cr; rw [if_pos h1]
    refine lv_ldc2 hx hb (v := (lN 1073741824)) hown (hts _ (hT _ k_M_87)) d_M_cosineOf_27 ?_
    refine lv_lload hx hb d_M_cosineOf_30 (lv_at hl 0 rfl) ?_
    refine lv_lsub hx hb d_M_cosineOf_32 ?_
    refine tq_tl (show _ = (lN (tt_cr n)) from (e9 ▸ lN_sub (by omega))) ?_
    refine lv_lstore hx hb d_M_cosineOf_33 hl (by decide) (lv' := [(4, .long (lN (tt_cr n))), (2, .long (lN (n / 70368744177664))), (0, .long (lN n))]) rfl (fun ls hl => ?_)
    exact l_M_cos hx hb hts hT hown hn (fun ls => W.lret hx hb hr (fun t ht hW => ⟨_, rfl, ⟨rfl, ht⟩⟩) (fun q hq => nomatch hq) d_M_cosineOf_129) hl
set_option maxHeartbeats 4000000 in
set_option maxRecDepth 100000 in
theorem c_M_floor (l : Launch) {a b : Int} (ha1 : -9223372036854775808 ≤ a) (ha2 : a < 9223372036854775808) (hb1 : 0 < b) (hb2 : b < 9223372036854775808) : Met l y_M_floor (wT y_M_floor b_M_floor 6 (some .long)) (rP 0 0) (tb (wN) [.long (lZ a), .long (lZ b)]) (tq_P (some (.long (lZ (a / b))))) 0 0 tq_n := by
  refine Met.ofW (cc := b_M_floor) (maxL := 6) (ret := (some .long)) (by decide) rfl ?_
  intro p e s m args below meth c s₁ B hml hv
  obtain ⟨rfl, hv⟩ := hv
  have hx := B.exec
  have hb := B.bytes
  have hr := B.returns
  have hts := atoms_spec (ws := wT y_M_floor b_M_floor 6 (some .long)) B.pre
  have hT : ∀ w ∈ TT, w ∈ wT y_M_floor b_M_floor 6 (some .long) := wT_T
  have hown : s.vm.findClass RM = some m.cls := findClass_of_methodNamed B.named
  have hlocks := B.notSynchronized
  have hl := lv_entry ([.long (lZ a), .long (lZ b)]) (n := 6) (Nat.le_of_ble_eq_true rfl)
  rw [lg_entry_eq]
  generalize (lg_sl ([.long (lZ a), .long (lZ b)]) ++ List.replicate (6 - (lg_sl ([.long (lZ a), .long (lZ b)])).length) Slot.unset).toArray = ls at hl ⊢
  have hl : lv_has ls 6 [(0, .long (lZ a)), (2, .long (lZ b))] := hl
  have ea := lZ_toInt ha1 ha2
  have eb := lZ_toInt (z := b) (by omega) hb2
  have hmul := Int.mul_tdiv_add_tmod a b
  have hcm : a.tdiv b * b = b * a.tdiv b := Int.mul_comm _ _
  have htm := Int.lt_tmod_of_pos a hb1
  have htn : 0 ≤ a → 0 ≤ a.tmod b := Int.tmod_nonneg b
  have hqb : (a.tdiv b * b).natAbs ≤ a.natAbs := by
    rw [Int.natAbs_mul, Int.natAbs_tdiv]
    exact Nat.div_mul_le_self _ _
  have hup : a.tdiv b * b < 9223372036854775808 := by
    by_cases h : 0 ≤ a
    · have := htn h
      omega
    · omega
  have eq := lZ_toInt (z := a.tdiv b * b) (by omega) hup
  refine lv_lload_n hx hb d_M_floor_0 rfl (lv_at hl 0 rfl) ?_
  refine lv_lload_n hx hb d_M_floor_1 rfl (lv_at hl 1 rfl) ?_
  refine lv_ldiv hx hb d_M_floor_2 (fun z => by rw [← Int64.toInt_inj, eb] at z; exact absurd z (by show ¬ b = 0; omega)) ?_
  refine tq_tl (show _ = (lZ (a.tdiv b)) from lZ_div ha1 ha2 hb1 hb2) ?_
  refine lv_lstore hx hb d_M_floor_3 hl (by decide) (lv' := [(4, .long (lZ (a.tdiv b))), (0, .long (lZ a)), (2, .long (lZ b))]) rfl (fun ls hl => ?_)
  refine lv_lload hx hb d_M_floor_5 (lv_at hl 0 rfl) ?_
  refine lv_lload_n hx hb d_M_floor_7 rfl (lv_at hl 2 rfl) ?_
  refine lv_lmul hx hb d_M_floor_8 ?_
  refine tq_tl (show _ = (lZ (a.tdiv b * b)) from lZ_mul _ _) ?_
  refine lv_lload_n hx hb d_M_floor_9 rfl (lv_at hl 1 rfl) ?_
  refine W.lcmp hx hb d_M_floor_10 ?_
  refine lv_if_le hx hb d_M_floor_11 (tgt := 21) (by decide) (fun h1 => ?_) (fun h1 => ?_)
  · have h1 := ((lg_cmp_le _ _).trans Int64.le_iff_toInt_le).mp h1
    rw [eq, ea] at h1
    refine lv_lload hx hb d_M_floor_21 (lv_at hl 0 rfl) ?_
    exact W.lret hx hb hr (fun t ht hW => ⟨_, rfl, ⟨(by rw [← tt_floor hb1, if_neg (by omega)]), ht⟩⟩) (fun q hq => nomatch hq) d_M_floor_23
  · have h1 := mt ((lg_cmp_le _ _).trans Int64.le_iff_toInt_le).mpr h1
    rw [eq, ea] at h1
    refine lv_lload hx hb d_M_floor_14 (lv_at hl 0 rfl) ?_
    refine lv_lconst hx hb d_M_floor_16 (v := (lN 1)) rfl ?_
    refine lv_lsub hx hb d_M_floor_17 ?_
    refine tq_tl (show _ = (lZ (a.tdiv b - 1)) from (by rw [lN_lZ, lZ_sub]; rfl)) ?_
    refine lv_goto hx hb d_M_floor_18 (tgt := 23) (by decide) ?_
    exact W.lret hx hb hr (fun t ht hW => ⟨_, rfl, ⟨(by rw [← tt_floor hb1, if_pos (by omega)]), ht⟩⟩) (fun q hq => nomatch hq) d_M_floor_23
section G31b
variable {p : Program} {l : Launch} {e : Env} {R : Room} {s : State} {m : MethodId} {args : Array Value} {below : List Frame} {meth : Method} {c : Code} {H : Heap} {locs : List Loc} {cells slots : Nat} {Q : State → Prop} {Ts : List Cond}
variable {D : va_G} {ci : Nat → ClassId} {am : Nat → Nat} {g : TS} {th fo sz : Int32} {hs mi hi tx : Nat → Int32}
set_option maxHeartbeats 4000000 in
set_option maxRecDepth 100000 in
theorem l_M_heightAt (hx : p.tables.exec = Jvm.exec) (hb : c.code = b_M_heightAt) (hts : ∀ w ∈ Ts, w.before args s = true) (hT : ∀ w ∈ TT, w ∈ Ts) (hown : s.vm.findClass RM = some m.cls) (hml : c.maxLocals = 6) (hK : tk D ci s) (hg : tt_ok g) (hM : tm D ci am g th fo sz hs mi hi tx H) (hR : 2 ≤ R.frames ∧ 45 ≤ R.locals) (hf : cells ≤ R.cells ∧ slots ≤ R.slots) {mm y : Nat} (hmm : mm < 8388608) (hy : y < 10)
    (kk : ∀ (ls : Array Slot), lv_has ls 6 [(5, .int (nI 8)), (3, .long (lZ (tt_sum g mm y 8))), (2, .int (nI y)), (0, .ref (am 0)), (1, .int (nI mm))] → W p l e R s m args below meth c H locs cells slots Q (F0 m 73 ls [])) :
    ∀ (n k : Nat) (ls : Array Slot), k + n = 8 → lv_has ls 6 [(5, .int (nI k)), (3, .long (lZ (tt_sum g mm y k))), (2, .int (nI y)), (0, .ref (am 0)), (1, .int (nI mm))] → W p l e R s m args below meth c H locs cells slots Q (F0 m 17 ls []) := by
  intro n
  induction n with
  | zero =>
    intro k ls hk hl
    obtain rfl : k = 8 := by omega
    refine lv_iload hx hb d_M_heightAt_17 (lv_at hl 0 rfl) ?_
    refine lv_bipush hx hb d_M_heightAt_19 (v := (nI 8)) rfl ?_
    refine lv_icmp_ge hx hb d_M_heightAt_21 (tgt := 73) (by decide) (fun _ => ?_) (fun hno => absurd (nI_le (Nat.le_refl 8) (by decide)) hno)
    exact kk ls hl
  | succ n ih =>
    intro k ls hk hl
    have hk8 : k < 8 := by omega
    have ha := (hg.2.1 k hk8).1
    have hfa := (hg.2.2.1 k hk8 y hy).1
    have hc := tt_cos_in (tt_pos g k mm y)
    have hpr := tt_prd (tt_af_le hg hk8 hy) hc.1 hc.2
    refine lv_iload hx hb d_M_heightAt_17 (lv_at hl 0 rfl) ?_
    refine lv_bipush hx hb d_M_heightAt_19 (v := (nI 8)) rfl ?_
    refine lv_icmp_ge hx hb d_M_heightAt_21 (tgt := 73) (by decide) (fun hyes => absurd hyes (nI_ge hk8 (by decide))) (fun _ => ?_)
    refine lv_lload_n hx hb d_M_heightAt_24 rfl (lv_at hl 1 rfl) ?_
    refine lv_aload_n hx hb d_M_heightAt_25 rfl (lv_at hl 3 rfl) ?_
    refine va_get hx hb hts (fun w h => hT w (uM_in w h)) hown hK hM 0 rfl rfl 3 (by decide) (hts _ (hT _ k_M_13)) (fun _ h => h) rfl d_M_heightAt_26 ?_
    refine lv_iload hx hb d_M_heightAt_29 (lv_at hl 0 rfl) ?_
    refine tq_iald hx hb hK hM 2 0 rfl rfl hk8 (by decide) d_M_heightAt_31 ?_
    refine lv_i2l hx hb d_M_heightAt_32 (v := (nI (tt_amp g k)).toInt64) rfl ?_
    refine tq_tl (show _ = (lN (tt_amp g k)) from nI_l (by omega)) ?_
    refine lv_aload_n hx hb d_M_heightAt_33 rfl (lv_at hl 3 rfl) ?_
    refine va_get hx hb hts (fun w h => hT w (uM_in w h)) hown hK hM 0 rfl rfl 6 (by decide) (hts _ (hT _ k_M_23)) (fun _ h => h) rfl d_M_heightAt_34 ?_
    refine lv_bipush hx hb d_M_heightAt_37 (v := (nI 10)) rfl ?_
    refine lv_iload hx hb d_M_heightAt_39 (lv_at hl 0 rfl) ?_
    refine lv_imul hx hb d_M_heightAt_41 ?_
    refine lv_iload_n hx hb d_M_heightAt_42 rfl (lv_at hl 2 rfl) ?_
    refine lv_iadd hx hb d_M_heightAt_43 ?_
    refine tq_ti (show _ = (nI (10 * k + y)) from (by rw [pk_mul, nI_add])) ?_
    refine tq_iald hx hb hK hM 5 0 rfl rfl (show 10 * k + y < 80 by omega) (by decide) d_M_heightAt_44 ?_
    refine tq_ti (show _ = (nI (tt_fac g k y)) from (by show nI (tt_fac g ((10 * k + y) / 10) ((10 * k + y) % 10)) = _; rw [show (10 * k + y) / 10 = k by omega, show (10 * k + y) % 10 = y by omega])) ?_
    refine lv_i2l hx hb d_M_heightAt_45 (v := (nI (tt_fac g k y)).toInt64) rfl ?_
    refine tq_tl (show _ = (lN (tt_fac g k y)) from nI_l (by omega)) ?_
    refine lv_lmul hx hb d_M_heightAt_46 ?_
    refine tq_tl (show _ = (lN (tt_amp g k * tt_fac g k y)) from lN_mul _ _) ?_
    refine lv_aload_n hx hb d_M_heightAt_47 rfl (lv_at hl 3 rfl) ?_
    refine lv_iload hx hb d_M_heightAt_48 (lv_at hl 0 rfl) ?_
    refine lv_iload_n hx hb d_M_heightAt_50 rfl (lv_at hl 4 rfl) ?_
    refine lv_iload_n hx hb d_M_heightAt_51 rfl (lv_at hl 2 rfl) ?_
    refine tq_V ⟨hx, hb, hml, hown, hts⟩ hT (c_M_positionOf l D ci am g th fo sz hs mi hi tx hk8 hmm hy) lk_M_79 wM_mv ⟨hK, hg, hM⟩ (wM_rc hK hM) rfl hl.1 rfl (Nat.le_of_ble_eq_true rfl) d_M_heightAt_52 ⟨rfl, rfl, by show 0 + 1 ≤ R.frames; omega, by show 8 + (6 + 11) + 0 ≤ R.locals; omega⟩ hf ?_
    refine tq_S ⟨hx, hb, hml, hown, hts⟩ hT (c_M_cosineOf l (tt_pos_lt g k mm y)) lk_M_99 wN_mv trivial rfl hl.1 rfl (Nat.le_of_ble_eq_true rfl) d_M_heightAt_55 ⟨rfl, rfl, by show 0 + 1 ≤ R.frames; omega, by show 8 + (16 + 11) + 0 ≤ R.locals; omega⟩ hf ?_
    refine lv_lmul hx hb d_M_heightAt_58 ?_
    refine tq_tl (show _ = (lZ (((tt_amp g k * tt_fac g k y : Nat) : Int) * tt_cos (tt_pos g k mm y))) from (by rw [lN_lZ, lZ_mul])) ?_
    refine lv_ldc2 hx hb (v := (lN 65536)) hown (hts _ (hT _ k_M_85)) d_M_heightAt_59 ?_
    refine tq_tl (show _ = (lZ 65536) from lN_lZ 65536) ?_
    refine tq_S ⟨hx, hb, hml, hown, hts⟩ hT (c_M_floor l (a := ((tt_amp g k * tt_fac g k y : Nat) : Int) * tt_cos (tt_pos g k mm y)) (b := 65536) (by omega) (by omega) (by decide) (by decide)) lk_M_105 wN_mv trivial rfl hl.1 rfl (Nat.le_of_ble_eq_true rfl) d_M_heightAt_62 ⟨rfl, rfl, by show 0 + 1 ≤ R.frames; omega, by show 8 + (6 + 11) + 0 ≤ R.locals; omega⟩ hf ?_
    refine lv_ladd hx hb d_M_heightAt_65 ?_
    refine tq_tl (show _ = (lZ (tt_sum g mm y (k + 1))) from lZ_add _ _) ?_
    refine lv_lstore_n hx hb d_M_heightAt_66 rfl hl (by decide) (lv' := [(3, .long (lZ (tt_sum g mm y (k + 1)))), (5, .int (nI k)), (2, .int (nI y)), (0, .ref (am 0)), (1, .int (nI mm))]) rfl (fun ls hl => ?_)
    refine lv_iinc hx hb d_M_heightAt_67 hl (k := 1) rfl (v := (nI (k + 1))) (by rw [show Int32.ofInt 1 = 1 from rfl]; exact nI_1 k) (by decide) (lv' := [(5, .int (nI (k + 1))), (3, .long (lZ (tt_sum g mm y (k + 1)))), (2, .int (nI y)), (0, .ref (am 0)), (1, .int (nI mm))]) rfl (fun ls hl => ?_)
    refine lv_goto hx hb d_M_heightAt_70 (tgt := 17) (by decide) ?_
    exact ih (k + 1) ls (by omega) hl
end G31b
set_option maxHeartbeats 4000000 in
set_option maxRecDepth 100000 in
theorem c_M_heightAt (l : Launch) (D : va_G) (ci : Nat → ClassId) (am : Nat → Nat) (g : TS) (th fo sz : Int32) (hs mi hi tx : Nat → Int32) {mm : Nat} (hmm : mm < 8388608) : Met l y_M_heightAt (wT y_M_heightAt b_M_heightAt 6 (some .int)) (rP 2 45) (tb (wM D ci am g th fo sz hs mi hi tx) [.ref (am 0), .int (nI mm)]) (tq_P (some (.int (iZ (tt_hgt g mm))))) 0 0 tq_n := by
  refine Met.ofW (cc := b_M_heightAt) (maxL := 6) (ret := (some .int)) (by decide) rfl ?_
  intro p e s m args below meth c s₁ B hml hv
  obtain ⟨rfl, hK, hg, hM⟩ := hv
  have hx := B.exec
  have hb := B.bytes
  have hr := B.returns
  have hts := atoms_spec (ws := wT y_M_heightAt b_M_heightAt 6 (some .int)) B.pre
  have hT : ∀ w ∈ TT, w ∈ wT y_M_heightAt b_M_heightAt 6 (some .int) := wT_T
  have hown : s.vm.findClass RM = some m.cls := findClass_of_methodNamed B.named
  have hlocks := B.notSynchronized
  have hl := lv_entry ([.ref (am 0), .int (nI mm)]) (n := 6) (Nat.le_of_ble_eq_true rfl)
  rw [lg_entry_eq]
  generalize (lg_sl ([.ref (am 0), .int (nI mm)]) ++ List.replicate (6 - (lg_sl ([.ref (am 0), .int (nI mm)])).length) Slot.unset).toArray = ls at hl ⊢
  have hl : lv_has ls 6 [(0, .ref (am 0)), (1, .int (nI mm))] := hl
  refine lv_aload_n hx hb d_M_heightAt_0 rfl (lv_at hl 0 rfl) ?_
  refine lv_iload_n hx hb d_M_heightAt_1 rfl (lv_at hl 1 rfl) ?_
  refine lv_sipush hx hb d_M_heightAt_2 (v := (nI 1440)) rfl ?_
  refine lv_idiv hx hb d_M_heightAt_5 (by decide) ?_
  refine tq_ti (show _ = (nI (mm / 1440)) from pk_div (by omega) (by decide) (by decide)) ?_
  refine tq_V ⟨hx, hb, hml, hown, hts⟩ hT (c_M_yearOfDay l D ci am g th fo sz hs mi hi tx (d := mm / 1440) (by omega)) lk_M_76 wM_mv ⟨hK, hg, hM⟩ (wM_rc hK hM) rfl hl.1 rfl (Nat.le_of_ble_eq_true rfl) d_M_heightAt_6 ⟨rfl, rfl, Nat.le_of_ble_eq_true rfl, Nat.le_of_ble_eq_true rfl⟩ ⟨Nat.zero_le _, Nat.zero_le _⟩ ?_
  refine tq_ti (show _ = (nI (tt_yr g mm)) from (by rw [← tt_yr_day])) ?_
  have hy := tt_yr_lt g mm
  refine lv_istore_n hx hb d_M_heightAt_9 rfl hl (by decide) (lv' := [(2, .int (nI (tt_yr g mm))), (0, .ref (am 0)), (1, .int (nI mm))]) rfl (fun ls hl => ?_)
  refine lv_ldc2 hx hb (v := (lN 536870912)) hown (hts _ (hT _ k_M_103)) d_M_heightAt_10 ?_
  refine tq_tl (show _ = (lZ (tt_sum g mm (tt_yr g mm) 0)) from rfl) ?_
  refine lv_lstore_n hx hb d_M_heightAt_13 rfl hl (by decide) (lv' := [(3, .long (lZ (tt_sum g mm (tt_yr g mm) 0))), (2, .int (nI (tt_yr g mm))), (0, .ref (am 0)), (1, .int (nI mm))]) rfl (fun ls hl => ?_)
  refine lv_iconst hx hb d_M_heightAt_14 (v := (nI 0)) rfl ?_
  refine lv_istore hx hb d_M_heightAt_15 hl (by decide) (lv' := [(5, .int (nI 0)), (3, .long (lZ (tt_sum g mm (tt_yr g mm) 0))), (2, .int (nI (tt_yr g mm))), (0, .ref (am 0)), (1, .int (nI mm))]) rfl (fun ls hl => ?_)
  refine l_M_heightAt hx hb hts hT hown hml hK hg hM ⟨Nat.le_of_ble_eq_true rfl, Nat.le_of_ble_eq_true rfl⟩ ⟨Nat.zero_le _, Nat.zero_le _⟩ hmm hy (fun ls hl => ?_) 8 0 ls rfl hl
  have hsu := tt_sum_in hg (m := mm) hy 8 (Nat.le_refl _)
  refine lv_lload_n hx hb d_M_heightAt_73 rfl (lv_at hl 1 rfl) ?_
  refine lv_ldc2 hx hb (v := (lN 1073741824)) hown (hts _ (hT _ k_M_87)) d_M_heightAt_74 ?_
  refine tq_tl (show _ = (lZ 1073741824) from lN_lZ 1073741824) ?_
  refine tq_S ⟨hx, hb, hml, hown, hts⟩ hT (c_M_floor l (a := tt_sum g mm (tt_yr g mm) 8) (b := 1073741824) (by omega) (by omega) (by decide) (by decide)) lk_M_105 wN_mv trivial rfl hl.1 rfl (Nat.le_of_ble_eq_true rfl) d_M_heightAt_77 ⟨rfl, rfl, Nat.le_of_ble_eq_true rfl, Nat.le_of_ble_eq_true rfl⟩ ⟨Nat.zero_le _, Nat.zero_le _⟩ ?_
  refine lv_l2i hx hb d_M_heightAt_80 (v := (lZ (tt_sum g mm (tt_yr g mm) 8 / 1073741824)).toInt32) rfl ?_
  refine tq_ti (show _ = (iZ (tt_sum g mm (tt_yr g mm) 8 / 1073741824)) from lZ_i _) ?_
  refine lv_aload_n hx hb d_M_heightAt_81 rfl (lv_at hl 3 rfl) ?_
  refine va_get hx hb hts (fun w h => hT w (uM_in w h)) hown hK hM 0 rfl rfl 1 (by decide) (hts _ (hT _ k_M_51)) (fun _ h => h) rfl d_M_heightAt_82 ?_
  refine lv_iadd hx hb d_M_heightAt_85 ?_
  refine tq_ti (show _ = (iZ (tt_hgt g mm)) from iZ_add _ _) ?_
  exact W.iret hx hb hr (fun t ht hW => ⟨_, rfl, ⟨rfl, ht⟩⟩) (fun q hq => nomatch hq) d_M_heightAt_86
end
section
/-! the reference's setters and questions. Written by wip/whole/gen.py -/
theorem vP_set {D : va_G} {cl : List vw_C} {ws ws' : va_W} {H H1 : Heap} (h : va_P D cl ws H) (k : Nat) {x : Nat × va_E} (hx : ws'[k]? = some x) (hP : va_P D cl [x] H1) (hw : ∀ j, j ≠ k → ws'[j]? = ws[j]?) (hne : ∀ (j : Nat) (y : Nat × va_E), j ≠ k → ws[j]? = some y → y.1 ≠ x.1) (hq : ∀ q : Nat, q ≠ x.1 → H1[q]? = H[q]?) : va_P D cl ws' H1 := by
  intro j q hj
  by_cases e : j = k
  · subst e
    cases Option.some.inj (hx.symm.trans hj)
    exact hP 0 _ rfl
  · rw [hw j e] at hj
    exact (h j q hj).kept (hq _ (hne j q e hj))
def mD (am : Nat → Nat) : Prop := ∀ i j, i < 11 → j < 11 → am i = am j → i = j
def mF (am : Nat → Nat) : Nat → Prop := fun q => ∃ k, k < 11 ∧ q = am k
def mO (am : Nat → Nat) (H H1 : Heap) : Prop := H1.size = H.size ∧ ∀ q : Nat, ¬ mF am q → H1[q]? = H[q]?
theorem mO.rf {am : Nat → Nat} {H : Heap} : mO am H H := ⟨rfl, fun _ _ => rfl⟩
theorem mO.tr {am : Nat → Nat} {H H1 H2 : Heap} (h1 : mO am H H1) (h2 : mO am H1 H2) : mO am H H2 := ⟨h2.1.trans h1.1, fun q hq => (h2.2 q hq).trans (h1.2 q hq)⟩
theorem mO.put {am : Nat → Nat} {H H1 : Heap} {k : Nat} (hk : k < 11) (hz : H1.size = H.size) (hq : ∀ q : Nat, q ≠ am k → H1[q]? = H[q]?) : mO am H H1 := ⟨hz, fun q h => hq q (fun z => h ⟨k, hk, z⟩)⟩
section TMU
variable {D : va_G} {ci : Nat → ClassId} {am : Nat → Nat} {g g' : TS} {th fo sz th' fo' sz' : Int32} {hs mi hi tx hs' mi' hi' tx' : Nat → Int32} {H H1 : Heap}
theorem tm_at {j : Nat} {y : Nat × va_E} (h : (tm_w ci am g th fo sz hs mi hi tx)[j]? = some y) : j < 11 ∧ y.1 = am j := by
  match j, h with
  | 0, rfl => exact ⟨by decide, rfl⟩
  | 1, rfl => exact ⟨by decide, rfl⟩
  | 2, rfl => exact ⟨by decide, rfl⟩
  | 3, rfl => exact ⟨by decide, rfl⟩
  | 4, rfl => exact ⟨by decide, rfl⟩
  | 5, rfl => exact ⟨by decide, rfl⟩
  | 6, rfl => exact ⟨by decide, rfl⟩
  | 7, rfl => exact ⟨by decide, rfl⟩
  | 8, rfl => exact ⟨by decide, rfl⟩
  | 9, rfl => exact ⟨by decide, rfl⟩
  | 10, rfl => exact ⟨by decide, rfl⟩
theorem tm_one (h : tm D ci am g th fo sz hs mi hi tx H) (k : Nat) {x : Nat × va_E} (hx : (tm_w ci am g th fo sz hs mi hi tx)[k]? = some x) : va_P D tcl [x] H := by
  intro i q hq
  match i, hq with
  | 0, rfl => exact h k _ hx
theorem tm_set (hD : mD am) (h : tm D ci am g th fo sz hs mi hi tx H) (k : Nat) (hk : k < 11) {x : Nat × va_E} (hx : (tm_w ci am g' th' fo' sz' hs' mi' hi' tx')[k]? = some x) (hP : va_P D tcl [x] H1) (hw : ∀ j, j ≠ k → (tm_w ci am g' th' fo' sz' hs' mi' hi' tx')[j]? = (tm_w ci am g th fo sz hs mi hi tx)[j]?) (hq : ∀ q : Nat, q ≠ am k → H1[q]? = H[q]?) : tm D ci am g' th' fo' sz' hs' mi' hi' tx' H1 := by
  have ex := (tm_at hx).2
  refine vP_set h k hx hP hw (fun j y hj hy => ?_) (by rw [ex]; exact hq)
  obtain ⟨h1, h2⟩ := tm_at hy
  rw [ex, h2]
  exact fun q => hj (hD j k h1 hk q)
theorem tm_keep (h : tm D ci am g th fo sz hs mi hi tx H) (hq : ∀ k, k < 11 → H1[am k]? = H[am k]?) : tm D ci am g th fo sz hs mi hi tx H1 := h.kept (fun k q hk => by
  obtain ⟨h1, h2⟩ := tm_at hk
  rw [h2]
  exact hq k h1)
end TMU
def wMD (D : va_G) (ci : Nat → ClassId) (am : Nat → Nat) (g : TS) (th fo sz : Int32) (hs mi hi tx : Nat → Int32) (U : State) (H : Heap) : Prop := tk D ci U ∧ tt_ok g ∧ tm D ci am g th fo sz hs mi hi tx H ∧ mD am
theorem wMD_mv {D : va_G} {ci : Nat → ClassId} {am : Nat → Nat} {g : TS} {th fo sz : Int32} {hs mi hi tx : Nat → Int32} : tmov (wMD D ci am g th fo sz hs mi hi tx) := fun _ _ _ hW h => ⟨tk.moved hW h.1, h.2⟩
abbrev qM (D : va_G) (ci : Nat → ClassId) (am : Nat → Nat) (g : TS) (th fo sz : Int32) (hs mi hi tx : Nat → Int32) (rv : Option Value) : Array Value → State → Outcome → State → Prop := tq_Q (fun o9 H H1 => o9 = rv ∧ tm D ci am g th fo sz hs mi hi tx H1 ∧ mO am H H1)
set_option maxHeartbeats 4000000 in
set_option maxRecDepth 100000 in
theorem c_M_level (l : Launch) (D : va_G) (ci : Nat → ClassId) (am : Nat → Nat) (g : TS) (th fo sz : Int32) (hs mi hi tx : Nat → Int32) {z : Int} (hz1 : -1000000 ≤ z) (hz2 : z ≤ 1000000) : Met l y_M_level (wT y_M_level b_M_level 3 (some .int)) (rP 0 0) (tb (wMD D ci am g th fo sz hs mi hi tx) [.ref (am 0), .int (iZ z)]) (qM D ci am (ts_lev g z) (nI 0) fo sz hs mi hi tx (some (.int (iZ (tt_lev g))))) 0 0 (mF am) := by
  refine Met.ofW (cc := b_M_level) (maxL := 3) (ret := (some .int)) (by decide) rfl ?_
  intro p e s m args below meth c s₁ B hml hv
  obtain ⟨rfl, hK, hg, hM, hD⟩ := hv
  have hx := B.exec
  have hb := B.bytes
  have hr := B.returns
  have hts := atoms_spec (ws := wT y_M_level b_M_level 3 (some .int)) B.pre
  have hT : ∀ w ∈ TT, w ∈ wT y_M_level b_M_level 3 (some .int) := wT_T
  have hown : s.vm.findClass RM = some m.cls := findClass_of_methodNamed B.named
  have hlocks := B.notSynchronized
  have hl := lv_entry ([.ref (am 0), .int (iZ z)]) (n := 3) (Nat.le_of_ble_eq_true rfl)
  rw [lg_entry_eq]
  generalize (lg_sl ([.ref (am 0), .int (iZ z)]) ++ List.replicate (3 - (lg_sl ([.ref (am 0), .int (iZ z)])).length) Slot.unset).toArray = ls at hl ⊢
  have hl : lv_has ls 3 [(0, .ref (am 0)), (1, .int (iZ z))] := hl
  have hL : ∀ q ∈ ([] : List Loc), mF am q.base := fun q hq => nomatch hq
  have hO : mO am s.heap s.heap := mO.rf
  have ez : (iZ z).toInt = z := iZ_toInt (by omega) (by omega)
  refine lv_aload_n hx hb d_M_level_0 rfl (lv_at hl 0 rfl) ?_
  refine lv_iload_n hx hb d_M_level_1 rfl (lv_at hl 1 rfl) ?_
  refine lv_ldc hx hb (v := (-1000000)) hown (hts _ (hT _ k_M_49)) d_M_level_2 ?_
  refine lv_icmp_lt hx hb d_M_level_4 (tgt := 13) (by decide) (fun q1 => ?_) (fun q1 => ?_)
  · have q1 := Int32.lt_iff_toInt_lt.mp q1
    rw [show (-1000000 : Int32).toInt = -1000000 from rfl] at q1
    refine lv_iconst hx hb d_M_level_13 (v := (nI 1)) rfl ?_
    refine lv_goto hx hb d_M_level_14 (tgt := 18) (by decide) ?_
    exfalso
    omega
  · have q1 := mt Int32.lt_iff_toInt_lt.mpr q1
    rw [show (-1000000 : Int32).toInt = -1000000 from rfl] at q1
    refine lv_iload_n hx hb d_M_level_7 rfl (lv_at hl 1 rfl) ?_
    refine lv_ldc hx hb (v := (nI 1000000)) hown (hts _ (hT _ k_M_50)) d_M_level_8 ?_
    refine lv_icmp_le hx hb d_M_level_10 (tgt := 17) (by decide) (fun q2 => ?_) (fun q2 => ?_)
    · have q2 := Int32.le_iff_toInt_le.mp q2
      rw [nI_toInt (n := 1000000) (by decide)] at q2
      refine lv_iconst hx hb d_M_level_17 (v := (nI 0)) rfl ?_
      refine tq_put (F := mF am) hx hb hts (fun w h => hT w (uM_in w h)) tM tM_ok nM hown hK (tm_one hM 0 rfl) (ci := 1) rfl 0 (by decide) (hts _ (hT _ k_M_43)) (fun _ h => h) rfl (ty := .int) rfl rfl rfl (Nat.le_of_ble_eq_true rfl) ⟨0, by decide, rfl⟩ hL d_M_level_18 (fun H1 locs1 hP1 hz1 hq1 hL => ?_)
      have hM : tm D ci am g (nI 0) fo sz hs mi hi tx H1 := tm_set hD hM 0 (by decide) rfl hP1 (fun j hj => by rcases j with _ | _ | _ | _ | _ | _ | _ | _ | _ | _ | _ | j <;> first | rfl | exact absurd rfl hj) hq1
      have hO := hO.tr (mO.put (k := 0) (by decide) hz1 hq1)
      refine lv_aload_n hx hb d_M_level_21 rfl (lv_at hl 0 rfl) ?_
      refine va_get hx hb hts (fun w h => hT w (uM_in w h)) hown hK hM 0 rfl rfl 0 (by decide) (hts _ (hT _ k_M_43)) (fun _ h => h) rfl d_M_level_22 ?_
      refine lv_if_eq hx hb d_M_level_25 (tgt := 30) (by decide) (fun _ => ?_) (fun hno => absurd (by decide) hno)
      refine lv_aload_n hx hb d_M_level_30 rfl (lv_at hl 0 rfl) ?_
      refine va_get hx hb hts (fun w h => hT w (uM_in w h)) hown hK hM 0 rfl rfl 1 (by decide) (hts _ (hT _ k_M_51)) (fun _ h => h) rfl d_M_level_31 ?_
      refine lv_istore_n hx hb d_M_level_34 rfl hl (by decide) (lv' := [(2, .int (iZ (tt_lev g))), (0, .ref (am 0)), (1, .int (iZ z))]) rfl (fun ls hl => ?_)
      refine lv_aload_n hx hb d_M_level_35 rfl (lv_at hl 1 rfl) ?_
      refine lv_iload_n hx hb d_M_level_36 rfl (lv_at hl 2 rfl) ?_
      refine tq_put (F := mF am) hx hb hts (fun w h => hT w (uM_in w h)) tM tM_ok nM hown hK (tm_one hM 0 rfl) (ci := 1) rfl 1 (by decide) (hts _ (hT _ k_M_51)) (fun _ h => h) rfl (ty := .int) rfl rfl rfl (Nat.le_of_ble_eq_true rfl) ⟨0, by decide, rfl⟩ hL d_M_level_37 (fun H1 locs1 hP1 hz1 hq1 hL => ?_)
      have hM : tm D ci am (ts_lev g z) (nI 0) fo sz hs mi hi tx H1 := tm_set hD hM 0 (by decide) rfl hP1 (fun j hj => by rcases j with _ | _ | _ | _ | _ | _ | _ | _ | _ | _ | _ | j <;> first | rfl | exact absurd rfl hj) hq1
      have hO := hO.tr (mO.put (k := 0) (by decide) hz1 hq1)
      refine lv_iload_n hx hb d_M_level_40 rfl (lv_at hl 0 rfl) ?_
      exact W.iret hx hb hr (fun t ht hW => ⟨_, rfl, rfl, by rw [ht]; exact hM, by rw [ht]; exact hO⟩) hL d_M_level_41
    · have q2 := mt Int32.le_iff_toInt_le.mpr q2
      rw [nI_toInt (n := 1000000) (by decide)] at q2
      refine lv_iconst hx hb d_M_level_13 (v := (nI 1)) rfl ?_
      refine lv_goto hx hb d_M_level_14 (tgt := 18) (by decide) ?_
      exfalso
      omega
set_option maxHeartbeats 4000000 in
set_option maxRecDepth 100000 in
theorem x_M_level (l : Launch) (D : va_G) (ci : Nat → ClassId) (am : Nat → Nat) (g : TS) (th fo sz : Int32) (hs mi hi tx : Nat → Int32) (v : Int32) (hv0 : ¬ (-1000000 ≤ v.toInt ∧ v.toInt ≤ 1000000)) : Met l y_M_level (wT y_M_level b_M_level 3 (some .int)) (rP 0 0) (tb (wMD D ci am g th fo sz hs mi hi tx) [.ref (am 0), .int v]) (qM D ci am g (nI 1) fo sz hs mi hi tx (some (.int (nI 0)))) 0 0 (mF am) := by
  refine Met.ofW (cc := b_M_level) (maxL := 3) (ret := (some .int)) (by decide) rfl ?_
  intro p e s m args below meth c s₁ B hml hv
  obtain ⟨rfl, hK, hg, hM, hD⟩ := hv
  have hx := B.exec
  have hb := B.bytes
  have hr := B.returns
  have hts := atoms_spec (ws := wT y_M_level b_M_level 3 (some .int)) B.pre
  have hT : ∀ w ∈ TT, w ∈ wT y_M_level b_M_level 3 (some .int) := wT_T
  have hown : s.vm.findClass RM = some m.cls := findClass_of_methodNamed B.named
  have hlocks := B.notSynchronized
  have hl := lv_entry ([.ref (am 0), .int v]) (n := 3) (Nat.le_of_ble_eq_true rfl)
  rw [lg_entry_eq]
  generalize (lg_sl ([.ref (am 0), .int v]) ++ List.replicate (3 - (lg_sl ([.ref (am 0), .int v])).length) Slot.unset).toArray = ls at hl ⊢
  have hl : lv_has ls 3 [(0, .ref (am 0)), (1, .int v)] := hl
  have hL : ∀ q ∈ ([] : List Loc), mF am q.base := fun q hq => nomatch hq
  have hO : mO am s.heap s.heap := mO.rf
  refine lv_aload_n hx hb d_M_level_0 rfl (lv_at hl 0 rfl) ?_
  refine lv_iload_n hx hb d_M_level_1 rfl (lv_at hl 1 rfl) ?_
  refine lv_ldc hx hb (v := (-1000000)) hown (hts _ (hT _ k_M_49)) d_M_level_2 ?_
  refine lv_icmp_lt hx hb d_M_level_4 (tgt := 13) (by decide) (fun q1 => ?_) (fun q1 => ?_)
  · have q1 := Int32.lt_iff_toInt_lt.mp q1
    rw [show (-1000000 : Int32).toInt = -1000000 from rfl] at q1
    refine lv_iconst hx hb d_M_level_13 (v := (nI 1)) rfl ?_
    refine lv_goto hx hb d_M_level_14 (tgt := 18) (by decide) ?_
    refine tq_put (F := mF am) hx hb hts (fun w h => hT w (uM_in w h)) tM tM_ok nM hown hK (tm_one hM 0 rfl) (ci := 1) rfl 0 (by decide) (hts _ (hT _ k_M_43)) (fun _ h => h) rfl (ty := .int) rfl rfl rfl (Nat.le_of_ble_eq_true rfl) ⟨0, by decide, rfl⟩ hL d_M_level_18 (fun H1 locs1 hP1 hz1 hq1 hL => ?_)
    have hM : tm D ci am g (nI 1) fo sz hs mi hi tx H1 := tm_set hD hM 0 (by decide) rfl hP1 (fun j hj => by rcases j with _ | _ | _ | _ | _ | _ | _ | _ | _ | _ | _ | j <;> first | rfl | exact absurd rfl hj) hq1
    have hO := hO.tr (mO.put (k := 0) (by decide) hz1 hq1)
    refine lv_aload_n hx hb d_M_level_21 rfl (lv_at hl 0 rfl) ?_
    refine va_get hx hb hts (fun w h => hT w (uM_in w h)) hown hK hM 0 rfl rfl 0 (by decide) (hts _ (hT _ k_M_43)) (fun _ h => h) rfl d_M_level_22 ?_
    refine lv_if_eq hx hb d_M_level_25 (tgt := 30) (by decide) (fun hyes => absurd hyes (by decide)) (fun _ => ?_)
    refine lv_iconst hx hb d_M_level_28 (v := (nI 0)) rfl ?_
    exact W.iret hx hb hr (fun t ht hW => ⟨_, rfl, rfl, by rw [ht]; exact hM, by rw [ht]; exact hO⟩) hL d_M_level_29
  · have q1 := mt Int32.lt_iff_toInt_lt.mpr q1
    rw [show (-1000000 : Int32).toInt = -1000000 from rfl] at q1
    refine lv_iload_n hx hb d_M_level_7 rfl (lv_at hl 1 rfl) ?_
    refine lv_ldc hx hb (v := (nI 1000000)) hown (hts _ (hT _ k_M_50)) d_M_level_8 ?_
    refine lv_icmp_le hx hb d_M_level_10 (tgt := 17) (by decide) (fun q2 => ?_) (fun q2 => ?_)
    · have q2 := Int32.le_iff_toInt_le.mp q2
      rw [nI_toInt (n := 1000000) (by decide)] at q2
      refine lv_iconst hx hb d_M_level_17 (v := (nI 0)) rfl ?_
      exfalso
      omega
    · have q2 := mt Int32.le_iff_toInt_le.mpr q2
      rw [nI_toInt (n := 1000000) (by decide)] at q2
      refine lv_iconst hx hb d_M_level_13 (v := (nI 1)) rfl ?_
      refine lv_goto hx hb d_M_level_14 (tgt := 18) (by decide) ?_
      refine tq_put (F := mF am) hx hb hts (fun w h => hT w (uM_in w h)) tM tM_ok nM hown hK (tm_one hM 0 rfl) (ci := 1) rfl 0 (by decide) (hts _ (hT _ k_M_43)) (fun _ h => h) rfl (ty := .int) rfl rfl rfl (Nat.le_of_ble_eq_true rfl) ⟨0, by decide, rfl⟩ hL d_M_level_18 (fun H1 locs1 hP1 hz1 hq1 hL => ?_)
      have hM : tm D ci am g (nI 1) fo sz hs mi hi tx H1 := tm_set hD hM 0 (by decide) rfl hP1 (fun j hj => by rcases j with _ | _ | _ | _ | _ | _ | _ | _ | _ | _ | _ | j <;> first | rfl | exact absurd rfl hj) hq1
      have hO := hO.tr (mO.put (k := 0) (by decide) hz1 hq1)
      refine lv_aload_n hx hb d_M_level_21 rfl (lv_at hl 0 rfl) ?_
      refine va_get hx hb hts (fun w h => hT w (uM_in w h)) hown hK hM 0 rfl rfl 0 (by decide) (hts _ (hT _ k_M_43)) (fun _ h => h) rfl d_M_level_22 ?_
      refine lv_if_eq hx hb d_M_level_25 (tgt := 30) (by decide) (fun hyes => absurd hyes (by decide)) (fun _ => ?_)
      refine lv_iconst hx hb d_M_level_28 (v := (nI 0)) rfl ?_
      exact W.iret hx hb hr (fun t ht hW => ⟨_, rfl, rfl, by rw [ht]; exact hM, by rw [ht]; exact hO⟩) hL d_M_level_29
set_option maxHeartbeats 4000000 in
set_option maxRecDepth 100000 in
theorem c_M_constituent (l : Launch) (D : va_G) (ci : Nat → ClassId) (am : Nat → Nat) (g : TS) (th fo sz : Int32) (hs mi hi tx : Nat → Int32) {i a sp ph : Nat} (hi8 : i < 8) (ha : a ≤ 100000) (hsp : sp < 1099511627776) (hph : ph < 281474976710656) : Met l y_M_constituent (wT y_M_constituent b_M_constituent 8 none) (rP 1 21) (tb (wMD D ci am g th fo sz hs mi hi tx) [.ref (am 0), .int (nI i), .int (nI a), .long (lN sp), .long (lN ph)]) (qM D ci am (ts_pha (ts_spd (ts_amp g i a) i sp) i ph) (nI 0) fo sz hs mi hi tx (none)) 0 0 (mF am) := by
  refine Met.ofW (cc := b_M_constituent) (maxL := 8) (ret := none) (by decide) rfl ?_
  intro p e s m args below meth c s₁ B hml hv
  obtain ⟨rfl, hK, hg, hM, hD⟩ := hv
  have hx := B.exec
  have hb := B.bytes
  have hr := B.returns
  have hts := atoms_spec (ws := wT y_M_constituent b_M_constituent 8 none) B.pre
  have hT : ∀ w ∈ TT, w ∈ wT y_M_constituent b_M_constituent 8 none := wT_T
  have hown : s.vm.findClass RM = some m.cls := findClass_of_methodNamed B.named
  have hlocks := B.notSynchronized
  have hl := lv_entry ([.ref (am 0), .int (nI i), .int (nI a), .long (lN sp), .long (lN ph)]) (n := 8) (Nat.le_of_ble_eq_true rfl)
  rw [lg_entry_eq]
  generalize (lg_sl ([.ref (am 0), .int (nI i), .int (nI a), .long (lN sp), .long (lN ph)]) ++ List.replicate (8 - (lg_sl ([.ref (am 0), .int (nI i), .int (nI a), .long (lN sp), .long (lN ph)])).length) Slot.unset).toArray = ls at hl ⊢
  have hl : lv_has ls 8 [(0, .ref (am 0)), (1, .int (nI i)), (2, .int (nI a)), (3, .long (lN sp)), (5, .long (lN ph))] := hl
  have hL : ∀ q ∈ ([] : List Loc), mF am q.base := fun q hq => nomatch hq
  have hO : mO am s.heap s.heap := mO.rf
  have ei : (nI i).toInt = i := nI_toInt (by omega)
  have ea : (nI a).toInt = a := nI_toInt (by omega)
  have es : (lN sp).toInt = sp := pk_lT (by omega)
  have ep : (lN ph).toInt = ph := pk_lT (by omega)
  refine lv_iload_n hx hb d_M_constituent_0 rfl (lv_at hl 2 rfl) ?_
  refine lv_if_lt hx hb d_M_constituent_1 (tgt := 36) (by decide) (fun q1 => ?_) (fun q1 => ?_)
  · have q1 := iv_lt0.mp q1
    refine lv_iconst hx hb d_M_constituent_36 (v := (nI 0)) rfl ?_
    refine lv_istore hx hb d_M_constituent_37 hl (by decide) (lv' := [(7, .int (nI 0)), (0, .ref (am 0)), (1, .int (nI i)), (2, .int (nI a)), (3, .long (lN sp)), (5, .long (lN ph))]) rfl (fun ls hl => ?_)
    refine lv_aload_n hx hb d_M_constituent_39 rfl (lv_at hl 1 rfl) ?_
    refine lv_iload_n hx hb d_M_constituent_40 rfl (lv_at hl 2 rfl) ?_
    refine tq_S ⟨hx, hb, hml, hown, hts⟩ hT (c_M_isOne l (nI i)) lk_M_61 wN_mv trivial rfl hl.1 rfl (Nat.le_of_ble_eq_true rfl) d_M_constituent_41 ⟨rfl, rfl, Nat.le_of_ble_eq_true rfl, Nat.le_of_ble_eq_true rfl⟩ ⟨Nat.zero_le _, Nat.zero_le _⟩ ?_
    refine lv_if_ne hx hb d_M_constituent_44 (tgt := 51) (by decide) (fun q2 => ?_) (fun q2 => ?_)
    · have q2 := zb_t q2
      refine lv_iload hx hb d_M_constituent_51 (lv_at hl 0 rfl) ?_
      refine lv_if_ne hx hb d_M_constituent_53 (tgt := 60) (by decide) (fun q3 => ?_) (fun q3 => ?_)
      · have q3 := mt iv_eq0.mpr q3
        rw [nI_toInt (n := 0) (by decide)] at q3
        refine lv_iconst hx hb d_M_constituent_60 (v := (nI 0)) rfl ?_
        refine tq_put (F := mF am) hx hb hts (fun w h => hT w (uM_in w h)) tM tM_ok nM hown hK (tm_one hM 0 rfl) (ci := 1) rfl 0 (by decide) (hts _ (hT _ k_M_43)) (fun _ h => h) rfl (ty := .int) rfl rfl rfl (Nat.le_of_ble_eq_true rfl) ⟨0, by decide, rfl⟩ hL d_M_constituent_61 (fun H1 locs1 hP1 hz1 hq1 hL => ?_)
        have hM : tm D ci am g (nI 0) fo sz hs mi hi tx H1 := tm_set hD hM 0 (by decide) rfl hP1 (fun j hj => by rcases j with _ | _ | _ | _ | _ | _ | _ | _ | _ | _ | _ | j <;> first | rfl | exact absurd rfl hj) hq1
        have hO := hO.tr (mO.put (k := 0) (by decide) hz1 hq1)
        refine lv_aload_n hx hb d_M_constituent_64 rfl (lv_at hl 1 rfl) ?_
        refine va_get hx hb hts (fun w h => hT w (uM_in w h)) hown hK hM 0 rfl rfl 0 (by decide) (hts _ (hT _ k_M_43)) (fun _ h => h) rfl d_M_constituent_65 ?_
        refine lv_if_eq hx hb d_M_constituent_68 (tgt := 72) (by decide) (fun _ => ?_) (fun hno => absurd (by decide) hno)
        refine lv_aload_n hx hb d_M_constituent_72 rfl (lv_at hl 1 rfl) ?_
        refine va_get hx hb hts (fun w h => hT w (uM_in w h)) hown hK hM 0 rfl rfl 3 (by decide) (hts _ (hT _ k_M_13)) (fun _ h => h) rfl d_M_constituent_73 ?_
        refine lv_iload_n hx hb d_M_constituent_76 rfl (lv_at hl 2 rfl) ?_
        refine lv_iload_n hx hb d_M_constituent_77 rfl (lv_at hl 3 rfl) ?_
        refine tq_iast (F := mF am) hx hb hK 0 (tm_one hM 2 rfl) rfl hi8 (by decide) ⟨2, by decide, rfl⟩ hL d_M_constituent_78 (fun H1 locs1 hP1 hz1 hq1 hL => ?_)
        rw [up_nI] at hP1
        have hM : tm D ci am (ts_amp g i a) (nI 0) fo sz hs mi hi tx H1 := tm_set hD hM 2 (by decide) rfl hP1 (fun j hj => by rcases j with _ | _ | _ | _ | _ | _ | _ | _ | _ | _ | _ | j <;> first | rfl | exact absurd rfl hj) hq1
        have hO := hO.tr (mO.put (k := 2) (by decide) hz1 hq1)
        refine lv_aload_n hx hb d_M_constituent_79 rfl (lv_at hl 1 rfl) ?_
        refine va_get hx hb hts (fun w h => hT w (uM_in w h)) hown hK hM 0 rfl rfl 4 (by decide) (hts _ (hT _ k_M_16)) (fun _ h => h) rfl d_M_constituent_80 ?_
        refine lv_iload_n hx hb d_M_constituent_83 rfl (lv_at hl 2 rfl) ?_
        refine lv_lload_n hx hb d_M_constituent_84 rfl (lv_at hl 4 rfl) ?_
        refine tq_last (F := mF am) hx hb hK 1 (tm_one hM 3 rfl) rfl hi8 (by decide) ⟨3, by decide, rfl⟩ hL d_M_constituent_85 (fun H1 locs1 hP1 hz1 hq1 hL => ?_)
        rw [up_lN] at hP1
        have hM : tm D ci am (ts_spd (ts_amp g i a) i sp) (nI 0) fo sz hs mi hi tx H1 := tm_set hD hM 3 (by decide) rfl hP1 (fun j hj => by rcases j with _ | _ | _ | _ | _ | _ | _ | _ | _ | _ | _ | j <;> first | rfl | exact absurd rfl hj) hq1
        have hO := hO.tr (mO.put (k := 3) (by decide) hz1 hq1)
        refine lv_aload_n hx hb d_M_constituent_86 rfl (lv_at hl 1 rfl) ?_
        refine va_get hx hb hts (fun w h => hT w (uM_in w h)) hown hK hM 0 rfl rfl 5 (by decide) (hts _ (hT _ k_M_20)) (fun _ h => h) rfl d_M_constituent_87 ?_
        refine lv_iload_n hx hb d_M_constituent_90 rfl (lv_at hl 2 rfl) ?_
        refine lv_lload hx hb d_M_constituent_91 (lv_at hl 5 rfl) ?_
        refine tq_last (F := mF am) hx hb hK 1 (tm_one hM 4 rfl) rfl hi8 (by decide) ⟨4, by decide, rfl⟩ hL d_M_constituent_93 (fun H1 locs1 hP1 hz1 hq1 hL => ?_)
        rw [up_lN] at hP1
        have hM : tm D ci am (ts_pha (ts_spd (ts_amp g i a) i sp) i ph) (nI 0) fo sz hs mi hi tx H1 := tm_set hD hM 4 (by decide) rfl hP1 (fun j hj => by rcases j with _ | _ | _ | _ | _ | _ | _ | _ | _ | _ | _ | j <;> first | rfl | exact absurd rfl hj) hq1
        have hO := hO.tr (mO.put (k := 4) (by decide) hz1 hq1)
        exact W.vret hx hb hr (fun t ht hW => ⟨_, rfl, rfl, by rw [ht]; exact hM, by rw [ht]; exact hO⟩) hL d_M_constituent_94
      · have q3 := iv_eq0.mp q3
        rw [nI_toInt (n := 0) (by decide)] at q3
        refine lv_iconst hx hb d_M_constituent_56 (v := (nI 2)) rfl ?_
        refine lv_goto hx hb d_M_constituent_57 (tgt := 61) (by decide) ?_
        exfalso
        omega
    · have q2 := zb_f q2
      refine lv_iconst hx hb d_M_constituent_47 (v := (nI 1)) rfl ?_
      refine lv_goto hx hb d_M_constituent_48 (tgt := 61) (by decide) ?_
      exfalso
      omega
  · have q1 := mt iv_lt0.mpr q1
    refine lv_iload_n hx hb d_M_constituent_4 rfl (lv_at hl 2 rfl) ?_
    refine lv_ldc hx hb (v := (nI 100000)) hown (hts _ (hT _ k_M_54)) d_M_constituent_5 ?_
    refine lv_icmp_gt hx hb d_M_constituent_7 (tgt := 36) (by decide) (fun q2 => ?_) (fun q2 => ?_)
    · have q2 := Int32.lt_iff_toInt_lt.mp q2
      rw [nI_toInt (n := 100000) (by decide)] at q2
      refine lv_iconst hx hb d_M_constituent_36 (v := (nI 0)) rfl ?_
      refine lv_istore hx hb d_M_constituent_37 hl (by decide) (lv' := [(7, .int (nI 0)), (0, .ref (am 0)), (1, .int (nI i)), (2, .int (nI a)), (3, .long (lN sp)), (5, .long (lN ph))]) rfl (fun ls hl => ?_)
      refine lv_aload_n hx hb d_M_constituent_39 rfl (lv_at hl 1 rfl) ?_
      refine lv_iload_n hx hb d_M_constituent_40 rfl (lv_at hl 2 rfl) ?_
      refine tq_S ⟨hx, hb, hml, hown, hts⟩ hT (c_M_isOne l (nI i)) lk_M_61 wN_mv trivial rfl hl.1 rfl (Nat.le_of_ble_eq_true rfl) d_M_constituent_41 ⟨rfl, rfl, Nat.le_of_ble_eq_true rfl, Nat.le_of_ble_eq_true rfl⟩ ⟨Nat.zero_le _, Nat.zero_le _⟩ ?_
      refine lv_if_ne hx hb d_M_constituent_44 (tgt := 51) (by decide) (fun q3 => ?_) (fun q3 => ?_)
      · have q3 := zb_t q3
        refine lv_iload hx hb d_M_constituent_51 (lv_at hl 0 rfl) ?_
        refine lv_if_ne hx hb d_M_constituent_53 (tgt := 60) (by decide) (fun q4 => ?_) (fun q4 => ?_)
        · have q4 := mt iv_eq0.mpr q4
          rw [nI_toInt (n := 0) (by decide)] at q4
          refine lv_iconst hx hb d_M_constituent_60 (v := (nI 0)) rfl ?_
          refine tq_put (F := mF am) hx hb hts (fun w h => hT w (uM_in w h)) tM tM_ok nM hown hK (tm_one hM 0 rfl) (ci := 1) rfl 0 (by decide) (hts _ (hT _ k_M_43)) (fun _ h => h) rfl (ty := .int) rfl rfl rfl (Nat.le_of_ble_eq_true rfl) ⟨0, by decide, rfl⟩ hL d_M_constituent_61 (fun H1 locs1 hP1 hz1 hq1 hL => ?_)
          have hM : tm D ci am g (nI 0) fo sz hs mi hi tx H1 := tm_set hD hM 0 (by decide) rfl hP1 (fun j hj => by rcases j with _ | _ | _ | _ | _ | _ | _ | _ | _ | _ | _ | j <;> first | rfl | exact absurd rfl hj) hq1
          have hO := hO.tr (mO.put (k := 0) (by decide) hz1 hq1)
          refine lv_aload_n hx hb d_M_constituent_64 rfl (lv_at hl 1 rfl) ?_
          refine va_get hx hb hts (fun w h => hT w (uM_in w h)) hown hK hM 0 rfl rfl 0 (by decide) (hts _ (hT _ k_M_43)) (fun _ h => h) rfl d_M_constituent_65 ?_
          refine lv_if_eq hx hb d_M_constituent_68 (tgt := 72) (by decide) (fun _ => ?_) (fun hno => absurd (by decide) hno)
          refine lv_aload_n hx hb d_M_constituent_72 rfl (lv_at hl 1 rfl) ?_
          refine va_get hx hb hts (fun w h => hT w (uM_in w h)) hown hK hM 0 rfl rfl 3 (by decide) (hts _ (hT _ k_M_13)) (fun _ h => h) rfl d_M_constituent_73 ?_
          refine lv_iload_n hx hb d_M_constituent_76 rfl (lv_at hl 2 rfl) ?_
          refine lv_iload_n hx hb d_M_constituent_77 rfl (lv_at hl 3 rfl) ?_
          refine tq_iast (F := mF am) hx hb hK 0 (tm_one hM 2 rfl) rfl hi8 (by decide) ⟨2, by decide, rfl⟩ hL d_M_constituent_78 (fun H1 locs1 hP1 hz1 hq1 hL => ?_)
          rw [up_nI] at hP1
          have hM : tm D ci am (ts_amp g i a) (nI 0) fo sz hs mi hi tx H1 := tm_set hD hM 2 (by decide) rfl hP1 (fun j hj => by rcases j with _ | _ | _ | _ | _ | _ | _ | _ | _ | _ | _ | j <;> first | rfl | exact absurd rfl hj) hq1
          have hO := hO.tr (mO.put (k := 2) (by decide) hz1 hq1)
          refine lv_aload_n hx hb d_M_constituent_79 rfl (lv_at hl 1 rfl) ?_
          refine va_get hx hb hts (fun w h => hT w (uM_in w h)) hown hK hM 0 rfl rfl 4 (by decide) (hts _ (hT _ k_M_16)) (fun _ h => h) rfl d_M_constituent_80 ?_
          refine lv_iload_n hx hb d_M_constituent_83 rfl (lv_at hl 2 rfl) ?_
          refine lv_lload_n hx hb d_M_constituent_84 rfl (lv_at hl 4 rfl) ?_
          refine tq_last (F := mF am) hx hb hK 1 (tm_one hM 3 rfl) rfl hi8 (by decide) ⟨3, by decide, rfl⟩ hL d_M_constituent_85 (fun H1 locs1 hP1 hz1 hq1 hL => ?_)
          rw [up_lN] at hP1
          have hM : tm D ci am (ts_spd (ts_amp g i a) i sp) (nI 0) fo sz hs mi hi tx H1 := tm_set hD hM 3 (by decide) rfl hP1 (fun j hj => by rcases j with _ | _ | _ | _ | _ | _ | _ | _ | _ | _ | _ | j <;> first | rfl | exact absurd rfl hj) hq1
          have hO := hO.tr (mO.put (k := 3) (by decide) hz1 hq1)
          refine lv_aload_n hx hb d_M_constituent_86 rfl (lv_at hl 1 rfl) ?_
          refine va_get hx hb hts (fun w h => hT w (uM_in w h)) hown hK hM 0 rfl rfl 5 (by decide) (hts _ (hT _ k_M_20)) (fun _ h => h) rfl d_M_constituent_87 ?_
          refine lv_iload_n hx hb d_M_constituent_90 rfl (lv_at hl 2 rfl) ?_
          refine lv_lload hx hb d_M_constituent_91 (lv_at hl 5 rfl) ?_
          refine tq_last (F := mF am) hx hb hK 1 (tm_one hM 4 rfl) rfl hi8 (by decide) ⟨4, by decide, rfl⟩ hL d_M_constituent_93 (fun H1 locs1 hP1 hz1 hq1 hL => ?_)
          rw [up_lN] at hP1
          have hM : tm D ci am (ts_pha (ts_spd (ts_amp g i a) i sp) i ph) (nI 0) fo sz hs mi hi tx H1 := tm_set hD hM 4 (by decide) rfl hP1 (fun j hj => by rcases j with _ | _ | _ | _ | _ | _ | _ | _ | _ | _ | _ | j <;> first | rfl | exact absurd rfl hj) hq1
          have hO := hO.tr (mO.put (k := 4) (by decide) hz1 hq1)
          exact W.vret hx hb hr (fun t ht hW => ⟨_, rfl, rfl, by rw [ht]; exact hM, by rw [ht]; exact hO⟩) hL d_M_constituent_94
        · have q4 := iv_eq0.mp q4
          rw [nI_toInt (n := 0) (by decide)] at q4
          refine lv_iconst hx hb d_M_constituent_56 (v := (nI 2)) rfl ?_
          refine lv_goto hx hb d_M_constituent_57 (tgt := 61) (by decide) ?_
          exfalso
          omega
      · have q3 := zb_f q3
        refine lv_iconst hx hb d_M_constituent_47 (v := (nI 1)) rfl ?_
        refine lv_goto hx hb d_M_constituent_48 (tgt := 61) (by decide) ?_
        exfalso
        omega
    · have q2 := mt Int32.lt_iff_toInt_lt.mpr q2
      rw [nI_toInt (n := 100000) (by decide)] at q2
      refine lv_lload_n hx hb d_M_constituent_10 rfl (lv_at hl 3 rfl) ?_
      refine lv_lconst hx hb d_M_constituent_11 (v := (lN 0)) rfl ?_
      refine W.lcmp hx hb d_M_constituent_12 ?_
      refine lv_if_lt hx hb d_M_constituent_13 (tgt := 36) (by decide) (fun q3 => ?_) (fun q3 => ?_)
      · have q3 := ((lg_cmp_lt _ _).trans Int64.lt_iff_toInt_lt).mp q3
        rw [pk_lT (n := 0) (by decide)] at q3
        refine lv_iconst hx hb d_M_constituent_36 (v := (nI 0)) rfl ?_
        refine lv_istore hx hb d_M_constituent_37 hl (by decide) (lv' := [(7, .int (nI 0)), (0, .ref (am 0)), (1, .int (nI i)), (2, .int (nI a)), (3, .long (lN sp)), (5, .long (lN ph))]) rfl (fun ls hl => ?_)
        refine lv_aload_n hx hb d_M_constituent_39 rfl (lv_at hl 1 rfl) ?_
        refine lv_iload_n hx hb d_M_constituent_40 rfl (lv_at hl 2 rfl) ?_
        refine tq_S ⟨hx, hb, hml, hown, hts⟩ hT (c_M_isOne l (nI i)) lk_M_61 wN_mv trivial rfl hl.1 rfl (Nat.le_of_ble_eq_true rfl) d_M_constituent_41 ⟨rfl, rfl, Nat.le_of_ble_eq_true rfl, Nat.le_of_ble_eq_true rfl⟩ ⟨Nat.zero_le _, Nat.zero_le _⟩ ?_
        refine lv_if_ne hx hb d_M_constituent_44 (tgt := 51) (by decide) (fun q4 => ?_) (fun q4 => ?_)
        · have q4 := zb_t q4
          refine lv_iload hx hb d_M_constituent_51 (lv_at hl 0 rfl) ?_
          refine lv_if_ne hx hb d_M_constituent_53 (tgt := 60) (by decide) (fun q5 => ?_) (fun q5 => ?_)
          · have q5 := mt iv_eq0.mpr q5
            rw [nI_toInt (n := 0) (by decide)] at q5
            refine lv_iconst hx hb d_M_constituent_60 (v := (nI 0)) rfl ?_
            refine tq_put (F := mF am) hx hb hts (fun w h => hT w (uM_in w h)) tM tM_ok nM hown hK (tm_one hM 0 rfl) (ci := 1) rfl 0 (by decide) (hts _ (hT _ k_M_43)) (fun _ h => h) rfl (ty := .int) rfl rfl rfl (Nat.le_of_ble_eq_true rfl) ⟨0, by decide, rfl⟩ hL d_M_constituent_61 (fun H1 locs1 hP1 hz1 hq1 hL => ?_)
            have hM : tm D ci am g (nI 0) fo sz hs mi hi tx H1 := tm_set hD hM 0 (by decide) rfl hP1 (fun j hj => by rcases j with _ | _ | _ | _ | _ | _ | _ | _ | _ | _ | _ | j <;> first | rfl | exact absurd rfl hj) hq1
            have hO := hO.tr (mO.put (k := 0) (by decide) hz1 hq1)
            refine lv_aload_n hx hb d_M_constituent_64 rfl (lv_at hl 1 rfl) ?_
            refine va_get hx hb hts (fun w h => hT w (uM_in w h)) hown hK hM 0 rfl rfl 0 (by decide) (hts _ (hT _ k_M_43)) (fun _ h => h) rfl d_M_constituent_65 ?_
            refine lv_if_eq hx hb d_M_constituent_68 (tgt := 72) (by decide) (fun _ => ?_) (fun hno => absurd (by decide) hno)
            refine lv_aload_n hx hb d_M_constituent_72 rfl (lv_at hl 1 rfl) ?_
            refine va_get hx hb hts (fun w h => hT w (uM_in w h)) hown hK hM 0 rfl rfl 3 (by decide) (hts _ (hT _ k_M_13)) (fun _ h => h) rfl d_M_constituent_73 ?_
            refine lv_iload_n hx hb d_M_constituent_76 rfl (lv_at hl 2 rfl) ?_
            refine lv_iload_n hx hb d_M_constituent_77 rfl (lv_at hl 3 rfl) ?_
            refine tq_iast (F := mF am) hx hb hK 0 (tm_one hM 2 rfl) rfl hi8 (by decide) ⟨2, by decide, rfl⟩ hL d_M_constituent_78 (fun H1 locs1 hP1 hz1 hq1 hL => ?_)
            rw [up_nI] at hP1
            have hM : tm D ci am (ts_amp g i a) (nI 0) fo sz hs mi hi tx H1 := tm_set hD hM 2 (by decide) rfl hP1 (fun j hj => by rcases j with _ | _ | _ | _ | _ | _ | _ | _ | _ | _ | _ | j <;> first | rfl | exact absurd rfl hj) hq1
            have hO := hO.tr (mO.put (k := 2) (by decide) hz1 hq1)
            refine lv_aload_n hx hb d_M_constituent_79 rfl (lv_at hl 1 rfl) ?_
            refine va_get hx hb hts (fun w h => hT w (uM_in w h)) hown hK hM 0 rfl rfl 4 (by decide) (hts _ (hT _ k_M_16)) (fun _ h => h) rfl d_M_constituent_80 ?_
            refine lv_iload_n hx hb d_M_constituent_83 rfl (lv_at hl 2 rfl) ?_
            refine lv_lload_n hx hb d_M_constituent_84 rfl (lv_at hl 4 rfl) ?_
            refine tq_last (F := mF am) hx hb hK 1 (tm_one hM 3 rfl) rfl hi8 (by decide) ⟨3, by decide, rfl⟩ hL d_M_constituent_85 (fun H1 locs1 hP1 hz1 hq1 hL => ?_)
            rw [up_lN] at hP1
            have hM : tm D ci am (ts_spd (ts_amp g i a) i sp) (nI 0) fo sz hs mi hi tx H1 := tm_set hD hM 3 (by decide) rfl hP1 (fun j hj => by rcases j with _ | _ | _ | _ | _ | _ | _ | _ | _ | _ | _ | j <;> first | rfl | exact absurd rfl hj) hq1
            have hO := hO.tr (mO.put (k := 3) (by decide) hz1 hq1)
            refine lv_aload_n hx hb d_M_constituent_86 rfl (lv_at hl 1 rfl) ?_
            refine va_get hx hb hts (fun w h => hT w (uM_in w h)) hown hK hM 0 rfl rfl 5 (by decide) (hts _ (hT _ k_M_20)) (fun _ h => h) rfl d_M_constituent_87 ?_
            refine lv_iload_n hx hb d_M_constituent_90 rfl (lv_at hl 2 rfl) ?_
            refine lv_lload hx hb d_M_constituent_91 (lv_at hl 5 rfl) ?_
            refine tq_last (F := mF am) hx hb hK 1 (tm_one hM 4 rfl) rfl hi8 (by decide) ⟨4, by decide, rfl⟩ hL d_M_constituent_93 (fun H1 locs1 hP1 hz1 hq1 hL => ?_)
            rw [up_lN] at hP1
            have hM : tm D ci am (ts_pha (ts_spd (ts_amp g i a) i sp) i ph) (nI 0) fo sz hs mi hi tx H1 := tm_set hD hM 4 (by decide) rfl hP1 (fun j hj => by rcases j with _ | _ | _ | _ | _ | _ | _ | _ | _ | _ | _ | j <;> first | rfl | exact absurd rfl hj) hq1
            have hO := hO.tr (mO.put (k := 4) (by decide) hz1 hq1)
            exact W.vret hx hb hr (fun t ht hW => ⟨_, rfl, rfl, by rw [ht]; exact hM, by rw [ht]; exact hO⟩) hL d_M_constituent_94
          · have q5 := iv_eq0.mp q5
            rw [nI_toInt (n := 0) (by decide)] at q5
            refine lv_iconst hx hb d_M_constituent_56 (v := (nI 2)) rfl ?_
            refine lv_goto hx hb d_M_constituent_57 (tgt := 61) (by decide) ?_
            exfalso
            omega
        · have q4 := zb_f q4
          refine lv_iconst hx hb d_M_constituent_47 (v := (nI 1)) rfl ?_
          refine lv_goto hx hb d_M_constituent_48 (tgt := 61) (by decide) ?_
          exfalso
          omega
      · have q3 := mt ((lg_cmp_lt _ _).trans Int64.lt_iff_toInt_lt).mpr q3
        rw [pk_lT (n := 0) (by decide)] at q3
        refine lv_lload_n hx hb d_M_constituent_16 rfl (lv_at hl 3 rfl) ?_
        refine lv_ldc2 hx hb (v := (lN 1099511627776)) hown (hts _ (hT _ k_M_55)) d_M_constituent_17 ?_
        refine W.lcmp hx hb d_M_constituent_20 ?_
        refine lv_if_ge hx hb d_M_constituent_21 (tgt := 36) (by decide) (fun q4 => ?_) (fun q4 => ?_)
        · have q4 := ((lg_cmp_ge _ _).trans Int64.le_iff_toInt_le).mp q4
          rw [pk_lT (n := 1099511627776) (by decide)] at q4
          refine lv_iconst hx hb d_M_constituent_36 (v := (nI 0)) rfl ?_
          refine lv_istore hx hb d_M_constituent_37 hl (by decide) (lv' := [(7, .int (nI 0)), (0, .ref (am 0)), (1, .int (nI i)), (2, .int (nI a)), (3, .long (lN sp)), (5, .long (lN ph))]) rfl (fun ls hl => ?_)
          refine lv_aload_n hx hb d_M_constituent_39 rfl (lv_at hl 1 rfl) ?_
          refine lv_iload_n hx hb d_M_constituent_40 rfl (lv_at hl 2 rfl) ?_
          refine tq_S ⟨hx, hb, hml, hown, hts⟩ hT (c_M_isOne l (nI i)) lk_M_61 wN_mv trivial rfl hl.1 rfl (Nat.le_of_ble_eq_true rfl) d_M_constituent_41 ⟨rfl, rfl, Nat.le_of_ble_eq_true rfl, Nat.le_of_ble_eq_true rfl⟩ ⟨Nat.zero_le _, Nat.zero_le _⟩ ?_
          refine lv_if_ne hx hb d_M_constituent_44 (tgt := 51) (by decide) (fun q5 => ?_) (fun q5 => ?_)
          · have q5 := zb_t q5
            refine lv_iload hx hb d_M_constituent_51 (lv_at hl 0 rfl) ?_
            refine lv_if_ne hx hb d_M_constituent_53 (tgt := 60) (by decide) (fun q6 => ?_) (fun q6 => ?_)
            · have q6 := mt iv_eq0.mpr q6
              rw [nI_toInt (n := 0) (by decide)] at q6
              refine lv_iconst hx hb d_M_constituent_60 (v := (nI 0)) rfl ?_
              refine tq_put (F := mF am) hx hb hts (fun w h => hT w (uM_in w h)) tM tM_ok nM hown hK (tm_one hM 0 rfl) (ci := 1) rfl 0 (by decide) (hts _ (hT _ k_M_43)) (fun _ h => h) rfl (ty := .int) rfl rfl rfl (Nat.le_of_ble_eq_true rfl) ⟨0, by decide, rfl⟩ hL d_M_constituent_61 (fun H1 locs1 hP1 hz1 hq1 hL => ?_)
              have hM : tm D ci am g (nI 0) fo sz hs mi hi tx H1 := tm_set hD hM 0 (by decide) rfl hP1 (fun j hj => by rcases j with _ | _ | _ | _ | _ | _ | _ | _ | _ | _ | _ | j <;> first | rfl | exact absurd rfl hj) hq1
              have hO := hO.tr (mO.put (k := 0) (by decide) hz1 hq1)
              refine lv_aload_n hx hb d_M_constituent_64 rfl (lv_at hl 1 rfl) ?_
              refine va_get hx hb hts (fun w h => hT w (uM_in w h)) hown hK hM 0 rfl rfl 0 (by decide) (hts _ (hT _ k_M_43)) (fun _ h => h) rfl d_M_constituent_65 ?_
              refine lv_if_eq hx hb d_M_constituent_68 (tgt := 72) (by decide) (fun _ => ?_) (fun hno => absurd (by decide) hno)
              refine lv_aload_n hx hb d_M_constituent_72 rfl (lv_at hl 1 rfl) ?_
              refine va_get hx hb hts (fun w h => hT w (uM_in w h)) hown hK hM 0 rfl rfl 3 (by decide) (hts _ (hT _ k_M_13)) (fun _ h => h) rfl d_M_constituent_73 ?_
              refine lv_iload_n hx hb d_M_constituent_76 rfl (lv_at hl 2 rfl) ?_
              refine lv_iload_n hx hb d_M_constituent_77 rfl (lv_at hl 3 rfl) ?_
              refine tq_iast (F := mF am) hx hb hK 0 (tm_one hM 2 rfl) rfl hi8 (by decide) ⟨2, by decide, rfl⟩ hL d_M_constituent_78 (fun H1 locs1 hP1 hz1 hq1 hL => ?_)
              rw [up_nI] at hP1
              have hM : tm D ci am (ts_amp g i a) (nI 0) fo sz hs mi hi tx H1 := tm_set hD hM 2 (by decide) rfl hP1 (fun j hj => by rcases j with _ | _ | _ | _ | _ | _ | _ | _ | _ | _ | _ | j <;> first | rfl | exact absurd rfl hj) hq1
              have hO := hO.tr (mO.put (k := 2) (by decide) hz1 hq1)
              refine lv_aload_n hx hb d_M_constituent_79 rfl (lv_at hl 1 rfl) ?_
              refine va_get hx hb hts (fun w h => hT w (uM_in w h)) hown hK hM 0 rfl rfl 4 (by decide) (hts _ (hT _ k_M_16)) (fun _ h => h) rfl d_M_constituent_80 ?_
              refine lv_iload_n hx hb d_M_constituent_83 rfl (lv_at hl 2 rfl) ?_
              refine lv_lload_n hx hb d_M_constituent_84 rfl (lv_at hl 4 rfl) ?_
              refine tq_last (F := mF am) hx hb hK 1 (tm_one hM 3 rfl) rfl hi8 (by decide) ⟨3, by decide, rfl⟩ hL d_M_constituent_85 (fun H1 locs1 hP1 hz1 hq1 hL => ?_)
              rw [up_lN] at hP1
              have hM : tm D ci am (ts_spd (ts_amp g i a) i sp) (nI 0) fo sz hs mi hi tx H1 := tm_set hD hM 3 (by decide) rfl hP1 (fun j hj => by rcases j with _ | _ | _ | _ | _ | _ | _ | _ | _ | _ | _ | j <;> first | rfl | exact absurd rfl hj) hq1
              have hO := hO.tr (mO.put (k := 3) (by decide) hz1 hq1)
              refine lv_aload_n hx hb d_M_constituent_86 rfl (lv_at hl 1 rfl) ?_
              refine va_get hx hb hts (fun w h => hT w (uM_in w h)) hown hK hM 0 rfl rfl 5 (by decide) (hts _ (hT _ k_M_20)) (fun _ h => h) rfl d_M_constituent_87 ?_
              refine lv_iload_n hx hb d_M_constituent_90 rfl (lv_at hl 2 rfl) ?_
              refine lv_lload hx hb d_M_constituent_91 (lv_at hl 5 rfl) ?_
              refine tq_last (F := mF am) hx hb hK 1 (tm_one hM 4 rfl) rfl hi8 (by decide) ⟨4, by decide, rfl⟩ hL d_M_constituent_93 (fun H1 locs1 hP1 hz1 hq1 hL => ?_)
              rw [up_lN] at hP1
              have hM : tm D ci am (ts_pha (ts_spd (ts_amp g i a) i sp) i ph) (nI 0) fo sz hs mi hi tx H1 := tm_set hD hM 4 (by decide) rfl hP1 (fun j hj => by rcases j with _ | _ | _ | _ | _ | _ | _ | _ | _ | _ | _ | j <;> first | rfl | exact absurd rfl hj) hq1
              have hO := hO.tr (mO.put (k := 4) (by decide) hz1 hq1)
              exact W.vret hx hb hr (fun t ht hW => ⟨_, rfl, rfl, by rw [ht]; exact hM, by rw [ht]; exact hO⟩) hL d_M_constituent_94
            · have q6 := iv_eq0.mp q6
              rw [nI_toInt (n := 0) (by decide)] at q6
              refine lv_iconst hx hb d_M_constituent_56 (v := (nI 2)) rfl ?_
              refine lv_goto hx hb d_M_constituent_57 (tgt := 61) (by decide) ?_
              exfalso
              omega
          · have q5 := zb_f q5
            refine lv_iconst hx hb d_M_constituent_47 (v := (nI 1)) rfl ?_
            refine lv_goto hx hb d_M_constituent_48 (tgt := 61) (by decide) ?_
            exfalso
            omega
        · have q4 := mt ((lg_cmp_ge _ _).trans Int64.le_iff_toInt_le).mpr q4
          rw [pk_lT (n := 1099511627776) (by decide)] at q4
          refine lv_lload hx hb d_M_constituent_24 (lv_at hl 4 rfl) ?_
          refine tq_S ⟨hx, hb, hml, hown, hts⟩ hT (c_M_isTurn l (lN ph)) lk_M_57 wN_mv trivial rfl hl.1 rfl (Nat.le_of_ble_eq_true rfl) d_M_constituent_26 ⟨rfl, rfl, Nat.le_of_ble_eq_true rfl, Nat.le_of_ble_eq_true rfl⟩ ⟨Nat.zero_le _, Nat.zero_le _⟩ ?_
          refine lv_if_eq hx hb d_M_constituent_29 (tgt := 36) (by decide) (fun q5 => ?_) (fun q5 => ?_)
          · have q5 := zb_f q5
            refine lv_iconst hx hb d_M_constituent_36 (v := (nI 0)) rfl ?_
            refine lv_istore hx hb d_M_constituent_37 hl (by decide) (lv' := [(7, .int (nI 0)), (0, .ref (am 0)), (1, .int (nI i)), (2, .int (nI a)), (3, .long (lN sp)), (5, .long (lN ph))]) rfl (fun ls hl => ?_)
            refine lv_aload_n hx hb d_M_constituent_39 rfl (lv_at hl 1 rfl) ?_
            refine lv_iload_n hx hb d_M_constituent_40 rfl (lv_at hl 2 rfl) ?_
            refine tq_S ⟨hx, hb, hml, hown, hts⟩ hT (c_M_isOne l (nI i)) lk_M_61 wN_mv trivial rfl hl.1 rfl (Nat.le_of_ble_eq_true rfl) d_M_constituent_41 ⟨rfl, rfl, Nat.le_of_ble_eq_true rfl, Nat.le_of_ble_eq_true rfl⟩ ⟨Nat.zero_le _, Nat.zero_le _⟩ ?_
            refine lv_if_ne hx hb d_M_constituent_44 (tgt := 51) (by decide) (fun q6 => ?_) (fun q6 => ?_)
            · have q6 := zb_t q6
              refine lv_iload hx hb d_M_constituent_51 (lv_at hl 0 rfl) ?_
              refine lv_if_ne hx hb d_M_constituent_53 (tgt := 60) (by decide) (fun q7 => ?_) (fun q7 => ?_)
              · have q7 := mt iv_eq0.mpr q7
                rw [nI_toInt (n := 0) (by decide)] at q7
                refine lv_iconst hx hb d_M_constituent_60 (v := (nI 0)) rfl ?_
                refine tq_put (F := mF am) hx hb hts (fun w h => hT w (uM_in w h)) tM tM_ok nM hown hK (tm_one hM 0 rfl) (ci := 1) rfl 0 (by decide) (hts _ (hT _ k_M_43)) (fun _ h => h) rfl (ty := .int) rfl rfl rfl (Nat.le_of_ble_eq_true rfl) ⟨0, by decide, rfl⟩ hL d_M_constituent_61 (fun H1 locs1 hP1 hz1 hq1 hL => ?_)
                have hM : tm D ci am g (nI 0) fo sz hs mi hi tx H1 := tm_set hD hM 0 (by decide) rfl hP1 (fun j hj => by rcases j with _ | _ | _ | _ | _ | _ | _ | _ | _ | _ | _ | j <;> first | rfl | exact absurd rfl hj) hq1
                have hO := hO.tr (mO.put (k := 0) (by decide) hz1 hq1)
                refine lv_aload_n hx hb d_M_constituent_64 rfl (lv_at hl 1 rfl) ?_
                refine va_get hx hb hts (fun w h => hT w (uM_in w h)) hown hK hM 0 rfl rfl 0 (by decide) (hts _ (hT _ k_M_43)) (fun _ h => h) rfl d_M_constituent_65 ?_
                refine lv_if_eq hx hb d_M_constituent_68 (tgt := 72) (by decide) (fun _ => ?_) (fun hno => absurd (by decide) hno)
                refine lv_aload_n hx hb d_M_constituent_72 rfl (lv_at hl 1 rfl) ?_
                refine va_get hx hb hts (fun w h => hT w (uM_in w h)) hown hK hM 0 rfl rfl 3 (by decide) (hts _ (hT _ k_M_13)) (fun _ h => h) rfl d_M_constituent_73 ?_
                refine lv_iload_n hx hb d_M_constituent_76 rfl (lv_at hl 2 rfl) ?_
                refine lv_iload_n hx hb d_M_constituent_77 rfl (lv_at hl 3 rfl) ?_
                refine tq_iast (F := mF am) hx hb hK 0 (tm_one hM 2 rfl) rfl hi8 (by decide) ⟨2, by decide, rfl⟩ hL d_M_constituent_78 (fun H1 locs1 hP1 hz1 hq1 hL => ?_)
                rw [up_nI] at hP1
                have hM : tm D ci am (ts_amp g i a) (nI 0) fo sz hs mi hi tx H1 := tm_set hD hM 2 (by decide) rfl hP1 (fun j hj => by rcases j with _ | _ | _ | _ | _ | _ | _ | _ | _ | _ | _ | j <;> first | rfl | exact absurd rfl hj) hq1
                have hO := hO.tr (mO.put (k := 2) (by decide) hz1 hq1)
                refine lv_aload_n hx hb d_M_constituent_79 rfl (lv_at hl 1 rfl) ?_
                refine va_get hx hb hts (fun w h => hT w (uM_in w h)) hown hK hM 0 rfl rfl 4 (by decide) (hts _ (hT _ k_M_16)) (fun _ h => h) rfl d_M_constituent_80 ?_
                refine lv_iload_n hx hb d_M_constituent_83 rfl (lv_at hl 2 rfl) ?_
                refine lv_lload_n hx hb d_M_constituent_84 rfl (lv_at hl 4 rfl) ?_
                refine tq_last (F := mF am) hx hb hK 1 (tm_one hM 3 rfl) rfl hi8 (by decide) ⟨3, by decide, rfl⟩ hL d_M_constituent_85 (fun H1 locs1 hP1 hz1 hq1 hL => ?_)
                rw [up_lN] at hP1
                have hM : tm D ci am (ts_spd (ts_amp g i a) i sp) (nI 0) fo sz hs mi hi tx H1 := tm_set hD hM 3 (by decide) rfl hP1 (fun j hj => by rcases j with _ | _ | _ | _ | _ | _ | _ | _ | _ | _ | _ | j <;> first | rfl | exact absurd rfl hj) hq1
                have hO := hO.tr (mO.put (k := 3) (by decide) hz1 hq1)
                refine lv_aload_n hx hb d_M_constituent_86 rfl (lv_at hl 1 rfl) ?_
                refine va_get hx hb hts (fun w h => hT w (uM_in w h)) hown hK hM 0 rfl rfl 5 (by decide) (hts _ (hT _ k_M_20)) (fun _ h => h) rfl d_M_constituent_87 ?_
                refine lv_iload_n hx hb d_M_constituent_90 rfl (lv_at hl 2 rfl) ?_
                refine lv_lload hx hb d_M_constituent_91 (lv_at hl 5 rfl) ?_
                refine tq_last (F := mF am) hx hb hK 1 (tm_one hM 4 rfl) rfl hi8 (by decide) ⟨4, by decide, rfl⟩ hL d_M_constituent_93 (fun H1 locs1 hP1 hz1 hq1 hL => ?_)
                rw [up_lN] at hP1
                have hM : tm D ci am (ts_pha (ts_spd (ts_amp g i a) i sp) i ph) (nI 0) fo sz hs mi hi tx H1 := tm_set hD hM 4 (by decide) rfl hP1 (fun j hj => by rcases j with _ | _ | _ | _ | _ | _ | _ | _ | _ | _ | _ | j <;> first | rfl | exact absurd rfl hj) hq1
                have hO := hO.tr (mO.put (k := 4) (by decide) hz1 hq1)
                exact W.vret hx hb hr (fun t ht hW => ⟨_, rfl, rfl, by rw [ht]; exact hM, by rw [ht]; exact hO⟩) hL d_M_constituent_94
              · have q7 := iv_eq0.mp q7
                rw [nI_toInt (n := 0) (by decide)] at q7
                refine lv_iconst hx hb d_M_constituent_56 (v := (nI 2)) rfl ?_
                refine lv_goto hx hb d_M_constituent_57 (tgt := 61) (by decide) ?_
                exfalso
                omega
            · have q6 := zb_f q6
              refine lv_iconst hx hb d_M_constituent_47 (v := (nI 1)) rfl ?_
              refine lv_goto hx hb d_M_constituent_48 (tgt := 61) (by decide) ?_
              exfalso
              omega
          · have q5 := zb_t q5
            refine lv_iconst hx hb d_M_constituent_32 (v := (nI 1)) rfl ?_
            refine lv_goto hx hb d_M_constituent_33 (tgt := 37) (by decide) ?_
            refine lv_istore hx hb d_M_constituent_37 hl (by decide) (lv' := [(7, .int (nI 1)), (0, .ref (am 0)), (1, .int (nI i)), (2, .int (nI a)), (3, .long (lN sp)), (5, .long (lN ph))]) rfl (fun ls hl => ?_)
            refine lv_aload_n hx hb d_M_constituent_39 rfl (lv_at hl 1 rfl) ?_
            refine lv_iload_n hx hb d_M_constituent_40 rfl (lv_at hl 2 rfl) ?_
            refine tq_S ⟨hx, hb, hml, hown, hts⟩ hT (c_M_isOne l (nI i)) lk_M_61 wN_mv trivial rfl hl.1 rfl (Nat.le_of_ble_eq_true rfl) d_M_constituent_41 ⟨rfl, rfl, Nat.le_of_ble_eq_true rfl, Nat.le_of_ble_eq_true rfl⟩ ⟨Nat.zero_le _, Nat.zero_le _⟩ ?_
            refine lv_if_ne hx hb d_M_constituent_44 (tgt := 51) (by decide) (fun q6 => ?_) (fun q6 => ?_)
            · have q6 := zb_t q6
              refine lv_iload hx hb d_M_constituent_51 (lv_at hl 0 rfl) ?_
              refine lv_if_ne hx hb d_M_constituent_53 (tgt := 60) (by decide) (fun q7 => ?_) (fun q7 => ?_)
              · have q7 := mt iv_eq0.mpr q7
                rw [nI_toInt (n := 1) (by decide)] at q7
                refine lv_iconst hx hb d_M_constituent_60 (v := (nI 0)) rfl ?_
                refine tq_put (F := mF am) hx hb hts (fun w h => hT w (uM_in w h)) tM tM_ok nM hown hK (tm_one hM 0 rfl) (ci := 1) rfl 0 (by decide) (hts _ (hT _ k_M_43)) (fun _ h => h) rfl (ty := .int) rfl rfl rfl (Nat.le_of_ble_eq_true rfl) ⟨0, by decide, rfl⟩ hL d_M_constituent_61 (fun H1 locs1 hP1 hz1 hq1 hL => ?_)
                have hM : tm D ci am g (nI 0) fo sz hs mi hi tx H1 := tm_set hD hM 0 (by decide) rfl hP1 (fun j hj => by rcases j with _ | _ | _ | _ | _ | _ | _ | _ | _ | _ | _ | j <;> first | rfl | exact absurd rfl hj) hq1
                have hO := hO.tr (mO.put (k := 0) (by decide) hz1 hq1)
                refine lv_aload_n hx hb d_M_constituent_64 rfl (lv_at hl 1 rfl) ?_
                refine va_get hx hb hts (fun w h => hT w (uM_in w h)) hown hK hM 0 rfl rfl 0 (by decide) (hts _ (hT _ k_M_43)) (fun _ h => h) rfl d_M_constituent_65 ?_
                refine lv_if_eq hx hb d_M_constituent_68 (tgt := 72) (by decide) (fun _ => ?_) (fun hno => absurd (by decide) hno)
                refine lv_aload_n hx hb d_M_constituent_72 rfl (lv_at hl 1 rfl) ?_
                refine va_get hx hb hts (fun w h => hT w (uM_in w h)) hown hK hM 0 rfl rfl 3 (by decide) (hts _ (hT _ k_M_13)) (fun _ h => h) rfl d_M_constituent_73 ?_
                refine lv_iload_n hx hb d_M_constituent_76 rfl (lv_at hl 2 rfl) ?_
                refine lv_iload_n hx hb d_M_constituent_77 rfl (lv_at hl 3 rfl) ?_
                refine tq_iast (F := mF am) hx hb hK 0 (tm_one hM 2 rfl) rfl hi8 (by decide) ⟨2, by decide, rfl⟩ hL d_M_constituent_78 (fun H1 locs1 hP1 hz1 hq1 hL => ?_)
                rw [up_nI] at hP1
                have hM : tm D ci am (ts_amp g i a) (nI 0) fo sz hs mi hi tx H1 := tm_set hD hM 2 (by decide) rfl hP1 (fun j hj => by rcases j with _ | _ | _ | _ | _ | _ | _ | _ | _ | _ | _ | j <;> first | rfl | exact absurd rfl hj) hq1
                have hO := hO.tr (mO.put (k := 2) (by decide) hz1 hq1)
                refine lv_aload_n hx hb d_M_constituent_79 rfl (lv_at hl 1 rfl) ?_
                refine va_get hx hb hts (fun w h => hT w (uM_in w h)) hown hK hM 0 rfl rfl 4 (by decide) (hts _ (hT _ k_M_16)) (fun _ h => h) rfl d_M_constituent_80 ?_
                refine lv_iload_n hx hb d_M_constituent_83 rfl (lv_at hl 2 rfl) ?_
                refine lv_lload_n hx hb d_M_constituent_84 rfl (lv_at hl 4 rfl) ?_
                refine tq_last (F := mF am) hx hb hK 1 (tm_one hM 3 rfl) rfl hi8 (by decide) ⟨3, by decide, rfl⟩ hL d_M_constituent_85 (fun H1 locs1 hP1 hz1 hq1 hL => ?_)
                rw [up_lN] at hP1
                have hM : tm D ci am (ts_spd (ts_amp g i a) i sp) (nI 0) fo sz hs mi hi tx H1 := tm_set hD hM 3 (by decide) rfl hP1 (fun j hj => by rcases j with _ | _ | _ | _ | _ | _ | _ | _ | _ | _ | _ | j <;> first | rfl | exact absurd rfl hj) hq1
                have hO := hO.tr (mO.put (k := 3) (by decide) hz1 hq1)
                refine lv_aload_n hx hb d_M_constituent_86 rfl (lv_at hl 1 rfl) ?_
                refine va_get hx hb hts (fun w h => hT w (uM_in w h)) hown hK hM 0 rfl rfl 5 (by decide) (hts _ (hT _ k_M_20)) (fun _ h => h) rfl d_M_constituent_87 ?_
                refine lv_iload_n hx hb d_M_constituent_90 rfl (lv_at hl 2 rfl) ?_
                refine lv_lload hx hb d_M_constituent_91 (lv_at hl 5 rfl) ?_
                refine tq_last (F := mF am) hx hb hK 1 (tm_one hM 4 rfl) rfl hi8 (by decide) ⟨4, by decide, rfl⟩ hL d_M_constituent_93 (fun H1 locs1 hP1 hz1 hq1 hL => ?_)
                rw [up_lN] at hP1
                have hM : tm D ci am (ts_pha (ts_spd (ts_amp g i a) i sp) i ph) (nI 0) fo sz hs mi hi tx H1 := tm_set hD hM 4 (by decide) rfl hP1 (fun j hj => by rcases j with _ | _ | _ | _ | _ | _ | _ | _ | _ | _ | _ | j <;> first | rfl | exact absurd rfl hj) hq1
                have hO := hO.tr (mO.put (k := 4) (by decide) hz1 hq1)
                exact W.vret hx hb hr (fun t ht hW => ⟨_, rfl, rfl, by rw [ht]; exact hM, by rw [ht]; exact hO⟩) hL d_M_constituent_94
              · have q7 := iv_eq0.mp q7
                rw [nI_toInt (n := 1) (by decide)] at q7
                refine lv_iconst hx hb d_M_constituent_56 (v := (nI 2)) rfl ?_
                refine lv_goto hx hb d_M_constituent_57 (tgt := 61) (by decide) ?_
                exfalso
                omega
            · have q6 := zb_f q6
              refine lv_iconst hx hb d_M_constituent_47 (v := (nI 1)) rfl ?_
              refine lv_goto hx hb d_M_constituent_48 (tgt := 61) (by decide) ?_
              exfalso
              omega
set_option maxHeartbeats 4000000 in
set_option maxRecDepth 100000 in
theorem x_M_constituentI (l : Launch) (D : va_G) (ci : Nat → ClassId) (am : Nat → Nat) (g : TS) (th fo sz : Int32) (hs mi hi tx : Nat → Int32) (u v : Int32) (x z : Int64) (hv0 : ¬ (0 ≤ u.toInt ∧ u.toInt < 8)) : Met l y_M_constituent (wT y_M_constituent b_M_constituent 8 none) (rP 1 21) (tb (wMD D ci am g th fo sz hs mi hi tx) [.ref (am 0), .int u, .int v, .long x, .long z]) (qM D ci am g (nI 1) fo sz hs mi hi tx (none)) 0 0 (mF am) := by
  refine Met.ofW (cc := b_M_constituent) (maxL := 8) (ret := none) (by decide) rfl ?_
  intro p e s m args below meth c s₁ B hml hv
  obtain ⟨rfl, hK, hg, hM, hD⟩ := hv
  have hx := B.exec
  have hb := B.bytes
  have hr := B.returns
  have hts := atoms_spec (ws := wT y_M_constituent b_M_constituent 8 none) B.pre
  have hT : ∀ w ∈ TT, w ∈ wT y_M_constituent b_M_constituent 8 none := wT_T
  have hown : s.vm.findClass RM = some m.cls := findClass_of_methodNamed B.named
  have hlocks := B.notSynchronized
  have hl := lv_entry ([.ref (am 0), .int u, .int v, .long x, .long z]) (n := 8) (Nat.le_of_ble_eq_true rfl)
  rw [lg_entry_eq]
  generalize (lg_sl ([.ref (am 0), .int u, .int v, .long x, .long z]) ++ List.replicate (8 - (lg_sl ([.ref (am 0), .int u, .int v, .long x, .long z])).length) Slot.unset).toArray = ls at hl ⊢
  have hl : lv_has ls 8 [(0, .ref (am 0)), (1, .int u), (2, .int v), (3, .long x), (5, .long z)] := hl
  have hL : ∀ q ∈ ([] : List Loc), mF am q.base := fun q hq => nomatch hq
  have hO : mO am s.heap s.heap := mO.rf
  refine lv_iload_n hx hb d_M_constituent_0 rfl (lv_at hl 2 rfl) ?_
  refine lv_if_lt hx hb d_M_constituent_1 (tgt := 36) (by decide) (fun q1 => ?_) (fun q1 => ?_)
  · have q1 := iv_lt0.mp q1
    refine lv_iconst hx hb d_M_constituent_36 (v := (nI 0)) rfl ?_
    refine lv_istore hx hb d_M_constituent_37 hl (by decide) (lv' := [(7, .int (nI 0)), (0, .ref (am 0)), (1, .int u), (2, .int v), (3, .long x), (5, .long z)]) rfl (fun ls hl => ?_)
    refine lv_aload_n hx hb d_M_constituent_39 rfl (lv_at hl 1 rfl) ?_
    refine lv_iload_n hx hb d_M_constituent_40 rfl (lv_at hl 2 rfl) ?_
    refine tq_S ⟨hx, hb, hml, hown, hts⟩ hT (c_M_isOne l u) lk_M_61 wN_mv trivial rfl hl.1 rfl (Nat.le_of_ble_eq_true rfl) d_M_constituent_41 ⟨rfl, rfl, Nat.le_of_ble_eq_true rfl, Nat.le_of_ble_eq_true rfl⟩ ⟨Nat.zero_le _, Nat.zero_le _⟩ ?_
    refine lv_if_ne hx hb d_M_constituent_44 (tgt := 51) (by decide) (fun q2 => ?_) (fun q2 => ?_)
    · have q2 := zb_t q2
      refine lv_iload hx hb d_M_constituent_51 (lv_at hl 0 rfl) ?_
      refine lv_if_ne hx hb d_M_constituent_53 (tgt := 60) (by decide) (fun q3 => ?_) (fun q3 => ?_)
      · have q3 := mt iv_eq0.mpr q3
        rw [nI_toInt (n := 0) (by decide)] at q3
        refine lv_iconst hx hb d_M_constituent_60 (v := (nI 0)) rfl ?_
        exfalso
        omega
      · have q3 := iv_eq0.mp q3
        rw [nI_toInt (n := 0) (by decide)] at q3
        refine lv_iconst hx hb d_M_constituent_56 (v := (nI 2)) rfl ?_
        refine lv_goto hx hb d_M_constituent_57 (tgt := 61) (by decide) ?_
        exfalso
        omega
    · have q2 := zb_f q2
      refine lv_iconst hx hb d_M_constituent_47 (v := (nI 1)) rfl ?_
      refine lv_goto hx hb d_M_constituent_48 (tgt := 61) (by decide) ?_
      refine tq_put (F := mF am) hx hb hts (fun w h => hT w (uM_in w h)) tM tM_ok nM hown hK (tm_one hM 0 rfl) (ci := 1) rfl 0 (by decide) (hts _ (hT _ k_M_43)) (fun _ h => h) rfl (ty := .int) rfl rfl rfl (Nat.le_of_ble_eq_true rfl) ⟨0, by decide, rfl⟩ hL d_M_constituent_61 (fun H1 locs1 hP1 hz1 hq1 hL => ?_)
      have hM : tm D ci am g (nI 1) fo sz hs mi hi tx H1 := tm_set hD hM 0 (by decide) rfl hP1 (fun j hj => by rcases j with _ | _ | _ | _ | _ | _ | _ | _ | _ | _ | _ | j <;> first | rfl | exact absurd rfl hj) hq1
      have hO := hO.tr (mO.put (k := 0) (by decide) hz1 hq1)
      refine lv_aload_n hx hb d_M_constituent_64 rfl (lv_at hl 1 rfl) ?_
      refine va_get hx hb hts (fun w h => hT w (uM_in w h)) hown hK hM 0 rfl rfl 0 (by decide) (hts _ (hT _ k_M_43)) (fun _ h => h) rfl d_M_constituent_65 ?_
      refine lv_if_eq hx hb d_M_constituent_68 (tgt := 72) (by decide) (fun hyes => absurd hyes (by decide)) (fun _ => ?_)
      exact W.vret hx hb hr (fun t ht hW => ⟨_, rfl, rfl, by rw [ht]; exact hM, by rw [ht]; exact hO⟩) hL d_M_constituent_71
  · have q1 := mt iv_lt0.mpr q1
    refine lv_iload_n hx hb d_M_constituent_4 rfl (lv_at hl 2 rfl) ?_
    refine lv_ldc hx hb (v := (nI 100000)) hown (hts _ (hT _ k_M_54)) d_M_constituent_5 ?_
    refine lv_icmp_gt hx hb d_M_constituent_7 (tgt := 36) (by decide) (fun q2 => ?_) (fun q2 => ?_)
    · have q2 := Int32.lt_iff_toInt_lt.mp q2
      rw [nI_toInt (n := 100000) (by decide)] at q2
      refine lv_iconst hx hb d_M_constituent_36 (v := (nI 0)) rfl ?_
      refine lv_istore hx hb d_M_constituent_37 hl (by decide) (lv' := [(7, .int (nI 0)), (0, .ref (am 0)), (1, .int u), (2, .int v), (3, .long x), (5, .long z)]) rfl (fun ls hl => ?_)
      refine lv_aload_n hx hb d_M_constituent_39 rfl (lv_at hl 1 rfl) ?_
      refine lv_iload_n hx hb d_M_constituent_40 rfl (lv_at hl 2 rfl) ?_
      refine tq_S ⟨hx, hb, hml, hown, hts⟩ hT (c_M_isOne l u) lk_M_61 wN_mv trivial rfl hl.1 rfl (Nat.le_of_ble_eq_true rfl) d_M_constituent_41 ⟨rfl, rfl, Nat.le_of_ble_eq_true rfl, Nat.le_of_ble_eq_true rfl⟩ ⟨Nat.zero_le _, Nat.zero_le _⟩ ?_
      refine lv_if_ne hx hb d_M_constituent_44 (tgt := 51) (by decide) (fun q3 => ?_) (fun q3 => ?_)
      · have q3 := zb_t q3
        refine lv_iload hx hb d_M_constituent_51 (lv_at hl 0 rfl) ?_
        refine lv_if_ne hx hb d_M_constituent_53 (tgt := 60) (by decide) (fun q4 => ?_) (fun q4 => ?_)
        · have q4 := mt iv_eq0.mpr q4
          rw [nI_toInt (n := 0) (by decide)] at q4
          refine lv_iconst hx hb d_M_constituent_60 (v := (nI 0)) rfl ?_
          exfalso
          omega
        · have q4 := iv_eq0.mp q4
          rw [nI_toInt (n := 0) (by decide)] at q4
          refine lv_iconst hx hb d_M_constituent_56 (v := (nI 2)) rfl ?_
          refine lv_goto hx hb d_M_constituent_57 (tgt := 61) (by decide) ?_
          exfalso
          omega
      · have q3 := zb_f q3
        refine lv_iconst hx hb d_M_constituent_47 (v := (nI 1)) rfl ?_
        refine lv_goto hx hb d_M_constituent_48 (tgt := 61) (by decide) ?_
        refine tq_put (F := mF am) hx hb hts (fun w h => hT w (uM_in w h)) tM tM_ok nM hown hK (tm_one hM 0 rfl) (ci := 1) rfl 0 (by decide) (hts _ (hT _ k_M_43)) (fun _ h => h) rfl (ty := .int) rfl rfl rfl (Nat.le_of_ble_eq_true rfl) ⟨0, by decide, rfl⟩ hL d_M_constituent_61 (fun H1 locs1 hP1 hz1 hq1 hL => ?_)
        have hM : tm D ci am g (nI 1) fo sz hs mi hi tx H1 := tm_set hD hM 0 (by decide) rfl hP1 (fun j hj => by rcases j with _ | _ | _ | _ | _ | _ | _ | _ | _ | _ | _ | j <;> first | rfl | exact absurd rfl hj) hq1
        have hO := hO.tr (mO.put (k := 0) (by decide) hz1 hq1)
        refine lv_aload_n hx hb d_M_constituent_64 rfl (lv_at hl 1 rfl) ?_
        refine va_get hx hb hts (fun w h => hT w (uM_in w h)) hown hK hM 0 rfl rfl 0 (by decide) (hts _ (hT _ k_M_43)) (fun _ h => h) rfl d_M_constituent_65 ?_
        refine lv_if_eq hx hb d_M_constituent_68 (tgt := 72) (by decide) (fun hyes => absurd hyes (by decide)) (fun _ => ?_)
        exact W.vret hx hb hr (fun t ht hW => ⟨_, rfl, rfl, by rw [ht]; exact hM, by rw [ht]; exact hO⟩) hL d_M_constituent_71
    · have q2 := mt Int32.lt_iff_toInt_lt.mpr q2
      rw [nI_toInt (n := 100000) (by decide)] at q2
      refine lv_lload_n hx hb d_M_constituent_10 rfl (lv_at hl 3 rfl) ?_
      refine lv_lconst hx hb d_M_constituent_11 (v := (lN 0)) rfl ?_
      refine W.lcmp hx hb d_M_constituent_12 ?_
      refine lv_if_lt hx hb d_M_constituent_13 (tgt := 36) (by decide) (fun q3 => ?_) (fun q3 => ?_)
      · have q3 := ((lg_cmp_lt _ _).trans Int64.lt_iff_toInt_lt).mp q3
        rw [pk_lT (n := 0) (by decide)] at q3
        refine lv_iconst hx hb d_M_constituent_36 (v := (nI 0)) rfl ?_
        refine lv_istore hx hb d_M_constituent_37 hl (by decide) (lv' := [(7, .int (nI 0)), (0, .ref (am 0)), (1, .int u), (2, .int v), (3, .long x), (5, .long z)]) rfl (fun ls hl => ?_)
        refine lv_aload_n hx hb d_M_constituent_39 rfl (lv_at hl 1 rfl) ?_
        refine lv_iload_n hx hb d_M_constituent_40 rfl (lv_at hl 2 rfl) ?_
        refine tq_S ⟨hx, hb, hml, hown, hts⟩ hT (c_M_isOne l u) lk_M_61 wN_mv trivial rfl hl.1 rfl (Nat.le_of_ble_eq_true rfl) d_M_constituent_41 ⟨rfl, rfl, Nat.le_of_ble_eq_true rfl, Nat.le_of_ble_eq_true rfl⟩ ⟨Nat.zero_le _, Nat.zero_le _⟩ ?_
        refine lv_if_ne hx hb d_M_constituent_44 (tgt := 51) (by decide) (fun q4 => ?_) (fun q4 => ?_)
        · have q4 := zb_t q4
          refine lv_iload hx hb d_M_constituent_51 (lv_at hl 0 rfl) ?_
          refine lv_if_ne hx hb d_M_constituent_53 (tgt := 60) (by decide) (fun q5 => ?_) (fun q5 => ?_)
          · have q5 := mt iv_eq0.mpr q5
            rw [nI_toInt (n := 0) (by decide)] at q5
            refine lv_iconst hx hb d_M_constituent_60 (v := (nI 0)) rfl ?_
            exfalso
            omega
          · have q5 := iv_eq0.mp q5
            rw [nI_toInt (n := 0) (by decide)] at q5
            refine lv_iconst hx hb d_M_constituent_56 (v := (nI 2)) rfl ?_
            refine lv_goto hx hb d_M_constituent_57 (tgt := 61) (by decide) ?_
            exfalso
            omega
        · have q4 := zb_f q4
          refine lv_iconst hx hb d_M_constituent_47 (v := (nI 1)) rfl ?_
          refine lv_goto hx hb d_M_constituent_48 (tgt := 61) (by decide) ?_
          refine tq_put (F := mF am) hx hb hts (fun w h => hT w (uM_in w h)) tM tM_ok nM hown hK (tm_one hM 0 rfl) (ci := 1) rfl 0 (by decide) (hts _ (hT _ k_M_43)) (fun _ h => h) rfl (ty := .int) rfl rfl rfl (Nat.le_of_ble_eq_true rfl) ⟨0, by decide, rfl⟩ hL d_M_constituent_61 (fun H1 locs1 hP1 hz1 hq1 hL => ?_)
          have hM : tm D ci am g (nI 1) fo sz hs mi hi tx H1 := tm_set hD hM 0 (by decide) rfl hP1 (fun j hj => by rcases j with _ | _ | _ | _ | _ | _ | _ | _ | _ | _ | _ | j <;> first | rfl | exact absurd rfl hj) hq1
          have hO := hO.tr (mO.put (k := 0) (by decide) hz1 hq1)
          refine lv_aload_n hx hb d_M_constituent_64 rfl (lv_at hl 1 rfl) ?_
          refine va_get hx hb hts (fun w h => hT w (uM_in w h)) hown hK hM 0 rfl rfl 0 (by decide) (hts _ (hT _ k_M_43)) (fun _ h => h) rfl d_M_constituent_65 ?_
          refine lv_if_eq hx hb d_M_constituent_68 (tgt := 72) (by decide) (fun hyes => absurd hyes (by decide)) (fun _ => ?_)
          exact W.vret hx hb hr (fun t ht hW => ⟨_, rfl, rfl, by rw [ht]; exact hM, by rw [ht]; exact hO⟩) hL d_M_constituent_71
      · have q3 := mt ((lg_cmp_lt _ _).trans Int64.lt_iff_toInt_lt).mpr q3
        rw [pk_lT (n := 0) (by decide)] at q3
        refine lv_lload_n hx hb d_M_constituent_16 rfl (lv_at hl 3 rfl) ?_
        refine lv_ldc2 hx hb (v := (lN 1099511627776)) hown (hts _ (hT _ k_M_55)) d_M_constituent_17 ?_
        refine W.lcmp hx hb d_M_constituent_20 ?_
        refine lv_if_ge hx hb d_M_constituent_21 (tgt := 36) (by decide) (fun q4 => ?_) (fun q4 => ?_)
        · have q4 := ((lg_cmp_ge _ _).trans Int64.le_iff_toInt_le).mp q4
          rw [pk_lT (n := 1099511627776) (by decide)] at q4
          refine lv_iconst hx hb d_M_constituent_36 (v := (nI 0)) rfl ?_
          refine lv_istore hx hb d_M_constituent_37 hl (by decide) (lv' := [(7, .int (nI 0)), (0, .ref (am 0)), (1, .int u), (2, .int v), (3, .long x), (5, .long z)]) rfl (fun ls hl => ?_)
          refine lv_aload_n hx hb d_M_constituent_39 rfl (lv_at hl 1 rfl) ?_
          refine lv_iload_n hx hb d_M_constituent_40 rfl (lv_at hl 2 rfl) ?_
          refine tq_S ⟨hx, hb, hml, hown, hts⟩ hT (c_M_isOne l u) lk_M_61 wN_mv trivial rfl hl.1 rfl (Nat.le_of_ble_eq_true rfl) d_M_constituent_41 ⟨rfl, rfl, Nat.le_of_ble_eq_true rfl, Nat.le_of_ble_eq_true rfl⟩ ⟨Nat.zero_le _, Nat.zero_le _⟩ ?_
          refine lv_if_ne hx hb d_M_constituent_44 (tgt := 51) (by decide) (fun q5 => ?_) (fun q5 => ?_)
          · have q5 := zb_t q5
            refine lv_iload hx hb d_M_constituent_51 (lv_at hl 0 rfl) ?_
            refine lv_if_ne hx hb d_M_constituent_53 (tgt := 60) (by decide) (fun q6 => ?_) (fun q6 => ?_)
            · have q6 := mt iv_eq0.mpr q6
              rw [nI_toInt (n := 0) (by decide)] at q6
              refine lv_iconst hx hb d_M_constituent_60 (v := (nI 0)) rfl ?_
              exfalso
              omega
            · have q6 := iv_eq0.mp q6
              rw [nI_toInt (n := 0) (by decide)] at q6
              refine lv_iconst hx hb d_M_constituent_56 (v := (nI 2)) rfl ?_
              refine lv_goto hx hb d_M_constituent_57 (tgt := 61) (by decide) ?_
              exfalso
              omega
          · have q5 := zb_f q5
            refine lv_iconst hx hb d_M_constituent_47 (v := (nI 1)) rfl ?_
            refine lv_goto hx hb d_M_constituent_48 (tgt := 61) (by decide) ?_
            refine tq_put (F := mF am) hx hb hts (fun w h => hT w (uM_in w h)) tM tM_ok nM hown hK (tm_one hM 0 rfl) (ci := 1) rfl 0 (by decide) (hts _ (hT _ k_M_43)) (fun _ h => h) rfl (ty := .int) rfl rfl rfl (Nat.le_of_ble_eq_true rfl) ⟨0, by decide, rfl⟩ hL d_M_constituent_61 (fun H1 locs1 hP1 hz1 hq1 hL => ?_)
            have hM : tm D ci am g (nI 1) fo sz hs mi hi tx H1 := tm_set hD hM 0 (by decide) rfl hP1 (fun j hj => by rcases j with _ | _ | _ | _ | _ | _ | _ | _ | _ | _ | _ | j <;> first | rfl | exact absurd rfl hj) hq1
            have hO := hO.tr (mO.put (k := 0) (by decide) hz1 hq1)
            refine lv_aload_n hx hb d_M_constituent_64 rfl (lv_at hl 1 rfl) ?_
            refine va_get hx hb hts (fun w h => hT w (uM_in w h)) hown hK hM 0 rfl rfl 0 (by decide) (hts _ (hT _ k_M_43)) (fun _ h => h) rfl d_M_constituent_65 ?_
            refine lv_if_eq hx hb d_M_constituent_68 (tgt := 72) (by decide) (fun hyes => absurd hyes (by decide)) (fun _ => ?_)
            exact W.vret hx hb hr (fun t ht hW => ⟨_, rfl, rfl, by rw [ht]; exact hM, by rw [ht]; exact hO⟩) hL d_M_constituent_71
        · have q4 := mt ((lg_cmp_ge _ _).trans Int64.le_iff_toInt_le).mpr q4
          rw [pk_lT (n := 1099511627776) (by decide)] at q4
          refine lv_lload hx hb d_M_constituent_24 (lv_at hl 4 rfl) ?_
          refine tq_S ⟨hx, hb, hml, hown, hts⟩ hT (c_M_isTurn l z) lk_M_57 wN_mv trivial rfl hl.1 rfl (Nat.le_of_ble_eq_true rfl) d_M_constituent_26 ⟨rfl, rfl, Nat.le_of_ble_eq_true rfl, Nat.le_of_ble_eq_true rfl⟩ ⟨Nat.zero_le _, Nat.zero_le _⟩ ?_
          refine lv_if_eq hx hb d_M_constituent_29 (tgt := 36) (by decide) (fun q5 => ?_) (fun q5 => ?_)
          · have q5 := zb_f q5
            refine lv_iconst hx hb d_M_constituent_36 (v := (nI 0)) rfl ?_
            refine lv_istore hx hb d_M_constituent_37 hl (by decide) (lv' := [(7, .int (nI 0)), (0, .ref (am 0)), (1, .int u), (2, .int v), (3, .long x), (5, .long z)]) rfl (fun ls hl => ?_)
            refine lv_aload_n hx hb d_M_constituent_39 rfl (lv_at hl 1 rfl) ?_
            refine lv_iload_n hx hb d_M_constituent_40 rfl (lv_at hl 2 rfl) ?_
            refine tq_S ⟨hx, hb, hml, hown, hts⟩ hT (c_M_isOne l u) lk_M_61 wN_mv trivial rfl hl.1 rfl (Nat.le_of_ble_eq_true rfl) d_M_constituent_41 ⟨rfl, rfl, Nat.le_of_ble_eq_true rfl, Nat.le_of_ble_eq_true rfl⟩ ⟨Nat.zero_le _, Nat.zero_le _⟩ ?_
            refine lv_if_ne hx hb d_M_constituent_44 (tgt := 51) (by decide) (fun q6 => ?_) (fun q6 => ?_)
            · have q6 := zb_t q6
              refine lv_iload hx hb d_M_constituent_51 (lv_at hl 0 rfl) ?_
              refine lv_if_ne hx hb d_M_constituent_53 (tgt := 60) (by decide) (fun q7 => ?_) (fun q7 => ?_)
              · have q7 := mt iv_eq0.mpr q7
                rw [nI_toInt (n := 0) (by decide)] at q7
                refine lv_iconst hx hb d_M_constituent_60 (v := (nI 0)) rfl ?_
                exfalso
                omega
              · have q7 := iv_eq0.mp q7
                rw [nI_toInt (n := 0) (by decide)] at q7
                refine lv_iconst hx hb d_M_constituent_56 (v := (nI 2)) rfl ?_
                refine lv_goto hx hb d_M_constituent_57 (tgt := 61) (by decide) ?_
                exfalso
                omega
            · have q6 := zb_f q6
              refine lv_iconst hx hb d_M_constituent_47 (v := (nI 1)) rfl ?_
              refine lv_goto hx hb d_M_constituent_48 (tgt := 61) (by decide) ?_
              refine tq_put (F := mF am) hx hb hts (fun w h => hT w (uM_in w h)) tM tM_ok nM hown hK (tm_one hM 0 rfl) (ci := 1) rfl 0 (by decide) (hts _ (hT _ k_M_43)) (fun _ h => h) rfl (ty := .int) rfl rfl rfl (Nat.le_of_ble_eq_true rfl) ⟨0, by decide, rfl⟩ hL d_M_constituent_61 (fun H1 locs1 hP1 hz1 hq1 hL => ?_)
              have hM : tm D ci am g (nI 1) fo sz hs mi hi tx H1 := tm_set hD hM 0 (by decide) rfl hP1 (fun j hj => by rcases j with _ | _ | _ | _ | _ | _ | _ | _ | _ | _ | _ | j <;> first | rfl | exact absurd rfl hj) hq1
              have hO := hO.tr (mO.put (k := 0) (by decide) hz1 hq1)
              refine lv_aload_n hx hb d_M_constituent_64 rfl (lv_at hl 1 rfl) ?_
              refine va_get hx hb hts (fun w h => hT w (uM_in w h)) hown hK hM 0 rfl rfl 0 (by decide) (hts _ (hT _ k_M_43)) (fun _ h => h) rfl d_M_constituent_65 ?_
              refine lv_if_eq hx hb d_M_constituent_68 (tgt := 72) (by decide) (fun hyes => absurd hyes (by decide)) (fun _ => ?_)
              exact W.vret hx hb hr (fun t ht hW => ⟨_, rfl, rfl, by rw [ht]; exact hM, by rw [ht]; exact hO⟩) hL d_M_constituent_71
          · have q5 := zb_t q5
            refine lv_iconst hx hb d_M_constituent_32 (v := (nI 1)) rfl ?_
            refine lv_goto hx hb d_M_constituent_33 (tgt := 37) (by decide) ?_
            refine lv_istore hx hb d_M_constituent_37 hl (by decide) (lv' := [(7, .int (nI 1)), (0, .ref (am 0)), (1, .int u), (2, .int v), (3, .long x), (5, .long z)]) rfl (fun ls hl => ?_)
            refine lv_aload_n hx hb d_M_constituent_39 rfl (lv_at hl 1 rfl) ?_
            refine lv_iload_n hx hb d_M_constituent_40 rfl (lv_at hl 2 rfl) ?_
            refine tq_S ⟨hx, hb, hml, hown, hts⟩ hT (c_M_isOne l u) lk_M_61 wN_mv trivial rfl hl.1 rfl (Nat.le_of_ble_eq_true rfl) d_M_constituent_41 ⟨rfl, rfl, Nat.le_of_ble_eq_true rfl, Nat.le_of_ble_eq_true rfl⟩ ⟨Nat.zero_le _, Nat.zero_le _⟩ ?_
            refine lv_if_ne hx hb d_M_constituent_44 (tgt := 51) (by decide) (fun q6 => ?_) (fun q6 => ?_)
            · have q6 := zb_t q6
              refine lv_iload hx hb d_M_constituent_51 (lv_at hl 0 rfl) ?_
              refine lv_if_ne hx hb d_M_constituent_53 (tgt := 60) (by decide) (fun q7 => ?_) (fun q7 => ?_)
              · have q7 := mt iv_eq0.mpr q7
                rw [nI_toInt (n := 1) (by decide)] at q7
                refine lv_iconst hx hb d_M_constituent_60 (v := (nI 0)) rfl ?_
                exfalso
                omega
              · have q7 := iv_eq0.mp q7
                rw [nI_toInt (n := 1) (by decide)] at q7
                refine lv_iconst hx hb d_M_constituent_56 (v := (nI 2)) rfl ?_
                refine lv_goto hx hb d_M_constituent_57 (tgt := 61) (by decide) ?_
                exfalso
                omega
            · have q6 := zb_f q6
              refine lv_iconst hx hb d_M_constituent_47 (v := (nI 1)) rfl ?_
              refine lv_goto hx hb d_M_constituent_48 (tgt := 61) (by decide) ?_
              refine tq_put (F := mF am) hx hb hts (fun w h => hT w (uM_in w h)) tM tM_ok nM hown hK (tm_one hM 0 rfl) (ci := 1) rfl 0 (by decide) (hts _ (hT _ k_M_43)) (fun _ h => h) rfl (ty := .int) rfl rfl rfl (Nat.le_of_ble_eq_true rfl) ⟨0, by decide, rfl⟩ hL d_M_constituent_61 (fun H1 locs1 hP1 hz1 hq1 hL => ?_)
              have hM : tm D ci am g (nI 1) fo sz hs mi hi tx H1 := tm_set hD hM 0 (by decide) rfl hP1 (fun j hj => by rcases j with _ | _ | _ | _ | _ | _ | _ | _ | _ | _ | _ | j <;> first | rfl | exact absurd rfl hj) hq1
              have hO := hO.tr (mO.put (k := 0) (by decide) hz1 hq1)
              refine lv_aload_n hx hb d_M_constituent_64 rfl (lv_at hl 1 rfl) ?_
              refine va_get hx hb hts (fun w h => hT w (uM_in w h)) hown hK hM 0 rfl rfl 0 (by decide) (hts _ (hT _ k_M_43)) (fun _ h => h) rfl d_M_constituent_65 ?_
              refine lv_if_eq hx hb d_M_constituent_68 (tgt := 72) (by decide) (fun hyes => absurd hyes (by decide)) (fun _ => ?_)
              exact W.vret hx hb hr (fun t ht hW => ⟨_, rfl, rfl, by rw [ht]; exact hM, by rw [ht]; exact hO⟩) hL d_M_constituent_71
set_option maxHeartbeats 4000000 in
set_option maxRecDepth 100000 in
theorem x_M_constituentA (l : Launch) (D : va_G) (ci : Nat → ClassId) (am : Nat → Nat) (g : TS) (th fo sz : Int32) (hs mi hi tx : Nat → Int32) (u v : Int32) (x z : Int64) (hv1 : 0 ≤ u.toInt ∧ u.toInt < 8) (hv0 : ¬ ((0 ≤ v.toInt ∧ v.toInt ≤ 100000) ∧ (0 ≤ x.toInt ∧ x.toInt < 1099511627776) ∧ 0 ≤ z.toInt ∧ z.toInt < 281474976710656)) : Met l y_M_constituent (wT y_M_constituent b_M_constituent 8 none) (rP 1 21) (tb (wMD D ci am g th fo sz hs mi hi tx) [.ref (am 0), .int u, .int v, .long x, .long z]) (qM D ci am g (nI 2) fo sz hs mi hi tx (none)) 0 0 (mF am) := by
  refine Met.ofW (cc := b_M_constituent) (maxL := 8) (ret := none) (by decide) rfl ?_
  intro p e s m args below meth c s₁ B hml hv
  obtain ⟨rfl, hK, hg, hM, hD⟩ := hv
  have hx := B.exec
  have hb := B.bytes
  have hr := B.returns
  have hts := atoms_spec (ws := wT y_M_constituent b_M_constituent 8 none) B.pre
  have hT : ∀ w ∈ TT, w ∈ wT y_M_constituent b_M_constituent 8 none := wT_T
  have hown : s.vm.findClass RM = some m.cls := findClass_of_methodNamed B.named
  have hlocks := B.notSynchronized
  have hl := lv_entry ([.ref (am 0), .int u, .int v, .long x, .long z]) (n := 8) (Nat.le_of_ble_eq_true rfl)
  rw [lg_entry_eq]
  generalize (lg_sl ([.ref (am 0), .int u, .int v, .long x, .long z]) ++ List.replicate (8 - (lg_sl ([.ref (am 0), .int u, .int v, .long x, .long z])).length) Slot.unset).toArray = ls at hl ⊢
  have hl : lv_has ls 8 [(0, .ref (am 0)), (1, .int u), (2, .int v), (3, .long x), (5, .long z)] := hl
  have hL : ∀ q ∈ ([] : List Loc), mF am q.base := fun q hq => nomatch hq
  have hO : mO am s.heap s.heap := mO.rf
  refine lv_iload_n hx hb d_M_constituent_0 rfl (lv_at hl 2 rfl) ?_
  refine lv_if_lt hx hb d_M_constituent_1 (tgt := 36) (by decide) (fun q1 => ?_) (fun q1 => ?_)
  · have q1 := iv_lt0.mp q1
    refine lv_iconst hx hb d_M_constituent_36 (v := (nI 0)) rfl ?_
    refine lv_istore hx hb d_M_constituent_37 hl (by decide) (lv' := [(7, .int (nI 0)), (0, .ref (am 0)), (1, .int u), (2, .int v), (3, .long x), (5, .long z)]) rfl (fun ls hl => ?_)
    refine lv_aload_n hx hb d_M_constituent_39 rfl (lv_at hl 1 rfl) ?_
    refine lv_iload_n hx hb d_M_constituent_40 rfl (lv_at hl 2 rfl) ?_
    refine tq_S ⟨hx, hb, hml, hown, hts⟩ hT (c_M_isOne l u) lk_M_61 wN_mv trivial rfl hl.1 rfl (Nat.le_of_ble_eq_true rfl) d_M_constituent_41 ⟨rfl, rfl, Nat.le_of_ble_eq_true rfl, Nat.le_of_ble_eq_true rfl⟩ ⟨Nat.zero_le _, Nat.zero_le _⟩ ?_
    refine lv_if_ne hx hb d_M_constituent_44 (tgt := 51) (by decide) (fun q2 => ?_) (fun q2 => ?_)
    · have q2 := zb_t q2
      refine lv_iload hx hb d_M_constituent_51 (lv_at hl 0 rfl) ?_
      refine lv_if_ne hx hb d_M_constituent_53 (tgt := 60) (by decide) (fun q3 => ?_) (fun q3 => ?_)
      · have q3 := mt iv_eq0.mpr q3
        rw [nI_toInt (n := 0) (by decide)] at q3
        refine lv_iconst hx hb d_M_constituent_60 (v := (nI 0)) rfl ?_
        exfalso
        omega
      · have q3 := iv_eq0.mp q3
        rw [nI_toInt (n := 0) (by decide)] at q3
        refine lv_iconst hx hb d_M_constituent_56 (v := (nI 2)) rfl ?_
        refine lv_goto hx hb d_M_constituent_57 (tgt := 61) (by decide) ?_
        refine tq_put (F := mF am) hx hb hts (fun w h => hT w (uM_in w h)) tM tM_ok nM hown hK (tm_one hM 0 rfl) (ci := 1) rfl 0 (by decide) (hts _ (hT _ k_M_43)) (fun _ h => h) rfl (ty := .int) rfl rfl rfl (Nat.le_of_ble_eq_true rfl) ⟨0, by decide, rfl⟩ hL d_M_constituent_61 (fun H1 locs1 hP1 hz1 hq1 hL => ?_)
        have hM : tm D ci am g (nI 2) fo sz hs mi hi tx H1 := tm_set hD hM 0 (by decide) rfl hP1 (fun j hj => by rcases j with _ | _ | _ | _ | _ | _ | _ | _ | _ | _ | _ | j <;> first | rfl | exact absurd rfl hj) hq1
        have hO := hO.tr (mO.put (k := 0) (by decide) hz1 hq1)
        refine lv_aload_n hx hb d_M_constituent_64 rfl (lv_at hl 1 rfl) ?_
        refine va_get hx hb hts (fun w h => hT w (uM_in w h)) hown hK hM 0 rfl rfl 0 (by decide) (hts _ (hT _ k_M_43)) (fun _ h => h) rfl d_M_constituent_65 ?_
        refine lv_if_eq hx hb d_M_constituent_68 (tgt := 72) (by decide) (fun hyes => absurd hyes (by decide)) (fun _ => ?_)
        exact W.vret hx hb hr (fun t ht hW => ⟨_, rfl, rfl, by rw [ht]; exact hM, by rw [ht]; exact hO⟩) hL d_M_constituent_71
    · have q2 := zb_f q2
      refine lv_iconst hx hb d_M_constituent_47 (v := (nI 1)) rfl ?_
      refine lv_goto hx hb d_M_constituent_48 (tgt := 61) (by decide) ?_
      exfalso
      omega
  · have q1 := mt iv_lt0.mpr q1
    refine lv_iload_n hx hb d_M_constituent_4 rfl (lv_at hl 2 rfl) ?_
    refine lv_ldc hx hb (v := (nI 100000)) hown (hts _ (hT _ k_M_54)) d_M_constituent_5 ?_
    refine lv_icmp_gt hx hb d_M_constituent_7 (tgt := 36) (by decide) (fun q2 => ?_) (fun q2 => ?_)
    · have q2 := Int32.lt_iff_toInt_lt.mp q2
      rw [nI_toInt (n := 100000) (by decide)] at q2
      refine lv_iconst hx hb d_M_constituent_36 (v := (nI 0)) rfl ?_
      refine lv_istore hx hb d_M_constituent_37 hl (by decide) (lv' := [(7, .int (nI 0)), (0, .ref (am 0)), (1, .int u), (2, .int v), (3, .long x), (5, .long z)]) rfl (fun ls hl => ?_)
      refine lv_aload_n hx hb d_M_constituent_39 rfl (lv_at hl 1 rfl) ?_
      refine lv_iload_n hx hb d_M_constituent_40 rfl (lv_at hl 2 rfl) ?_
      refine tq_S ⟨hx, hb, hml, hown, hts⟩ hT (c_M_isOne l u) lk_M_61 wN_mv trivial rfl hl.1 rfl (Nat.le_of_ble_eq_true rfl) d_M_constituent_41 ⟨rfl, rfl, Nat.le_of_ble_eq_true rfl, Nat.le_of_ble_eq_true rfl⟩ ⟨Nat.zero_le _, Nat.zero_le _⟩ ?_
      refine lv_if_ne hx hb d_M_constituent_44 (tgt := 51) (by decide) (fun q3 => ?_) (fun q3 => ?_)
      · have q3 := zb_t q3
        refine lv_iload hx hb d_M_constituent_51 (lv_at hl 0 rfl) ?_
        refine lv_if_ne hx hb d_M_constituent_53 (tgt := 60) (by decide) (fun q4 => ?_) (fun q4 => ?_)
        · have q4 := mt iv_eq0.mpr q4
          rw [nI_toInt (n := 0) (by decide)] at q4
          refine lv_iconst hx hb d_M_constituent_60 (v := (nI 0)) rfl ?_
          exfalso
          omega
        · have q4 := iv_eq0.mp q4
          rw [nI_toInt (n := 0) (by decide)] at q4
          refine lv_iconst hx hb d_M_constituent_56 (v := (nI 2)) rfl ?_
          refine lv_goto hx hb d_M_constituent_57 (tgt := 61) (by decide) ?_
          refine tq_put (F := mF am) hx hb hts (fun w h => hT w (uM_in w h)) tM tM_ok nM hown hK (tm_one hM 0 rfl) (ci := 1) rfl 0 (by decide) (hts _ (hT _ k_M_43)) (fun _ h => h) rfl (ty := .int) rfl rfl rfl (Nat.le_of_ble_eq_true rfl) ⟨0, by decide, rfl⟩ hL d_M_constituent_61 (fun H1 locs1 hP1 hz1 hq1 hL => ?_)
          have hM : tm D ci am g (nI 2) fo sz hs mi hi tx H1 := tm_set hD hM 0 (by decide) rfl hP1 (fun j hj => by rcases j with _ | _ | _ | _ | _ | _ | _ | _ | _ | _ | _ | j <;> first | rfl | exact absurd rfl hj) hq1
          have hO := hO.tr (mO.put (k := 0) (by decide) hz1 hq1)
          refine lv_aload_n hx hb d_M_constituent_64 rfl (lv_at hl 1 rfl) ?_
          refine va_get hx hb hts (fun w h => hT w (uM_in w h)) hown hK hM 0 rfl rfl 0 (by decide) (hts _ (hT _ k_M_43)) (fun _ h => h) rfl d_M_constituent_65 ?_
          refine lv_if_eq hx hb d_M_constituent_68 (tgt := 72) (by decide) (fun hyes => absurd hyes (by decide)) (fun _ => ?_)
          exact W.vret hx hb hr (fun t ht hW => ⟨_, rfl, rfl, by rw [ht]; exact hM, by rw [ht]; exact hO⟩) hL d_M_constituent_71
      · have q3 := zb_f q3
        refine lv_iconst hx hb d_M_constituent_47 (v := (nI 1)) rfl ?_
        refine lv_goto hx hb d_M_constituent_48 (tgt := 61) (by decide) ?_
        exfalso
        omega
    · have q2 := mt Int32.lt_iff_toInt_lt.mpr q2
      rw [nI_toInt (n := 100000) (by decide)] at q2
      refine lv_lload_n hx hb d_M_constituent_10 rfl (lv_at hl 3 rfl) ?_
      refine lv_lconst hx hb d_M_constituent_11 (v := (lN 0)) rfl ?_
      refine W.lcmp hx hb d_M_constituent_12 ?_
      refine lv_if_lt hx hb d_M_constituent_13 (tgt := 36) (by decide) (fun q3 => ?_) (fun q3 => ?_)
      · have q3 := ((lg_cmp_lt _ _).trans Int64.lt_iff_toInt_lt).mp q3
        rw [pk_lT (n := 0) (by decide)] at q3
        refine lv_iconst hx hb d_M_constituent_36 (v := (nI 0)) rfl ?_
        refine lv_istore hx hb d_M_constituent_37 hl (by decide) (lv' := [(7, .int (nI 0)), (0, .ref (am 0)), (1, .int u), (2, .int v), (3, .long x), (5, .long z)]) rfl (fun ls hl => ?_)
        refine lv_aload_n hx hb d_M_constituent_39 rfl (lv_at hl 1 rfl) ?_
        refine lv_iload_n hx hb d_M_constituent_40 rfl (lv_at hl 2 rfl) ?_
        refine tq_S ⟨hx, hb, hml, hown, hts⟩ hT (c_M_isOne l u) lk_M_61 wN_mv trivial rfl hl.1 rfl (Nat.le_of_ble_eq_true rfl) d_M_constituent_41 ⟨rfl, rfl, Nat.le_of_ble_eq_true rfl, Nat.le_of_ble_eq_true rfl⟩ ⟨Nat.zero_le _, Nat.zero_le _⟩ ?_
        refine lv_if_ne hx hb d_M_constituent_44 (tgt := 51) (by decide) (fun q4 => ?_) (fun q4 => ?_)
        · have q4 := zb_t q4
          refine lv_iload hx hb d_M_constituent_51 (lv_at hl 0 rfl) ?_
          refine lv_if_ne hx hb d_M_constituent_53 (tgt := 60) (by decide) (fun q5 => ?_) (fun q5 => ?_)
          · have q5 := mt iv_eq0.mpr q5
            rw [nI_toInt (n := 0) (by decide)] at q5
            refine lv_iconst hx hb d_M_constituent_60 (v := (nI 0)) rfl ?_
            exfalso
            omega
          · have q5 := iv_eq0.mp q5
            rw [nI_toInt (n := 0) (by decide)] at q5
            refine lv_iconst hx hb d_M_constituent_56 (v := (nI 2)) rfl ?_
            refine lv_goto hx hb d_M_constituent_57 (tgt := 61) (by decide) ?_
            refine tq_put (F := mF am) hx hb hts (fun w h => hT w (uM_in w h)) tM tM_ok nM hown hK (tm_one hM 0 rfl) (ci := 1) rfl 0 (by decide) (hts _ (hT _ k_M_43)) (fun _ h => h) rfl (ty := .int) rfl rfl rfl (Nat.le_of_ble_eq_true rfl) ⟨0, by decide, rfl⟩ hL d_M_constituent_61 (fun H1 locs1 hP1 hz1 hq1 hL => ?_)
            have hM : tm D ci am g (nI 2) fo sz hs mi hi tx H1 := tm_set hD hM 0 (by decide) rfl hP1 (fun j hj => by rcases j with _ | _ | _ | _ | _ | _ | _ | _ | _ | _ | _ | j <;> first | rfl | exact absurd rfl hj) hq1
            have hO := hO.tr (mO.put (k := 0) (by decide) hz1 hq1)
            refine lv_aload_n hx hb d_M_constituent_64 rfl (lv_at hl 1 rfl) ?_
            refine va_get hx hb hts (fun w h => hT w (uM_in w h)) hown hK hM 0 rfl rfl 0 (by decide) (hts _ (hT _ k_M_43)) (fun _ h => h) rfl d_M_constituent_65 ?_
            refine lv_if_eq hx hb d_M_constituent_68 (tgt := 72) (by decide) (fun hyes => absurd hyes (by decide)) (fun _ => ?_)
            exact W.vret hx hb hr (fun t ht hW => ⟨_, rfl, rfl, by rw [ht]; exact hM, by rw [ht]; exact hO⟩) hL d_M_constituent_71
        · have q4 := zb_f q4
          refine lv_iconst hx hb d_M_constituent_47 (v := (nI 1)) rfl ?_
          refine lv_goto hx hb d_M_constituent_48 (tgt := 61) (by decide) ?_
          exfalso
          omega
      · have q3 := mt ((lg_cmp_lt _ _).trans Int64.lt_iff_toInt_lt).mpr q3
        rw [pk_lT (n := 0) (by decide)] at q3
        refine lv_lload_n hx hb d_M_constituent_16 rfl (lv_at hl 3 rfl) ?_
        refine lv_ldc2 hx hb (v := (lN 1099511627776)) hown (hts _ (hT _ k_M_55)) d_M_constituent_17 ?_
        refine W.lcmp hx hb d_M_constituent_20 ?_
        refine lv_if_ge hx hb d_M_constituent_21 (tgt := 36) (by decide) (fun q4 => ?_) (fun q4 => ?_)
        · have q4 := ((lg_cmp_ge _ _).trans Int64.le_iff_toInt_le).mp q4
          rw [pk_lT (n := 1099511627776) (by decide)] at q4
          refine lv_iconst hx hb d_M_constituent_36 (v := (nI 0)) rfl ?_
          refine lv_istore hx hb d_M_constituent_37 hl (by decide) (lv' := [(7, .int (nI 0)), (0, .ref (am 0)), (1, .int u), (2, .int v), (3, .long x), (5, .long z)]) rfl (fun ls hl => ?_)
          refine lv_aload_n hx hb d_M_constituent_39 rfl (lv_at hl 1 rfl) ?_
          refine lv_iload_n hx hb d_M_constituent_40 rfl (lv_at hl 2 rfl) ?_
          refine tq_S ⟨hx, hb, hml, hown, hts⟩ hT (c_M_isOne l u) lk_M_61 wN_mv trivial rfl hl.1 rfl (Nat.le_of_ble_eq_true rfl) d_M_constituent_41 ⟨rfl, rfl, Nat.le_of_ble_eq_true rfl, Nat.le_of_ble_eq_true rfl⟩ ⟨Nat.zero_le _, Nat.zero_le _⟩ ?_
          refine lv_if_ne hx hb d_M_constituent_44 (tgt := 51) (by decide) (fun q5 => ?_) (fun q5 => ?_)
          · have q5 := zb_t q5
            refine lv_iload hx hb d_M_constituent_51 (lv_at hl 0 rfl) ?_
            refine lv_if_ne hx hb d_M_constituent_53 (tgt := 60) (by decide) (fun q6 => ?_) (fun q6 => ?_)
            · have q6 := mt iv_eq0.mpr q6
              rw [nI_toInt (n := 0) (by decide)] at q6
              refine lv_iconst hx hb d_M_constituent_60 (v := (nI 0)) rfl ?_
              exfalso
              omega
            · have q6 := iv_eq0.mp q6
              rw [nI_toInt (n := 0) (by decide)] at q6
              refine lv_iconst hx hb d_M_constituent_56 (v := (nI 2)) rfl ?_
              refine lv_goto hx hb d_M_constituent_57 (tgt := 61) (by decide) ?_
              refine tq_put (F := mF am) hx hb hts (fun w h => hT w (uM_in w h)) tM tM_ok nM hown hK (tm_one hM 0 rfl) (ci := 1) rfl 0 (by decide) (hts _ (hT _ k_M_43)) (fun _ h => h) rfl (ty := .int) rfl rfl rfl (Nat.le_of_ble_eq_true rfl) ⟨0, by decide, rfl⟩ hL d_M_constituent_61 (fun H1 locs1 hP1 hz1 hq1 hL => ?_)
              have hM : tm D ci am g (nI 2) fo sz hs mi hi tx H1 := tm_set hD hM 0 (by decide) rfl hP1 (fun j hj => by rcases j with _ | _ | _ | _ | _ | _ | _ | _ | _ | _ | _ | j <;> first | rfl | exact absurd rfl hj) hq1
              have hO := hO.tr (mO.put (k := 0) (by decide) hz1 hq1)
              refine lv_aload_n hx hb d_M_constituent_64 rfl (lv_at hl 1 rfl) ?_
              refine va_get hx hb hts (fun w h => hT w (uM_in w h)) hown hK hM 0 rfl rfl 0 (by decide) (hts _ (hT _ k_M_43)) (fun _ h => h) rfl d_M_constituent_65 ?_
              refine lv_if_eq hx hb d_M_constituent_68 (tgt := 72) (by decide) (fun hyes => absurd hyes (by decide)) (fun _ => ?_)
              exact W.vret hx hb hr (fun t ht hW => ⟨_, rfl, rfl, by rw [ht]; exact hM, by rw [ht]; exact hO⟩) hL d_M_constituent_71
          · have q5 := zb_f q5
            refine lv_iconst hx hb d_M_constituent_47 (v := (nI 1)) rfl ?_
            refine lv_goto hx hb d_M_constituent_48 (tgt := 61) (by decide) ?_
            exfalso
            omega
        · have q4 := mt ((lg_cmp_ge _ _).trans Int64.le_iff_toInt_le).mpr q4
          rw [pk_lT (n := 1099511627776) (by decide)] at q4
          refine lv_lload hx hb d_M_constituent_24 (lv_at hl 4 rfl) ?_
          refine tq_S ⟨hx, hb, hml, hown, hts⟩ hT (c_M_isTurn l z) lk_M_57 wN_mv trivial rfl hl.1 rfl (Nat.le_of_ble_eq_true rfl) d_M_constituent_26 ⟨rfl, rfl, Nat.le_of_ble_eq_true rfl, Nat.le_of_ble_eq_true rfl⟩ ⟨Nat.zero_le _, Nat.zero_le _⟩ ?_
          refine lv_if_eq hx hb d_M_constituent_29 (tgt := 36) (by decide) (fun q5 => ?_) (fun q5 => ?_)
          · have q5 := zb_f q5
            refine lv_iconst hx hb d_M_constituent_36 (v := (nI 0)) rfl ?_
            refine lv_istore hx hb d_M_constituent_37 hl (by decide) (lv' := [(7, .int (nI 0)), (0, .ref (am 0)), (1, .int u), (2, .int v), (3, .long x), (5, .long z)]) rfl (fun ls hl => ?_)
            refine lv_aload_n hx hb d_M_constituent_39 rfl (lv_at hl 1 rfl) ?_
            refine lv_iload_n hx hb d_M_constituent_40 rfl (lv_at hl 2 rfl) ?_
            refine tq_S ⟨hx, hb, hml, hown, hts⟩ hT (c_M_isOne l u) lk_M_61 wN_mv trivial rfl hl.1 rfl (Nat.le_of_ble_eq_true rfl) d_M_constituent_41 ⟨rfl, rfl, Nat.le_of_ble_eq_true rfl, Nat.le_of_ble_eq_true rfl⟩ ⟨Nat.zero_le _, Nat.zero_le _⟩ ?_
            refine lv_if_ne hx hb d_M_constituent_44 (tgt := 51) (by decide) (fun q6 => ?_) (fun q6 => ?_)
            · have q6 := zb_t q6
              refine lv_iload hx hb d_M_constituent_51 (lv_at hl 0 rfl) ?_
              refine lv_if_ne hx hb d_M_constituent_53 (tgt := 60) (by decide) (fun q7 => ?_) (fun q7 => ?_)
              · have q7 := mt iv_eq0.mpr q7
                rw [nI_toInt (n := 0) (by decide)] at q7
                refine lv_iconst hx hb d_M_constituent_60 (v := (nI 0)) rfl ?_
                exfalso
                omega
              · have q7 := iv_eq0.mp q7
                rw [nI_toInt (n := 0) (by decide)] at q7
                refine lv_iconst hx hb d_M_constituent_56 (v := (nI 2)) rfl ?_
                refine lv_goto hx hb d_M_constituent_57 (tgt := 61) (by decide) ?_
                refine tq_put (F := mF am) hx hb hts (fun w h => hT w (uM_in w h)) tM tM_ok nM hown hK (tm_one hM 0 rfl) (ci := 1) rfl 0 (by decide) (hts _ (hT _ k_M_43)) (fun _ h => h) rfl (ty := .int) rfl rfl rfl (Nat.le_of_ble_eq_true rfl) ⟨0, by decide, rfl⟩ hL d_M_constituent_61 (fun H1 locs1 hP1 hz1 hq1 hL => ?_)
                have hM : tm D ci am g (nI 2) fo sz hs mi hi tx H1 := tm_set hD hM 0 (by decide) rfl hP1 (fun j hj => by rcases j with _ | _ | _ | _ | _ | _ | _ | _ | _ | _ | _ | j <;> first | rfl | exact absurd rfl hj) hq1
                have hO := hO.tr (mO.put (k := 0) (by decide) hz1 hq1)
                refine lv_aload_n hx hb d_M_constituent_64 rfl (lv_at hl 1 rfl) ?_
                refine va_get hx hb hts (fun w h => hT w (uM_in w h)) hown hK hM 0 rfl rfl 0 (by decide) (hts _ (hT _ k_M_43)) (fun _ h => h) rfl d_M_constituent_65 ?_
                refine lv_if_eq hx hb d_M_constituent_68 (tgt := 72) (by decide) (fun hyes => absurd hyes (by decide)) (fun _ => ?_)
                exact W.vret hx hb hr (fun t ht hW => ⟨_, rfl, rfl, by rw [ht]; exact hM, by rw [ht]; exact hO⟩) hL d_M_constituent_71
            · have q6 := zb_f q6
              refine lv_iconst hx hb d_M_constituent_47 (v := (nI 1)) rfl ?_
              refine lv_goto hx hb d_M_constituent_48 (tgt := 61) (by decide) ?_
              exfalso
              omega
          · have q5 := zb_t q5
            refine lv_iconst hx hb d_M_constituent_32 (v := (nI 1)) rfl ?_
            refine lv_goto hx hb d_M_constituent_33 (tgt := 37) (by decide) ?_
            refine lv_istore hx hb d_M_constituent_37 hl (by decide) (lv' := [(7, .int (nI 1)), (0, .ref (am 0)), (1, .int u), (2, .int v), (3, .long x), (5, .long z)]) rfl (fun ls hl => ?_)
            refine lv_aload_n hx hb d_M_constituent_39 rfl (lv_at hl 1 rfl) ?_
            refine lv_iload_n hx hb d_M_constituent_40 rfl (lv_at hl 2 rfl) ?_
            refine tq_S ⟨hx, hb, hml, hown, hts⟩ hT (c_M_isOne l u) lk_M_61 wN_mv trivial rfl hl.1 rfl (Nat.le_of_ble_eq_true rfl) d_M_constituent_41 ⟨rfl, rfl, Nat.le_of_ble_eq_true rfl, Nat.le_of_ble_eq_true rfl⟩ ⟨Nat.zero_le _, Nat.zero_le _⟩ ?_
            refine lv_if_ne hx hb d_M_constituent_44 (tgt := 51) (by decide) (fun q6 => ?_) (fun q6 => ?_)
            · have q6 := zb_t q6
              refine lv_iload hx hb d_M_constituent_51 (lv_at hl 0 rfl) ?_
              refine lv_if_ne hx hb d_M_constituent_53 (tgt := 60) (by decide) (fun q7 => ?_) (fun q7 => ?_)
              · have q7 := mt iv_eq0.mpr q7
                rw [nI_toInt (n := 1) (by decide)] at q7
                refine lv_iconst hx hb d_M_constituent_60 (v := (nI 0)) rfl ?_
                exfalso
                omega
              · have q7 := iv_eq0.mp q7
                rw [nI_toInt (n := 1) (by decide)] at q7
                refine lv_iconst hx hb d_M_constituent_56 (v := (nI 2)) rfl ?_
                refine lv_goto hx hb d_M_constituent_57 (tgt := 61) (by decide) ?_
                refine tq_put (F := mF am) hx hb hts (fun w h => hT w (uM_in w h)) tM tM_ok nM hown hK (tm_one hM 0 rfl) (ci := 1) rfl 0 (by decide) (hts _ (hT _ k_M_43)) (fun _ h => h) rfl (ty := .int) rfl rfl rfl (Nat.le_of_ble_eq_true rfl) ⟨0, by decide, rfl⟩ hL d_M_constituent_61 (fun H1 locs1 hP1 hz1 hq1 hL => ?_)
                have hM : tm D ci am g (nI 2) fo sz hs mi hi tx H1 := tm_set hD hM 0 (by decide) rfl hP1 (fun j hj => by rcases j with _ | _ | _ | _ | _ | _ | _ | _ | _ | _ | _ | j <;> first | rfl | exact absurd rfl hj) hq1
                have hO := hO.tr (mO.put (k := 0) (by decide) hz1 hq1)
                refine lv_aload_n hx hb d_M_constituent_64 rfl (lv_at hl 1 rfl) ?_
                refine va_get hx hb hts (fun w h => hT w (uM_in w h)) hown hK hM 0 rfl rfl 0 (by decide) (hts _ (hT _ k_M_43)) (fun _ h => h) rfl d_M_constituent_65 ?_
                refine lv_if_eq hx hb d_M_constituent_68 (tgt := 72) (by decide) (fun hyes => absurd hyes (by decide)) (fun _ => ?_)
                exact W.vret hx hb hr (fun t ht hW => ⟨_, rfl, rfl, by rw [ht]; exact hM, by rw [ht]; exact hO⟩) hL d_M_constituent_71
            · have q6 := zb_f q6
              refine lv_iconst hx hb d_M_constituent_47 (v := (nI 1)) rfl ?_
              refine lv_goto hx hb d_M_constituent_48 (tgt := 61) (by decide) ?_
              exfalso
              omega
theorem up_fac {g : TS} {i y f : Nat} (hy : y < 10) : upd (fun j => nI (tt_fac g (j / 10) (j % 10))) (10 * i + y) (nI f) = fun j => nI (tt_fac (ts_fac g i y f) (j / 10) (j % 10)) := by
  funext j
  show _ = nI (if j / 10 = i ∧ j % 10 = y then f else tt_fac g (j / 10) (j % 10))
  unfold upd
  by_cases e : j = 10 * i + y
  · rw [if_pos e, if_pos (by omega)]
  · rw [if_neg e, if_neg (by omega)]
theorem up_shf {g : TS} {i y f : Nat} (hy : y < 10) : vp_updL (fun j => lN (tt_shf g (j / 10) (j % 10))) (10 * i + y) (lN f) = fun j => lN (tt_shf (ts_shf g i y f) (j / 10) (j % 10)) := by
  funext j
  show _ = lN (if j / 10 = i ∧ j % 10 = y then f else tt_shf g (j / 10) (j % 10))
  unfold vp_updL
  by_cases e : j = 10 * i + y
  · rw [if_pos e, if_pos (by omega)]
  · rw [if_neg e, if_neg (by omega)]
set_option maxHeartbeats 4000000 in
set_option maxRecDepth 100000 in
theorem c_M_node (l : Launch) (D : va_G) (ci : Nat → ClassId) (am : Nat → Nat) (g : TS) (th fo sz : Int32) (hs mi hi tx : Nat → Int32) {i y f sh : Nat} (hi8 : i < 8) (hy : y < 10) (hf : f ≤ 81920) (hsh : sh < 281474976710656) : Met l y_M_node (wT y_M_node b_M_node 6 none) (rP 1 21) (tb (wMD D ci am g th fo sz hs mi hi tx) [.ref (am 0), .int (nI i), .int (nI y), .int (nI f), .long (lN sh)]) (qM D ci am (ts_shf (ts_fac g i y f) i y sh) (nI 0) fo sz hs mi hi tx (none)) 0 0 (mF am) := by
  refine Met.ofW (cc := b_M_node) (maxL := 6) (ret := none) (by decide) rfl ?_
  intro p e s m args below meth c s₁ B hml hv
  obtain ⟨rfl, hK, hg, hM, hD⟩ := hv
  have hx := B.exec
  have hb := B.bytes
  have hr := B.returns
  have hts := atoms_spec (ws := wT y_M_node b_M_node 6 none) B.pre
  have hT : ∀ w ∈ TT, w ∈ wT y_M_node b_M_node 6 none := wT_T
  have hown : s.vm.findClass RM = some m.cls := findClass_of_methodNamed B.named
  have hlocks := B.notSynchronized
  have hl := lv_entry ([.ref (am 0), .int (nI i), .int (nI y), .int (nI f), .long (lN sh)]) (n := 6) (Nat.le_of_ble_eq_true rfl)
  rw [lg_entry_eq]
  generalize (lg_sl ([.ref (am 0), .int (nI i), .int (nI y), .int (nI f), .long (lN sh)]) ++ List.replicate (6 - (lg_sl ([.ref (am 0), .int (nI i), .int (nI y), .int (nI f), .long (lN sh)])).length) Slot.unset).toArray = ls at hl ⊢
  have hl : lv_has ls 6 [(0, .ref (am 0)), (1, .int (nI i)), (2, .int (nI y)), (3, .int (nI f)), (4, .long (lN sh))] := hl
  have hL : ∀ q ∈ ([] : List Loc), mF am q.base := fun q hq => nomatch hq
  have hO : mO am s.heap s.heap := mO.rf
  have ei : (nI i).toInt = i := nI_toInt (by omega)
  have ey : (nI y).toInt = y := nI_toInt (by omega)
  have ef : (nI f).toInt = f := nI_toInt (by omega)
  have es : (lN sh).toInt = sh := pk_lT (by omega)
  refine lv_aload_n hx hb d_M_node_0 rfl (lv_at hl 0 rfl) ?_
  refine lv_iload_n hx hb d_M_node_1 rfl (lv_at hl 1 rfl) ?_
  refine tq_S ⟨hx, hb, hml, hown, hts⟩ hT (c_M_isOne l (nI i)) lk_M_61 wN_mv trivial rfl hl.1 rfl (Nat.le_of_ble_eq_true rfl) d_M_node_2 ⟨rfl, rfl, Nat.le_of_ble_eq_true rfl, Nat.le_of_ble_eq_true rfl⟩ ⟨Nat.zero_le _, Nat.zero_le _⟩ ?_
  refine lv_if_eq hx hb d_M_node_5 (tgt := 15) (by decide) (fun q1 => ?_) (fun q1 => ?_)
  · have q1 := zb_f q1
    refine lv_iconst hx hb d_M_node_15 (v := (nI 1)) rfl ?_
    refine lv_goto hx hb d_M_node_16 (tgt := 42) (by decide) ?_
    exfalso
    omega
  · have q1 := zb_t q1
    refine lv_iload_n hx hb d_M_node_8 rfl (lv_at hl 2 rfl) ?_
    refine tq_S ⟨hx, hb, hml, hown, hts⟩ hT (c_M_isYear l (nI y)) lk_M_65 wN_mv trivial rfl hl.1 rfl (Nat.le_of_ble_eq_true rfl) d_M_node_9 ⟨rfl, rfl, Nat.le_of_ble_eq_true rfl, Nat.le_of_ble_eq_true rfl⟩ ⟨Nat.zero_le _, Nat.zero_le _⟩ ?_
    refine lv_if_ne hx hb d_M_node_12 (tgt := 19) (by decide) (fun q2 => ?_) (fun q2 => ?_)
    · have q2 := zb_t q2
      refine lv_iload_n hx hb d_M_node_19 rfl (lv_at hl 3 rfl) ?_
      refine lv_if_lt hx hb d_M_node_20 (tgt := 37) (by decide) (fun q3 => ?_) (fun q3 => ?_)
      · have q3 := iv_lt0.mp q3
        refine lv_iconst hx hb d_M_node_37 (v := (nI 2)) rfl ?_
        refine lv_goto hx hb d_M_node_38 (tgt := 42) (by decide) ?_
        exfalso
        omega
      · have q3 := mt iv_lt0.mpr q3
        refine lv_iload_n hx hb d_M_node_23 rfl (lv_at hl 3 rfl) ?_
        refine lv_ldc hx hb (v := (nI 81920)) hown (hts _ (hT _ k_M_68)) d_M_node_24 ?_
        refine lv_icmp_gt hx hb d_M_node_26 (tgt := 37) (by decide) (fun q4 => ?_) (fun q4 => ?_)
        · have q4 := Int32.lt_iff_toInt_lt.mp q4
          rw [nI_toInt (n := 81920) (by decide)] at q4
          refine lv_iconst hx hb d_M_node_37 (v := (nI 2)) rfl ?_
          refine lv_goto hx hb d_M_node_38 (tgt := 42) (by decide) ?_
          exfalso
          omega
        · have q4 := mt Int32.lt_iff_toInt_lt.mpr q4
          rw [nI_toInt (n := 81920) (by decide)] at q4
          refine lv_lload hx hb d_M_node_29 (lv_at hl 4 rfl) ?_
          refine tq_S ⟨hx, hb, hml, hown, hts⟩ hT (c_M_isTurn l (lN sh)) lk_M_57 wN_mv trivial rfl hl.1 rfl (Nat.le_of_ble_eq_true rfl) d_M_node_31 ⟨rfl, rfl, Nat.le_of_ble_eq_true rfl, Nat.le_of_ble_eq_true rfl⟩ ⟨Nat.zero_le _, Nat.zero_le _⟩ ?_
          refine lv_if_ne hx hb d_M_node_34 (tgt := 41) (by decide) (fun q5 => ?_) (fun q5 => ?_)
          · have q5 := zb_t q5
            refine lv_iconst hx hb d_M_node_41 (v := (nI 0)) rfl ?_
            refine tq_put (F := mF am) hx hb hts (fun w h => hT w (uM_in w h)) tM tM_ok nM hown hK (tm_one hM 0 rfl) (ci := 1) rfl 0 (by decide) (hts _ (hT _ k_M_43)) (fun _ h => h) rfl (ty := .int) rfl rfl rfl (Nat.le_of_ble_eq_true rfl) ⟨0, by decide, rfl⟩ hL d_M_node_42 (fun H1 locs1 hP1 hz1 hq1 hL => ?_)
            have hM : tm D ci am g (nI 0) fo sz hs mi hi tx H1 := tm_set hD hM 0 (by decide) rfl hP1 (fun j hj => by rcases j with _ | _ | _ | _ | _ | _ | _ | _ | _ | _ | _ | j <;> first | rfl | exact absurd rfl hj) hq1
            have hO := hO.tr (mO.put (k := 0) (by decide) hz1 hq1)
            refine lv_aload_n hx hb d_M_node_45 rfl (lv_at hl 0 rfl) ?_
            refine va_get hx hb hts (fun w h => hT w (uM_in w h)) hown hK hM 0 rfl rfl 0 (by decide) (hts _ (hT _ k_M_43)) (fun _ h => h) rfl d_M_node_46 ?_
            refine lv_if_eq hx hb d_M_node_49 (tgt := 53) (by decide) (fun _ => ?_) (fun hno => absurd (by decide) hno)
            refine lv_aload_n hx hb d_M_node_53 rfl (lv_at hl 0 rfl) ?_
            refine va_get hx hb hts (fun w h => hT w (uM_in w h)) hown hK hM 0 rfl rfl 6 (by decide) (hts _ (hT _ k_M_23)) (fun _ h => h) rfl d_M_node_54 ?_
            refine lv_bipush hx hb d_M_node_57 (v := (nI 10)) rfl ?_
            refine lv_iload_n hx hb d_M_node_59 rfl (lv_at hl 1 rfl) ?_
            refine lv_imul hx hb d_M_node_60 ?_
            refine lv_iload_n hx hb d_M_node_61 rfl (lv_at hl 2 rfl) ?_
            refine lv_iadd hx hb d_M_node_62 ?_
            refine tq_ti (show _ = (nI (10 * i + y)) from (by rw [pk_mul, nI_add])) ?_
            refine lv_iload_n hx hb d_M_node_63 rfl (lv_at hl 3 rfl) ?_
            refine tq_iast (F := mF am) hx hb hK 0 (tm_one hM 5 rfl) rfl (show 10 * i + y < 80 by omega) (by decide) ⟨5, by decide, rfl⟩ hL d_M_node_64 (fun H1 locs1 hP1 hz1 hq1 hL => ?_)
            rw [up_fac hy] at hP1
            have hM : tm D ci am (ts_fac g i y f) (nI 0) fo sz hs mi hi tx H1 := tm_set hD hM 5 (by decide) rfl hP1 (fun j hj => by rcases j with _ | _ | _ | _ | _ | _ | _ | _ | _ | _ | _ | j <;> first | rfl | exact absurd rfl hj) hq1
            have hO := hO.tr (mO.put (k := 5) (by decide) hz1 hq1)
            refine lv_aload_n hx hb d_M_node_65 rfl (lv_at hl 0 rfl) ?_
            refine va_get hx hb hts (fun w h => hT w (uM_in w h)) hown hK hM 0 rfl rfl 7 (by decide) (hts _ (hT _ k_M_26)) (fun _ h => h) rfl d_M_node_66 ?_
            refine lv_bipush hx hb d_M_node_69 (v := (nI 10)) rfl ?_
            refine lv_iload_n hx hb d_M_node_71 rfl (lv_at hl 1 rfl) ?_
            refine lv_imul hx hb d_M_node_72 ?_
            refine lv_iload_n hx hb d_M_node_73 rfl (lv_at hl 2 rfl) ?_
            refine lv_iadd hx hb d_M_node_74 ?_
            refine tq_ti (show _ = (nI (10 * i + y)) from (by rw [pk_mul, nI_add])) ?_
            refine lv_lload hx hb d_M_node_75 (lv_at hl 4 rfl) ?_
            refine tq_last (F := mF am) hx hb hK 1 (tm_one hM 6 rfl) rfl (show 10 * i + y < 80 by omega) (by decide) ⟨6, by decide, rfl⟩ hL d_M_node_77 (fun H1 locs1 hP1 hz1 hq1 hL => ?_)
            rw [up_shf hy] at hP1
            have hM : tm D ci am (ts_shf (ts_fac g i y f) i y sh) (nI 0) fo sz hs mi hi tx H1 := tm_set hD hM 6 (by decide) rfl hP1 (fun j hj => by rcases j with _ | _ | _ | _ | _ | _ | _ | _ | _ | _ | _ | j <;> first | rfl | exact absurd rfl hj) hq1
            have hO := hO.tr (mO.put (k := 6) (by decide) hz1 hq1)
            exact W.vret hx hb hr (fun t ht hW => ⟨_, rfl, rfl, by rw [ht]; exact hM, by rw [ht]; exact hO⟩) hL d_M_node_78
          · have q5 := zb_f q5
            refine lv_iconst hx hb d_M_node_37 (v := (nI 2)) rfl ?_
            refine lv_goto hx hb d_M_node_38 (tgt := 42) (by decide) ?_
            exfalso
            omega
    · have q2 := zb_f q2
      refine lv_iconst hx hb d_M_node_15 (v := (nI 1)) rfl ?_
      refine lv_goto hx hb d_M_node_16 (tgt := 42) (by decide) ?_
      exfalso
      omega
set_option maxHeartbeats 4000000 in
set_option maxRecDepth 100000 in
theorem x_M_nodeI (l : Launch) (D : va_G) (ci : Nat → ClassId) (am : Nat → Nat) (g : TS) (th fo sz : Int32) (hs mi hi tx : Nat → Int32) (u v x : Int32) (z : Int64) (hv0 : ¬ ((0 ≤ u.toInt ∧ u.toInt < 8) ∧ 0 ≤ v.toInt ∧ v.toInt < 10)) : Met l y_M_node (wT y_M_node b_M_node 6 none) (rP 1 21) (tb (wMD D ci am g th fo sz hs mi hi tx) [.ref (am 0), .int u, .int v, .int x, .long z]) (qM D ci am g (nI 1) fo sz hs mi hi tx (none)) 0 0 (mF am) := by
  refine Met.ofW (cc := b_M_node) (maxL := 6) (ret := none) (by decide) rfl ?_
  intro p e s m args below meth c s₁ B hml hv
  obtain ⟨rfl, hK, hg, hM, hD⟩ := hv
  have hx := B.exec
  have hb := B.bytes
  have hr := B.returns
  have hts := atoms_spec (ws := wT y_M_node b_M_node 6 none) B.pre
  have hT : ∀ w ∈ TT, w ∈ wT y_M_node b_M_node 6 none := wT_T
  have hown : s.vm.findClass RM = some m.cls := findClass_of_methodNamed B.named
  have hlocks := B.notSynchronized
  have hl := lv_entry ([.ref (am 0), .int u, .int v, .int x, .long z]) (n := 6) (Nat.le_of_ble_eq_true rfl)
  rw [lg_entry_eq]
  generalize (lg_sl ([.ref (am 0), .int u, .int v, .int x, .long z]) ++ List.replicate (6 - (lg_sl ([.ref (am 0), .int u, .int v, .int x, .long z])).length) Slot.unset).toArray = ls at hl ⊢
  have hl : lv_has ls 6 [(0, .ref (am 0)), (1, .int u), (2, .int v), (3, .int x), (4, .long z)] := hl
  have hL : ∀ q ∈ ([] : List Loc), mF am q.base := fun q hq => nomatch hq
  have hO : mO am s.heap s.heap := mO.rf
  refine lv_aload_n hx hb d_M_node_0 rfl (lv_at hl 0 rfl) ?_
  refine lv_iload_n hx hb d_M_node_1 rfl (lv_at hl 1 rfl) ?_
  refine tq_S ⟨hx, hb, hml, hown, hts⟩ hT (c_M_isOne l u) lk_M_61 wN_mv trivial rfl hl.1 rfl (Nat.le_of_ble_eq_true rfl) d_M_node_2 ⟨rfl, rfl, Nat.le_of_ble_eq_true rfl, Nat.le_of_ble_eq_true rfl⟩ ⟨Nat.zero_le _, Nat.zero_le _⟩ ?_
  refine lv_if_eq hx hb d_M_node_5 (tgt := 15) (by decide) (fun q1 => ?_) (fun q1 => ?_)
  · have q1 := zb_f q1
    refine lv_iconst hx hb d_M_node_15 (v := (nI 1)) rfl ?_
    refine lv_goto hx hb d_M_node_16 (tgt := 42) (by decide) ?_
    refine tq_put (F := mF am) hx hb hts (fun w h => hT w (uM_in w h)) tM tM_ok nM hown hK (tm_one hM 0 rfl) (ci := 1) rfl 0 (by decide) (hts _ (hT _ k_M_43)) (fun _ h => h) rfl (ty := .int) rfl rfl rfl (Nat.le_of_ble_eq_true rfl) ⟨0, by decide, rfl⟩ hL d_M_node_42 (fun H1 locs1 hP1 hz1 hq1 hL => ?_)
    have hM : tm D ci am g (nI 1) fo sz hs mi hi tx H1 := tm_set hD hM 0 (by decide) rfl hP1 (fun j hj => by rcases j with _ | _ | _ | _ | _ | _ | _ | _ | _ | _ | _ | j <;> first | rfl | exact absurd rfl hj) hq1
    have hO := hO.tr (mO.put (k := 0) (by decide) hz1 hq1)
    refine lv_aload_n hx hb d_M_node_45 rfl (lv_at hl 0 rfl) ?_
    refine va_get hx hb hts (fun w h => hT w (uM_in w h)) hown hK hM 0 rfl rfl 0 (by decide) (hts _ (hT _ k_M_43)) (fun _ h => h) rfl d_M_node_46 ?_
    refine lv_if_eq hx hb d_M_node_49 (tgt := 53) (by decide) (fun hyes => absurd hyes (by decide)) (fun _ => ?_)
    exact W.vret hx hb hr (fun t ht hW => ⟨_, rfl, rfl, by rw [ht]; exact hM, by rw [ht]; exact hO⟩) hL d_M_node_52
  · have q1 := zb_t q1
    refine lv_iload_n hx hb d_M_node_8 rfl (lv_at hl 2 rfl) ?_
    refine tq_S ⟨hx, hb, hml, hown, hts⟩ hT (c_M_isYear l v) lk_M_65 wN_mv trivial rfl hl.1 rfl (Nat.le_of_ble_eq_true rfl) d_M_node_9 ⟨rfl, rfl, Nat.le_of_ble_eq_true rfl, Nat.le_of_ble_eq_true rfl⟩ ⟨Nat.zero_le _, Nat.zero_le _⟩ ?_
    refine lv_if_ne hx hb d_M_node_12 (tgt := 19) (by decide) (fun q2 => ?_) (fun q2 => ?_)
    · have q2 := zb_t q2
      refine lv_iload_n hx hb d_M_node_19 rfl (lv_at hl 3 rfl) ?_
      refine lv_if_lt hx hb d_M_node_20 (tgt := 37) (by decide) (fun q3 => ?_) (fun q3 => ?_)
      · have q3 := iv_lt0.mp q3
        refine lv_iconst hx hb d_M_node_37 (v := (nI 2)) rfl ?_
        refine lv_goto hx hb d_M_node_38 (tgt := 42) (by decide) ?_
        exfalso
        omega
      · have q3 := mt iv_lt0.mpr q3
        refine lv_iload_n hx hb d_M_node_23 rfl (lv_at hl 3 rfl) ?_
        refine lv_ldc hx hb (v := (nI 81920)) hown (hts _ (hT _ k_M_68)) d_M_node_24 ?_
        refine lv_icmp_gt hx hb d_M_node_26 (tgt := 37) (by decide) (fun q4 => ?_) (fun q4 => ?_)
        · have q4 := Int32.lt_iff_toInt_lt.mp q4
          rw [nI_toInt (n := 81920) (by decide)] at q4
          refine lv_iconst hx hb d_M_node_37 (v := (nI 2)) rfl ?_
          refine lv_goto hx hb d_M_node_38 (tgt := 42) (by decide) ?_
          exfalso
          omega
        · have q4 := mt Int32.lt_iff_toInt_lt.mpr q4
          rw [nI_toInt (n := 81920) (by decide)] at q4
          refine lv_lload hx hb d_M_node_29 (lv_at hl 4 rfl) ?_
          refine tq_S ⟨hx, hb, hml, hown, hts⟩ hT (c_M_isTurn l z) lk_M_57 wN_mv trivial rfl hl.1 rfl (Nat.le_of_ble_eq_true rfl) d_M_node_31 ⟨rfl, rfl, Nat.le_of_ble_eq_true rfl, Nat.le_of_ble_eq_true rfl⟩ ⟨Nat.zero_le _, Nat.zero_le _⟩ ?_
          refine lv_if_ne hx hb d_M_node_34 (tgt := 41) (by decide) (fun q5 => ?_) (fun q5 => ?_)
          · have q5 := zb_t q5
            refine lv_iconst hx hb d_M_node_41 (v := (nI 0)) rfl ?_
            exfalso
            omega
          · have q5 := zb_f q5
            refine lv_iconst hx hb d_M_node_37 (v := (nI 2)) rfl ?_
            refine lv_goto hx hb d_M_node_38 (tgt := 42) (by decide) ?_
            exfalso
            omega
    · have q2 := zb_f q2
      refine lv_iconst hx hb d_M_node_15 (v := (nI 1)) rfl ?_
      refine lv_goto hx hb d_M_node_16 (tgt := 42) (by decide) ?_
      refine tq_put (F := mF am) hx hb hts (fun w h => hT w (uM_in w h)) tM tM_ok nM hown hK (tm_one hM 0 rfl) (ci := 1) rfl 0 (by decide) (hts _ (hT _ k_M_43)) (fun _ h => h) rfl (ty := .int) rfl rfl rfl (Nat.le_of_ble_eq_true rfl) ⟨0, by decide, rfl⟩ hL d_M_node_42 (fun H1 locs1 hP1 hz1 hq1 hL => ?_)
      have hM : tm D ci am g (nI 1) fo sz hs mi hi tx H1 := tm_set hD hM 0 (by decide) rfl hP1 (fun j hj => by rcases j with _ | _ | _ | _ | _ | _ | _ | _ | _ | _ | _ | j <;> first | rfl | exact absurd rfl hj) hq1
      have hO := hO.tr (mO.put (k := 0) (by decide) hz1 hq1)
      refine lv_aload_n hx hb d_M_node_45 rfl (lv_at hl 0 rfl) ?_
      refine va_get hx hb hts (fun w h => hT w (uM_in w h)) hown hK hM 0 rfl rfl 0 (by decide) (hts _ (hT _ k_M_43)) (fun _ h => h) rfl d_M_node_46 ?_
      refine lv_if_eq hx hb d_M_node_49 (tgt := 53) (by decide) (fun hyes => absurd hyes (by decide)) (fun _ => ?_)
      exact W.vret hx hb hr (fun t ht hW => ⟨_, rfl, rfl, by rw [ht]; exact hM, by rw [ht]; exact hO⟩) hL d_M_node_52
set_option maxHeartbeats 4000000 in
set_option maxRecDepth 100000 in
theorem x_M_nodeA (l : Launch) (D : va_G) (ci : Nat → ClassId) (am : Nat → Nat) (g : TS) (th fo sz : Int32) (hs mi hi tx : Nat → Int32) (u v x : Int32) (z : Int64) (hv1 : (0 ≤ u.toInt ∧ u.toInt < 8) ∧ 0 ≤ v.toInt ∧ v.toInt < 10) (hv0 : ¬ ((0 ≤ x.toInt ∧ x.toInt ≤ 81920) ∧ 0 ≤ z.toInt ∧ z.toInt < 281474976710656)) : Met l y_M_node (wT y_M_node b_M_node 6 none) (rP 1 21) (tb (wMD D ci am g th fo sz hs mi hi tx) [.ref (am 0), .int u, .int v, .int x, .long z]) (qM D ci am g (nI 2) fo sz hs mi hi tx (none)) 0 0 (mF am) := by
  refine Met.ofW (cc := b_M_node) (maxL := 6) (ret := none) (by decide) rfl ?_
  intro p e s m args below meth c s₁ B hml hv
  obtain ⟨rfl, hK, hg, hM, hD⟩ := hv
  have hx := B.exec
  have hb := B.bytes
  have hr := B.returns
  have hts := atoms_spec (ws := wT y_M_node b_M_node 6 none) B.pre
  have hT : ∀ w ∈ TT, w ∈ wT y_M_node b_M_node 6 none := wT_T
  have hown : s.vm.findClass RM = some m.cls := findClass_of_methodNamed B.named
  have hlocks := B.notSynchronized
  have hl := lv_entry ([.ref (am 0), .int u, .int v, .int x, .long z]) (n := 6) (Nat.le_of_ble_eq_true rfl)
  rw [lg_entry_eq]
  generalize (lg_sl ([.ref (am 0), .int u, .int v, .int x, .long z]) ++ List.replicate (6 - (lg_sl ([.ref (am 0), .int u, .int v, .int x, .long z])).length) Slot.unset).toArray = ls at hl ⊢
  have hl : lv_has ls 6 [(0, .ref (am 0)), (1, .int u), (2, .int v), (3, .int x), (4, .long z)] := hl
  have hL : ∀ q ∈ ([] : List Loc), mF am q.base := fun q hq => nomatch hq
  have hO : mO am s.heap s.heap := mO.rf
  refine lv_aload_n hx hb d_M_node_0 rfl (lv_at hl 0 rfl) ?_
  refine lv_iload_n hx hb d_M_node_1 rfl (lv_at hl 1 rfl) ?_
  refine tq_S ⟨hx, hb, hml, hown, hts⟩ hT (c_M_isOne l u) lk_M_61 wN_mv trivial rfl hl.1 rfl (Nat.le_of_ble_eq_true rfl) d_M_node_2 ⟨rfl, rfl, Nat.le_of_ble_eq_true rfl, Nat.le_of_ble_eq_true rfl⟩ ⟨Nat.zero_le _, Nat.zero_le _⟩ ?_
  refine lv_if_eq hx hb d_M_node_5 (tgt := 15) (by decide) (fun q1 => ?_) (fun q1 => ?_)
  · have q1 := zb_f q1
    refine lv_iconst hx hb d_M_node_15 (v := (nI 1)) rfl ?_
    refine lv_goto hx hb d_M_node_16 (tgt := 42) (by decide) ?_
    exfalso
    omega
  · have q1 := zb_t q1
    refine lv_iload_n hx hb d_M_node_8 rfl (lv_at hl 2 rfl) ?_
    refine tq_S ⟨hx, hb, hml, hown, hts⟩ hT (c_M_isYear l v) lk_M_65 wN_mv trivial rfl hl.1 rfl (Nat.le_of_ble_eq_true rfl) d_M_node_9 ⟨rfl, rfl, Nat.le_of_ble_eq_true rfl, Nat.le_of_ble_eq_true rfl⟩ ⟨Nat.zero_le _, Nat.zero_le _⟩ ?_
    refine lv_if_ne hx hb d_M_node_12 (tgt := 19) (by decide) (fun q2 => ?_) (fun q2 => ?_)
    · have q2 := zb_t q2
      refine lv_iload_n hx hb d_M_node_19 rfl (lv_at hl 3 rfl) ?_
      refine lv_if_lt hx hb d_M_node_20 (tgt := 37) (by decide) (fun q3 => ?_) (fun q3 => ?_)
      · have q3 := iv_lt0.mp q3
        refine lv_iconst hx hb d_M_node_37 (v := (nI 2)) rfl ?_
        refine lv_goto hx hb d_M_node_38 (tgt := 42) (by decide) ?_
        refine tq_put (F := mF am) hx hb hts (fun w h => hT w (uM_in w h)) tM tM_ok nM hown hK (tm_one hM 0 rfl) (ci := 1) rfl 0 (by decide) (hts _ (hT _ k_M_43)) (fun _ h => h) rfl (ty := .int) rfl rfl rfl (Nat.le_of_ble_eq_true rfl) ⟨0, by decide, rfl⟩ hL d_M_node_42 (fun H1 locs1 hP1 hz1 hq1 hL => ?_)
        have hM : tm D ci am g (nI 2) fo sz hs mi hi tx H1 := tm_set hD hM 0 (by decide) rfl hP1 (fun j hj => by rcases j with _ | _ | _ | _ | _ | _ | _ | _ | _ | _ | _ | j <;> first | rfl | exact absurd rfl hj) hq1
        have hO := hO.tr (mO.put (k := 0) (by decide) hz1 hq1)
        refine lv_aload_n hx hb d_M_node_45 rfl (lv_at hl 0 rfl) ?_
        refine va_get hx hb hts (fun w h => hT w (uM_in w h)) hown hK hM 0 rfl rfl 0 (by decide) (hts _ (hT _ k_M_43)) (fun _ h => h) rfl d_M_node_46 ?_
        refine lv_if_eq hx hb d_M_node_49 (tgt := 53) (by decide) (fun hyes => absurd hyes (by decide)) (fun _ => ?_)
        exact W.vret hx hb hr (fun t ht hW => ⟨_, rfl, rfl, by rw [ht]; exact hM, by rw [ht]; exact hO⟩) hL d_M_node_52
      · have q3 := mt iv_lt0.mpr q3
        refine lv_iload_n hx hb d_M_node_23 rfl (lv_at hl 3 rfl) ?_
        refine lv_ldc hx hb (v := (nI 81920)) hown (hts _ (hT _ k_M_68)) d_M_node_24 ?_
        refine lv_icmp_gt hx hb d_M_node_26 (tgt := 37) (by decide) (fun q4 => ?_) (fun q4 => ?_)
        · have q4 := Int32.lt_iff_toInt_lt.mp q4
          rw [nI_toInt (n := 81920) (by decide)] at q4
          refine lv_iconst hx hb d_M_node_37 (v := (nI 2)) rfl ?_
          refine lv_goto hx hb d_M_node_38 (tgt := 42) (by decide) ?_
          refine tq_put (F := mF am) hx hb hts (fun w h => hT w (uM_in w h)) tM tM_ok nM hown hK (tm_one hM 0 rfl) (ci := 1) rfl 0 (by decide) (hts _ (hT _ k_M_43)) (fun _ h => h) rfl (ty := .int) rfl rfl rfl (Nat.le_of_ble_eq_true rfl) ⟨0, by decide, rfl⟩ hL d_M_node_42 (fun H1 locs1 hP1 hz1 hq1 hL => ?_)
          have hM : tm D ci am g (nI 2) fo sz hs mi hi tx H1 := tm_set hD hM 0 (by decide) rfl hP1 (fun j hj => by rcases j with _ | _ | _ | _ | _ | _ | _ | _ | _ | _ | _ | j <;> first | rfl | exact absurd rfl hj) hq1
          have hO := hO.tr (mO.put (k := 0) (by decide) hz1 hq1)
          refine lv_aload_n hx hb d_M_node_45 rfl (lv_at hl 0 rfl) ?_
          refine va_get hx hb hts (fun w h => hT w (uM_in w h)) hown hK hM 0 rfl rfl 0 (by decide) (hts _ (hT _ k_M_43)) (fun _ h => h) rfl d_M_node_46 ?_
          refine lv_if_eq hx hb d_M_node_49 (tgt := 53) (by decide) (fun hyes => absurd hyes (by decide)) (fun _ => ?_)
          exact W.vret hx hb hr (fun t ht hW => ⟨_, rfl, rfl, by rw [ht]; exact hM, by rw [ht]; exact hO⟩) hL d_M_node_52
        · have q4 := mt Int32.lt_iff_toInt_lt.mpr q4
          rw [nI_toInt (n := 81920) (by decide)] at q4
          refine lv_lload hx hb d_M_node_29 (lv_at hl 4 rfl) ?_
          refine tq_S ⟨hx, hb, hml, hown, hts⟩ hT (c_M_isTurn l z) lk_M_57 wN_mv trivial rfl hl.1 rfl (Nat.le_of_ble_eq_true rfl) d_M_node_31 ⟨rfl, rfl, Nat.le_of_ble_eq_true rfl, Nat.le_of_ble_eq_true rfl⟩ ⟨Nat.zero_le _, Nat.zero_le _⟩ ?_
          refine lv_if_ne hx hb d_M_node_34 (tgt := 41) (by decide) (fun q5 => ?_) (fun q5 => ?_)
          · have q5 := zb_t q5
            refine lv_iconst hx hb d_M_node_41 (v := (nI 0)) rfl ?_
            exfalso
            omega
          · have q5 := zb_f q5
            refine lv_iconst hx hb d_M_node_37 (v := (nI 2)) rfl ?_
            refine lv_goto hx hb d_M_node_38 (tgt := 42) (by decide) ?_
            refine tq_put (F := mF am) hx hb hts (fun w h => hT w (uM_in w h)) tM tM_ok nM hown hK (tm_one hM 0 rfl) (ci := 1) rfl 0 (by decide) (hts _ (hT _ k_M_43)) (fun _ h => h) rfl (ty := .int) rfl rfl rfl (Nat.le_of_ble_eq_true rfl) ⟨0, by decide, rfl⟩ hL d_M_node_42 (fun H1 locs1 hP1 hz1 hq1 hL => ?_)
            have hM : tm D ci am g (nI 2) fo sz hs mi hi tx H1 := tm_set hD hM 0 (by decide) rfl hP1 (fun j hj => by rcases j with _ | _ | _ | _ | _ | _ | _ | _ | _ | _ | _ | j <;> first | rfl | exact absurd rfl hj) hq1
            have hO := hO.tr (mO.put (k := 0) (by decide) hz1 hq1)
            refine lv_aload_n hx hb d_M_node_45 rfl (lv_at hl 0 rfl) ?_
            refine va_get hx hb hts (fun w h => hT w (uM_in w h)) hown hK hM 0 rfl rfl 0 (by decide) (hts _ (hT _ k_M_43)) (fun _ h => h) rfl d_M_node_46 ?_
            refine lv_if_eq hx hb d_M_node_49 (tgt := 53) (by decide) (fun hyes => absurd hyes (by decide)) (fun _ => ?_)
            exact W.vret hx hb hr (fun t ht hW => ⟨_, rfl, rfl, by rw [ht]; exact hM, by rw [ht]; exact hO⟩) hL d_M_node_52
    · have q2 := zb_f q2
      refine lv_iconst hx hb d_M_node_15 (v := (nI 1)) rfl ?_
      refine lv_goto hx hb d_M_node_16 (tgt := 42) (by decide) ?_
      exfalso
      omega
set_option maxHeartbeats 4000000 in
set_option maxRecDepth 100000 in
theorem c_M_days (l : Launch) (D : va_G) (ci : Nat → ClassId) (am : Nat → Nat) (g : TS) (th fo sz : Int32) (hs mi hi tx : Nat → Int32) {y n : Nat} (hy : y < 10) (hn : n = 365 ∨ n = 366) : Met l y_M_days (wT y_M_days b_M_days 4 (some .int)) (rP 1 20) (tb (wMD D ci am g th fo sz hs mi hi tx) [.ref (am 0), .int (nI y), .int (nI n)]) (qM D ci am (ts_day g y n) (nI 0) fo sz hs mi hi tx (some (.int (nI (tt_day g y))))) 0 0 (mF am) := by
  refine Met.ofW (cc := b_M_days) (maxL := 4) (ret := (some .int)) (by decide) rfl ?_
  intro p e s m args below meth c s₁ B hml hv
  obtain ⟨rfl, hK, hg, hM, hD⟩ := hv
  have hx := B.exec
  have hb := B.bytes
  have hr := B.returns
  have hts := atoms_spec (ws := wT y_M_days b_M_days 4 (some .int)) B.pre
  have hT : ∀ w ∈ TT, w ∈ wT y_M_days b_M_days 4 (some .int) := wT_T
  have hown : s.vm.findClass RM = some m.cls := findClass_of_methodNamed B.named
  have hlocks := B.notSynchronized
  have hl := lv_entry ([.ref (am 0), .int (nI y), .int (nI n)]) (n := 4) (Nat.le_of_ble_eq_true rfl)
  rw [lg_entry_eq]
  generalize (lg_sl ([.ref (am 0), .int (nI y), .int (nI n)]) ++ List.replicate (4 - (lg_sl ([.ref (am 0), .int (nI y), .int (nI n)])).length) Slot.unset).toArray = ls at hl ⊢
  have hl : lv_has ls 4 [(0, .ref (am 0)), (1, .int (nI y)), (2, .int (nI n))] := hl
  have hL : ∀ q ∈ ([] : List Loc), mF am q.base := fun q hq => nomatch hq
  have hO : mO am s.heap s.heap := mO.rf
  have ey : (nI y).toInt = y := nI_toInt (by omega)
  have en : (nI n).toInt = n := nI_toInt (by omega)
  refine lv_aload_n hx hb d_M_days_0 rfl (lv_at hl 0 rfl) ?_
  refine lv_iload_n hx hb d_M_days_1 rfl (lv_at hl 1 rfl) ?_
  refine tq_S ⟨hx, hb, hml, hown, hts⟩ hT (c_M_isYear l (nI y)) lk_M_65 wN_mv trivial rfl hl.1 rfl (Nat.le_of_ble_eq_true rfl) d_M_days_2 ⟨rfl, rfl, Nat.le_of_ble_eq_true rfl, Nat.le_of_ble_eq_true rfl⟩ ⟨Nat.zero_le _, Nat.zero_le _⟩ ?_
  refine lv_if_ne hx hb d_M_days_5 (tgt := 12) (by decide) (fun q1 => ?_) (fun q1 => ?_)
  · have q1 := zb_t q1
    refine lv_iload_n hx hb d_M_days_12 rfl (lv_at hl 2 rfl) ?_
    refine lv_sipush hx hb d_M_days_13 (v := (nI 365)) rfl ?_
    refine lv_icmp_eq hx hb d_M_days_16 (tgt := 30) (by decide) (fun q2 => ?_) (fun q2 => ?_)
    · have q2 := Int32.toInt_inj.symm.mp q2
      rw [nI_toInt (n := 365) (by decide)] at q2
      refine lv_iconst hx hb d_M_days_30 (v := (nI 0)) rfl ?_
      refine tq_put (F := mF am) hx hb hts (fun w h => hT w (uM_in w h)) tM tM_ok nM hown hK (tm_one hM 0 rfl) (ci := 1) rfl 0 (by decide) (hts _ (hT _ k_M_43)) (fun _ h => h) rfl (ty := .int) rfl rfl rfl (Nat.le_of_ble_eq_true rfl) ⟨0, by decide, rfl⟩ hL d_M_days_31 (fun H1 locs1 hP1 hz1 hq1 hL => ?_)
      have hM : tm D ci am g (nI 0) fo sz hs mi hi tx H1 := tm_set hD hM 0 (by decide) rfl hP1 (fun j hj => by rcases j with _ | _ | _ | _ | _ | _ | _ | _ | _ | _ | _ | j <;> first | rfl | exact absurd rfl hj) hq1
      have hO := hO.tr (mO.put (k := 0) (by decide) hz1 hq1)
      refine lv_aload_n hx hb d_M_days_34 rfl (lv_at hl 0 rfl) ?_
      refine va_get hx hb hts (fun w h => hT w (uM_in w h)) hown hK hM 0 rfl rfl 0 (by decide) (hts _ (hT _ k_M_43)) (fun _ h => h) rfl d_M_days_35 ?_
      refine lv_if_eq hx hb d_M_days_38 (tgt := 43) (by decide) (fun _ => ?_) (fun hno => absurd (by decide) hno)
      refine lv_aload_n hx hb d_M_days_43 rfl (lv_at hl 0 rfl) ?_
      refine va_get hx hb hts (fun w h => hT w (uM_in w h)) hown hK hM 0 rfl rfl 2 (by decide) (hts _ (hT _ k_M_7)) (fun _ h => h) rfl d_M_days_44 ?_
      refine lv_iload_n hx hb d_M_days_47 rfl (lv_at hl 1 rfl) ?_
      refine tq_iald hx hb hK hM 1 0 rfl rfl hy (by decide) d_M_days_48 ?_
      refine lv_istore_n hx hb d_M_days_49 rfl hl (by decide) (lv' := [(3, .int (nI (tt_day g y))), (0, .ref (am 0)), (1, .int (nI y)), (2, .int (nI n))]) rfl (fun ls hl => ?_)
      refine lv_aload_n hx hb d_M_days_50 rfl (lv_at hl 1 rfl) ?_
      refine va_get hx hb hts (fun w h => hT w (uM_in w h)) hown hK hM 0 rfl rfl 2 (by decide) (hts _ (hT _ k_M_7)) (fun _ h => h) rfl d_M_days_51 ?_
      refine lv_iload_n hx hb d_M_days_54 rfl (lv_at hl 2 rfl) ?_
      refine lv_iload_n hx hb d_M_days_55 rfl (lv_at hl 3 rfl) ?_
      refine tq_iast (F := mF am) hx hb hK 0 (tm_one hM 1 rfl) rfl hy (by decide) ⟨1, by decide, rfl⟩ hL d_M_days_56 (fun H1 locs1 hP1 hz1 hq1 hL => ?_)
      rw [up_nI] at hP1
      have hM : tm D ci am (ts_day g y n) (nI 0) fo sz hs mi hi tx H1 := tm_set hD hM 1 (by decide) rfl hP1 (fun j hj => by rcases j with _ | _ | _ | _ | _ | _ | _ | _ | _ | _ | _ | j <;> first | rfl | exact absurd rfl hj) hq1
      have hO := hO.tr (mO.put (k := 1) (by decide) hz1 hq1)
      refine lv_iload_n hx hb d_M_days_57 rfl (lv_at hl 0 rfl) ?_
      exact W.iret hx hb hr (fun t ht hW => ⟨_, rfl, rfl, by rw [ht]; exact hM, by rw [ht]; exact hO⟩) hL d_M_days_58
    · have q2 := mt Int32.toInt_inj.symm.mpr q2
      rw [nI_toInt (n := 365) (by decide)] at q2
      refine lv_iload_n hx hb d_M_days_19 rfl (lv_at hl 2 rfl) ?_
      refine lv_sipush hx hb d_M_days_20 (v := (nI 366)) rfl ?_
      refine lv_icmp_eq hx hb d_M_days_23 (tgt := 30) (by decide) (fun q3 => ?_) (fun q3 => ?_)
      · have q3 := Int32.toInt_inj.symm.mp q3
        rw [nI_toInt (n := 366) (by decide)] at q3
        refine lv_iconst hx hb d_M_days_30 (v := (nI 0)) rfl ?_
        refine tq_put (F := mF am) hx hb hts (fun w h => hT w (uM_in w h)) tM tM_ok nM hown hK (tm_one hM 0 rfl) (ci := 1) rfl 0 (by decide) (hts _ (hT _ k_M_43)) (fun _ h => h) rfl (ty := .int) rfl rfl rfl (Nat.le_of_ble_eq_true rfl) ⟨0, by decide, rfl⟩ hL d_M_days_31 (fun H1 locs1 hP1 hz1 hq1 hL => ?_)
        have hM : tm D ci am g (nI 0) fo sz hs mi hi tx H1 := tm_set hD hM 0 (by decide) rfl hP1 (fun j hj => by rcases j with _ | _ | _ | _ | _ | _ | _ | _ | _ | _ | _ | j <;> first | rfl | exact absurd rfl hj) hq1
        have hO := hO.tr (mO.put (k := 0) (by decide) hz1 hq1)
        refine lv_aload_n hx hb d_M_days_34 rfl (lv_at hl 0 rfl) ?_
        refine va_get hx hb hts (fun w h => hT w (uM_in w h)) hown hK hM 0 rfl rfl 0 (by decide) (hts _ (hT _ k_M_43)) (fun _ h => h) rfl d_M_days_35 ?_
        refine lv_if_eq hx hb d_M_days_38 (tgt := 43) (by decide) (fun _ => ?_) (fun hno => absurd (by decide) hno)
        refine lv_aload_n hx hb d_M_days_43 rfl (lv_at hl 0 rfl) ?_
        refine va_get hx hb hts (fun w h => hT w (uM_in w h)) hown hK hM 0 rfl rfl 2 (by decide) (hts _ (hT _ k_M_7)) (fun _ h => h) rfl d_M_days_44 ?_
        refine lv_iload_n hx hb d_M_days_47 rfl (lv_at hl 1 rfl) ?_
        refine tq_iald hx hb hK hM 1 0 rfl rfl hy (by decide) d_M_days_48 ?_
        refine lv_istore_n hx hb d_M_days_49 rfl hl (by decide) (lv' := [(3, .int (nI (tt_day g y))), (0, .ref (am 0)), (1, .int (nI y)), (2, .int (nI n))]) rfl (fun ls hl => ?_)
        refine lv_aload_n hx hb d_M_days_50 rfl (lv_at hl 1 rfl) ?_
        refine va_get hx hb hts (fun w h => hT w (uM_in w h)) hown hK hM 0 rfl rfl 2 (by decide) (hts _ (hT _ k_M_7)) (fun _ h => h) rfl d_M_days_51 ?_
        refine lv_iload_n hx hb d_M_days_54 rfl (lv_at hl 2 rfl) ?_
        refine lv_iload_n hx hb d_M_days_55 rfl (lv_at hl 3 rfl) ?_
        refine tq_iast (F := mF am) hx hb hK 0 (tm_one hM 1 rfl) rfl hy (by decide) ⟨1, by decide, rfl⟩ hL d_M_days_56 (fun H1 locs1 hP1 hz1 hq1 hL => ?_)
        rw [up_nI] at hP1
        have hM : tm D ci am (ts_day g y n) (nI 0) fo sz hs mi hi tx H1 := tm_set hD hM 1 (by decide) rfl hP1 (fun j hj => by rcases j with _ | _ | _ | _ | _ | _ | _ | _ | _ | _ | _ | j <;> first | rfl | exact absurd rfl hj) hq1
        have hO := hO.tr (mO.put (k := 1) (by decide) hz1 hq1)
        refine lv_iload_n hx hb d_M_days_57 rfl (lv_at hl 0 rfl) ?_
        exact W.iret hx hb hr (fun t ht hW => ⟨_, rfl, rfl, by rw [ht]; exact hM, by rw [ht]; exact hO⟩) hL d_M_days_58
      · have q3 := mt Int32.toInt_inj.symm.mpr q3
        rw [nI_toInt (n := 366) (by decide)] at q3
        refine lv_iconst hx hb d_M_days_26 (v := (nI 2)) rfl ?_
        refine lv_goto hx hb d_M_days_27 (tgt := 31) (by decide) ?_
        exfalso
        omega
  · have q1 := zb_f q1
    refine lv_iconst hx hb d_M_days_8 (v := (nI 1)) rfl ?_
    refine lv_goto hx hb d_M_days_9 (tgt := 31) (by decide) ?_
    exfalso
    omega
set_option maxHeartbeats 4000000 in
set_option maxRecDepth 100000 in
theorem x_M_daysI (l : Launch) (D : va_G) (ci : Nat → ClassId) (am : Nat → Nat) (g : TS) (th fo sz : Int32) (hs mi hi tx : Nat → Int32) (u v : Int32) (hv0 : ¬ (0 ≤ u.toInt ∧ u.toInt < 10)) : Met l y_M_days (wT y_M_days b_M_days 4 (some .int)) (rP 1 20) (tb (wMD D ci am g th fo sz hs mi hi tx) [.ref (am 0), .int u, .int v]) (qM D ci am g (nI 1) fo sz hs mi hi tx (some (.int (nI 0)))) 0 0 (mF am) := by
  refine Met.ofW (cc := b_M_days) (maxL := 4) (ret := (some .int)) (by decide) rfl ?_
  intro p e s m args below meth c s₁ B hml hv
  obtain ⟨rfl, hK, hg, hM, hD⟩ := hv
  have hx := B.exec
  have hb := B.bytes
  have hr := B.returns
  have hts := atoms_spec (ws := wT y_M_days b_M_days 4 (some .int)) B.pre
  have hT : ∀ w ∈ TT, w ∈ wT y_M_days b_M_days 4 (some .int) := wT_T
  have hown : s.vm.findClass RM = some m.cls := findClass_of_methodNamed B.named
  have hlocks := B.notSynchronized
  have hl := lv_entry ([.ref (am 0), .int u, .int v]) (n := 4) (Nat.le_of_ble_eq_true rfl)
  rw [lg_entry_eq]
  generalize (lg_sl ([.ref (am 0), .int u, .int v]) ++ List.replicate (4 - (lg_sl ([.ref (am 0), .int u, .int v])).length) Slot.unset).toArray = ls at hl ⊢
  have hl : lv_has ls 4 [(0, .ref (am 0)), (1, .int u), (2, .int v)] := hl
  have hL : ∀ q ∈ ([] : List Loc), mF am q.base := fun q hq => nomatch hq
  have hO : mO am s.heap s.heap := mO.rf
  refine lv_aload_n hx hb d_M_days_0 rfl (lv_at hl 0 rfl) ?_
  refine lv_iload_n hx hb d_M_days_1 rfl (lv_at hl 1 rfl) ?_
  refine tq_S ⟨hx, hb, hml, hown, hts⟩ hT (c_M_isYear l u) lk_M_65 wN_mv trivial rfl hl.1 rfl (Nat.le_of_ble_eq_true rfl) d_M_days_2 ⟨rfl, rfl, Nat.le_of_ble_eq_true rfl, Nat.le_of_ble_eq_true rfl⟩ ⟨Nat.zero_le _, Nat.zero_le _⟩ ?_
  refine lv_if_ne hx hb d_M_days_5 (tgt := 12) (by decide) (fun q1 => ?_) (fun q1 => ?_)
  · have q1 := zb_t q1
    refine lv_iload_n hx hb d_M_days_12 rfl (lv_at hl 2 rfl) ?_
    refine lv_sipush hx hb d_M_days_13 (v := (nI 365)) rfl ?_
    refine lv_icmp_eq hx hb d_M_days_16 (tgt := 30) (by decide) (fun q2 => ?_) (fun q2 => ?_)
    · have q2 := Int32.toInt_inj.symm.mp q2
      rw [nI_toInt (n := 365) (by decide)] at q2
      refine lv_iconst hx hb d_M_days_30 (v := (nI 0)) rfl ?_
      exfalso
      omega
    · have q2 := mt Int32.toInt_inj.symm.mpr q2
      rw [nI_toInt (n := 365) (by decide)] at q2
      refine lv_iload_n hx hb d_M_days_19 rfl (lv_at hl 2 rfl) ?_
      refine lv_sipush hx hb d_M_days_20 (v := (nI 366)) rfl ?_
      refine lv_icmp_eq hx hb d_M_days_23 (tgt := 30) (by decide) (fun q3 => ?_) (fun q3 => ?_)
      · have q3 := Int32.toInt_inj.symm.mp q3
        rw [nI_toInt (n := 366) (by decide)] at q3
        refine lv_iconst hx hb d_M_days_30 (v := (nI 0)) rfl ?_
        exfalso
        omega
      · have q3 := mt Int32.toInt_inj.symm.mpr q3
        rw [nI_toInt (n := 366) (by decide)] at q3
        refine lv_iconst hx hb d_M_days_26 (v := (nI 2)) rfl ?_
        refine lv_goto hx hb d_M_days_27 (tgt := 31) (by decide) ?_
        exfalso
        omega
  · have q1 := zb_f q1
    refine lv_iconst hx hb d_M_days_8 (v := (nI 1)) rfl ?_
    refine lv_goto hx hb d_M_days_9 (tgt := 31) (by decide) ?_
    refine tq_put (F := mF am) hx hb hts (fun w h => hT w (uM_in w h)) tM tM_ok nM hown hK (tm_one hM 0 rfl) (ci := 1) rfl 0 (by decide) (hts _ (hT _ k_M_43)) (fun _ h => h) rfl (ty := .int) rfl rfl rfl (Nat.le_of_ble_eq_true rfl) ⟨0, by decide, rfl⟩ hL d_M_days_31 (fun H1 locs1 hP1 hz1 hq1 hL => ?_)
    have hM : tm D ci am g (nI 1) fo sz hs mi hi tx H1 := tm_set hD hM 0 (by decide) rfl hP1 (fun j hj => by rcases j with _ | _ | _ | _ | _ | _ | _ | _ | _ | _ | _ | j <;> first | rfl | exact absurd rfl hj) hq1
    have hO := hO.tr (mO.put (k := 0) (by decide) hz1 hq1)
    refine lv_aload_n hx hb d_M_days_34 rfl (lv_at hl 0 rfl) ?_
    refine va_get hx hb hts (fun w h => hT w (uM_in w h)) hown hK hM 0 rfl rfl 0 (by decide) (hts _ (hT _ k_M_43)) (fun _ h => h) rfl d_M_days_35 ?_
    refine lv_if_eq hx hb d_M_days_38 (tgt := 43) (by decide) (fun hyes => absurd hyes (by decide)) (fun _ => ?_)
    refine lv_iconst hx hb d_M_days_41 (v := (nI 0)) rfl ?_
    exact W.iret hx hb hr (fun t ht hW => ⟨_, rfl, rfl, by rw [ht]; exact hM, by rw [ht]; exact hO⟩) hL d_M_days_42
set_option maxHeartbeats 4000000 in
set_option maxRecDepth 100000 in
theorem x_M_daysA (l : Launch) (D : va_G) (ci : Nat → ClassId) (am : Nat → Nat) (g : TS) (th fo sz : Int32) (hs mi hi tx : Nat → Int32) (u v : Int32) (hv1 : 0 ≤ u.toInt ∧ u.toInt < 10) (hv0 : ¬ (v.toInt = 365 ∨ v.toInt = 366)) : Met l y_M_days (wT y_M_days b_M_days 4 (some .int)) (rP 1 20) (tb (wMD D ci am g th fo sz hs mi hi tx) [.ref (am 0), .int u, .int v]) (qM D ci am g (nI 2) fo sz hs mi hi tx (some (.int (nI 0)))) 0 0 (mF am) := by
  refine Met.ofW (cc := b_M_days) (maxL := 4) (ret := (some .int)) (by decide) rfl ?_
  intro p e s m args below meth c s₁ B hml hv
  obtain ⟨rfl, hK, hg, hM, hD⟩ := hv
  have hx := B.exec
  have hb := B.bytes
  have hr := B.returns
  have hts := atoms_spec (ws := wT y_M_days b_M_days 4 (some .int)) B.pre
  have hT : ∀ w ∈ TT, w ∈ wT y_M_days b_M_days 4 (some .int) := wT_T
  have hown : s.vm.findClass RM = some m.cls := findClass_of_methodNamed B.named
  have hlocks := B.notSynchronized
  have hl := lv_entry ([.ref (am 0), .int u, .int v]) (n := 4) (Nat.le_of_ble_eq_true rfl)
  rw [lg_entry_eq]
  generalize (lg_sl ([.ref (am 0), .int u, .int v]) ++ List.replicate (4 - (lg_sl ([.ref (am 0), .int u, .int v])).length) Slot.unset).toArray = ls at hl ⊢
  have hl : lv_has ls 4 [(0, .ref (am 0)), (1, .int u), (2, .int v)] := hl
  have hL : ∀ q ∈ ([] : List Loc), mF am q.base := fun q hq => nomatch hq
  have hO : mO am s.heap s.heap := mO.rf
  refine lv_aload_n hx hb d_M_days_0 rfl (lv_at hl 0 rfl) ?_
  refine lv_iload_n hx hb d_M_days_1 rfl (lv_at hl 1 rfl) ?_
  refine tq_S ⟨hx, hb, hml, hown, hts⟩ hT (c_M_isYear l u) lk_M_65 wN_mv trivial rfl hl.1 rfl (Nat.le_of_ble_eq_true rfl) d_M_days_2 ⟨rfl, rfl, Nat.le_of_ble_eq_true rfl, Nat.le_of_ble_eq_true rfl⟩ ⟨Nat.zero_le _, Nat.zero_le _⟩ ?_
  refine lv_if_ne hx hb d_M_days_5 (tgt := 12) (by decide) (fun q1 => ?_) (fun q1 => ?_)
  · have q1 := zb_t q1
    refine lv_iload_n hx hb d_M_days_12 rfl (lv_at hl 2 rfl) ?_
    refine lv_sipush hx hb d_M_days_13 (v := (nI 365)) rfl ?_
    refine lv_icmp_eq hx hb d_M_days_16 (tgt := 30) (by decide) (fun q2 => ?_) (fun q2 => ?_)
    · have q2 := Int32.toInt_inj.symm.mp q2
      rw [nI_toInt (n := 365) (by decide)] at q2
      refine lv_iconst hx hb d_M_days_30 (v := (nI 0)) rfl ?_
      exfalso
      omega
    · have q2 := mt Int32.toInt_inj.symm.mpr q2
      rw [nI_toInt (n := 365) (by decide)] at q2
      refine lv_iload_n hx hb d_M_days_19 rfl (lv_at hl 2 rfl) ?_
      refine lv_sipush hx hb d_M_days_20 (v := (nI 366)) rfl ?_
      refine lv_icmp_eq hx hb d_M_days_23 (tgt := 30) (by decide) (fun q3 => ?_) (fun q3 => ?_)
      · have q3 := Int32.toInt_inj.symm.mp q3
        rw [nI_toInt (n := 366) (by decide)] at q3
        refine lv_iconst hx hb d_M_days_30 (v := (nI 0)) rfl ?_
        exfalso
        omega
      · have q3 := mt Int32.toInt_inj.symm.mpr q3
        rw [nI_toInt (n := 366) (by decide)] at q3
        refine lv_iconst hx hb d_M_days_26 (v := (nI 2)) rfl ?_
        refine lv_goto hx hb d_M_days_27 (tgt := 31) (by decide) ?_
        refine tq_put (F := mF am) hx hb hts (fun w h => hT w (uM_in w h)) tM tM_ok nM hown hK (tm_one hM 0 rfl) (ci := 1) rfl 0 (by decide) (hts _ (hT _ k_M_43)) (fun _ h => h) rfl (ty := .int) rfl rfl rfl (Nat.le_of_ble_eq_true rfl) ⟨0, by decide, rfl⟩ hL d_M_days_31 (fun H1 locs1 hP1 hz1 hq1 hL => ?_)
        have hM : tm D ci am g (nI 2) fo sz hs mi hi tx H1 := tm_set hD hM 0 (by decide) rfl hP1 (fun j hj => by rcases j with _ | _ | _ | _ | _ | _ | _ | _ | _ | _ | _ | j <;> first | rfl | exact absurd rfl hj) hq1
        have hO := hO.tr (mO.put (k := 0) (by decide) hz1 hq1)
        refine lv_aload_n hx hb d_M_days_34 rfl (lv_at hl 0 rfl) ?_
        refine va_get hx hb hts (fun w h => hT w (uM_in w h)) hown hK hM 0 rfl rfl 0 (by decide) (hts _ (hT _ k_M_43)) (fun _ h => h) rfl d_M_days_35 ?_
        refine lv_if_eq hx hb d_M_days_38 (tgt := 43) (by decide) (fun hyes => absurd hyes (by decide)) (fun _ => ?_)
        refine lv_iconst hx hb d_M_days_41 (v := (nI 0)) rfl ?_
        exact W.iret hx hb hr (fun t ht hW => ⟨_, rfl, rfl, by rw [ht]; exact hM, by rw [ht]; exact hO⟩) hL d_M_days_42
  · have q1 := zb_f q1
    refine lv_iconst hx hb d_M_days_8 (v := (nI 1)) rfl ?_
    refine lv_goto hx hb d_M_days_9 (tgt := 31) (by decide) ?_
    exfalso
    omega
set_option maxHeartbeats 4000000 in
set_option maxRecDepth 100000 in
theorem c_M_first (l : Launch) (D : va_G) (ci : Nat → ClassId) (am : Nat → Nat) (g : TS) (th fo sz : Int32) (hs mi hi tx : Nat → Int32) {y : Nat} (hy : y ≤ 10) : Met l y_M_first (wT y_M_first b_M_first 2 (some .int)) (rP 1 23) (tb (wMD D ci am g th fo sz hs mi hi tx) [.ref (am 0), .int (nI y)]) (qM D ci am g (nI 0) fo sz hs mi hi tx (some (.int (nI (tt_fst g y))))) 0 0 (mF am) := by
  refine Met.ofW (cc := b_M_first) (maxL := 2) (ret := (some .int)) (by decide) rfl ?_
  intro p e s m args below meth c s₁ B hml hv
  obtain ⟨rfl, hK, hg, hM, hD⟩ := hv
  have hx := B.exec
  have hb := B.bytes
  have hr := B.returns
  have hts := atoms_spec (ws := wT y_M_first b_M_first 2 (some .int)) B.pre
  have hT : ∀ w ∈ TT, w ∈ wT y_M_first b_M_first 2 (some .int) := wT_T
  have hown : s.vm.findClass RM = some m.cls := findClass_of_methodNamed B.named
  have hlocks := B.notSynchronized
  have hl := lv_entry ([.ref (am 0), .int (nI y)]) (n := 2) (Nat.le_of_ble_eq_true rfl)
  rw [lg_entry_eq]
  generalize (lg_sl ([.ref (am 0), .int (nI y)]) ++ List.replicate (2 - (lg_sl ([.ref (am 0), .int (nI y)])).length) Slot.unset).toArray = ls at hl ⊢
  have hl : lv_has ls 2 [(0, .ref (am 0)), (1, .int (nI y))] := hl
  have hL : ∀ q ∈ ([] : List Loc), mF am q.base := fun q hq => nomatch hq
  have hO : mO am s.heap s.heap := mO.rf
  have ey : (nI y).toInt = y := nI_toInt (by omega)
  refine lv_aload_n hx hb d_M_first_0 rfl (lv_at hl 0 rfl) ?_
  refine lv_iload_n hx hb d_M_first_1 rfl (lv_at hl 1 rfl) ?_
  refine lv_if_lt hx hb d_M_first_2 (tgt := 11) (by decide) (fun q1 => ?_) (fun q1 => ?_)
  · have q1 := iv_lt0.mp q1
    refine lv_iconst hx hb d_M_first_11 (v := (nI 1)) rfl ?_
    refine lv_goto hx hb d_M_first_12 (tgt := 16) (by decide) ?_
    exfalso
    omega
  · have q1 := mt iv_lt0.mpr q1
    refine lv_iload_n hx hb d_M_first_5 rfl (lv_at hl 1 rfl) ?_
    refine lv_bipush hx hb d_M_first_6 (v := (nI 10)) rfl ?_
    refine lv_icmp_le hx hb d_M_first_8 (tgt := 15) (by decide) (fun q2 => ?_) (fun q2 => ?_)
    · have q2 := Int32.le_iff_toInt_le.mp q2
      rw [nI_toInt (n := 10) (by decide)] at q2
      refine lv_iconst hx hb d_M_first_15 (v := (nI 0)) rfl ?_
      refine tq_put (F := mF am) hx hb hts (fun w h => hT w (uM_in w h)) tM tM_ok nM hown hK (tm_one hM 0 rfl) (ci := 1) rfl 0 (by decide) (hts _ (hT _ k_M_43)) (fun _ h => h) rfl (ty := .int) rfl rfl rfl (Nat.le_of_ble_eq_true rfl) ⟨0, by decide, rfl⟩ hL d_M_first_16 (fun H1 locs1 hP1 hz1 hq1 hL => ?_)
      have hM : tm D ci am g (nI 0) fo sz hs mi hi tx H1 := tm_set hD hM 0 (by decide) rfl hP1 (fun j hj => by rcases j with _ | _ | _ | _ | _ | _ | _ | _ | _ | _ | _ | j <;> first | rfl | exact absurd rfl hj) hq1
      have hO := hO.tr (mO.put (k := 0) (by decide) hz1 hq1)
      refine lv_aload_n hx hb d_M_first_19 rfl (lv_at hl 0 rfl) ?_
      refine va_get hx hb hts (fun w h => hT w (uM_in w h)) hown hK hM 0 rfl rfl 0 (by decide) (hts _ (hT _ k_M_43)) (fun _ h => h) rfl d_M_first_20 ?_
      refine lv_if_ne hx hb d_M_first_23 (tgt := 38) (by decide) (fun hyes => absurd (by decide) hyes) (fun _ => ?_)
      refine lv_sipush hx hb d_M_first_26 (v := (nI 1440)) rfl ?_
      refine lv_aload_n hx hb d_M_first_29 rfl (lv_at hl 0 rfl) ?_
      refine lv_iload_n hx hb d_M_first_30 rfl (lv_at hl 1 rfl) ?_
      refine tq_V ⟨hx, hb, hml, hown, hts⟩ hT (c_M_daysBefore l D ci am g (nI 0) fo sz hs mi hi tx hy) lk_M_69 wM_mv ⟨hK, hg, hM⟩ (wM_rc hK hM) rfl hl.1 rfl (Nat.le_of_ble_eq_true rfl) d_M_first_31 ⟨rfl, rfl, Nat.le_of_ble_eq_true rfl, Nat.le_of_ble_eq_true rfl⟩ ⟨Nat.zero_le _, Nat.zero_le _⟩ ?_
      refine lv_imul hx hb d_M_first_34 ?_
      refine tq_ti (show _ = (nI (tt_fst g y)) from pk_mul _ _) ?_
      refine lv_goto hx hb d_M_first_35 (tgt := 39) (by decide) ?_
      exact W.iret hx hb hr (fun t ht hW => ⟨_, rfl, rfl, by rw [ht]; exact hM, by rw [ht]; exact hO⟩) hL d_M_first_39
    · have q2 := mt Int32.le_iff_toInt_le.mpr q2
      rw [nI_toInt (n := 10) (by decide)] at q2
      refine lv_iconst hx hb d_M_first_11 (v := (nI 1)) rfl ?_
      refine lv_goto hx hb d_M_first_12 (tgt := 16) (by decide) ?_
      exfalso
      omega
set_option maxHeartbeats 4000000 in
set_option maxRecDepth 100000 in
theorem x_M_first (l : Launch) (D : va_G) (ci : Nat → ClassId) (am : Nat → Nat) (g : TS) (th fo sz : Int32) (hs mi hi tx : Nat → Int32) (v : Int32) (hv0 : ¬ (0 ≤ v.toInt ∧ v.toInt ≤ 10)) : Met l y_M_first (wT y_M_first b_M_first 2 (some .int)) (rP 1 23) (tb (wMD D ci am g th fo sz hs mi hi tx) [.ref (am 0), .int v]) (qM D ci am g (nI 1) fo sz hs mi hi tx (some (.int (nI 0)))) 0 0 (mF am) := by
  refine Met.ofW (cc := b_M_first) (maxL := 2) (ret := (some .int)) (by decide) rfl ?_
  intro p e s m args below meth c s₁ B hml hv
  obtain ⟨rfl, hK, hg, hM, hD⟩ := hv
  have hx := B.exec
  have hb := B.bytes
  have hr := B.returns
  have hts := atoms_spec (ws := wT y_M_first b_M_first 2 (some .int)) B.pre
  have hT : ∀ w ∈ TT, w ∈ wT y_M_first b_M_first 2 (some .int) := wT_T
  have hown : s.vm.findClass RM = some m.cls := findClass_of_methodNamed B.named
  have hlocks := B.notSynchronized
  have hl := lv_entry ([.ref (am 0), .int v]) (n := 2) (Nat.le_of_ble_eq_true rfl)
  rw [lg_entry_eq]
  generalize (lg_sl ([.ref (am 0), .int v]) ++ List.replicate (2 - (lg_sl ([.ref (am 0), .int v])).length) Slot.unset).toArray = ls at hl ⊢
  have hl : lv_has ls 2 [(0, .ref (am 0)), (1, .int v)] := hl
  have hL : ∀ q ∈ ([] : List Loc), mF am q.base := fun q hq => nomatch hq
  have hO : mO am s.heap s.heap := mO.rf
  refine lv_aload_n hx hb d_M_first_0 rfl (lv_at hl 0 rfl) ?_
  refine lv_iload_n hx hb d_M_first_1 rfl (lv_at hl 1 rfl) ?_
  refine lv_if_lt hx hb d_M_first_2 (tgt := 11) (by decide) (fun q1 => ?_) (fun q1 => ?_)
  · have q1 := iv_lt0.mp q1
    refine lv_iconst hx hb d_M_first_11 (v := (nI 1)) rfl ?_
    refine lv_goto hx hb d_M_first_12 (tgt := 16) (by decide) ?_
    refine tq_put (F := mF am) hx hb hts (fun w h => hT w (uM_in w h)) tM tM_ok nM hown hK (tm_one hM 0 rfl) (ci := 1) rfl 0 (by decide) (hts _ (hT _ k_M_43)) (fun _ h => h) rfl (ty := .int) rfl rfl rfl (Nat.le_of_ble_eq_true rfl) ⟨0, by decide, rfl⟩ hL d_M_first_16 (fun H1 locs1 hP1 hz1 hq1 hL => ?_)
    have hM : tm D ci am g (nI 1) fo sz hs mi hi tx H1 := tm_set hD hM 0 (by decide) rfl hP1 (fun j hj => by rcases j with _ | _ | _ | _ | _ | _ | _ | _ | _ | _ | _ | j <;> first | rfl | exact absurd rfl hj) hq1
    have hO := hO.tr (mO.put (k := 0) (by decide) hz1 hq1)
    refine lv_aload_n hx hb d_M_first_19 rfl (lv_at hl 0 rfl) ?_
    refine va_get hx hb hts (fun w h => hT w (uM_in w h)) hown hK hM 0 rfl rfl 0 (by decide) (hts _ (hT _ k_M_43)) (fun _ h => h) rfl d_M_first_20 ?_
    refine lv_if_ne hx hb d_M_first_23 (tgt := 38) (by decide) (fun _ => ?_) (fun hno => absurd hno (by decide))
    refine lv_iconst hx hb d_M_first_38 (v := (nI 0)) rfl ?_
    exact W.iret hx hb hr (fun t ht hW => ⟨_, rfl, rfl, by rw [ht]; exact hM, by rw [ht]; exact hO⟩) hL d_M_first_39
  · have q1 := mt iv_lt0.mpr q1
    refine lv_iload_n hx hb d_M_first_5 rfl (lv_at hl 1 rfl) ?_
    refine lv_bipush hx hb d_M_first_6 (v := (nI 10)) rfl ?_
    refine lv_icmp_le hx hb d_M_first_8 (tgt := 15) (by decide) (fun q2 => ?_) (fun q2 => ?_)
    · have q2 := Int32.le_iff_toInt_le.mp q2
      rw [nI_toInt (n := 10) (by decide)] at q2
      refine lv_iconst hx hb d_M_first_15 (v := (nI 0)) rfl ?_
      exfalso
      omega
    · have q2 := mt Int32.le_iff_toInt_le.mpr q2
      rw [nI_toInt (n := 10) (by decide)] at q2
      refine lv_iconst hx hb d_M_first_11 (v := (nI 1)) rfl ?_
      refine lv_goto hx hb d_M_first_12 (tgt := 16) (by decide) ?_
      refine tq_put (F := mF am) hx hb hts (fun w h => hT w (uM_in w h)) tM tM_ok nM hown hK (tm_one hM 0 rfl) (ci := 1) rfl 0 (by decide) (hts _ (hT _ k_M_43)) (fun _ h => h) rfl (ty := .int) rfl rfl rfl (Nat.le_of_ble_eq_true rfl) ⟨0, by decide, rfl⟩ hL d_M_first_16 (fun H1 locs1 hP1 hz1 hq1 hL => ?_)
      have hM : tm D ci am g (nI 1) fo sz hs mi hi tx H1 := tm_set hD hM 0 (by decide) rfl hP1 (fun j hj => by rcases j with _ | _ | _ | _ | _ | _ | _ | _ | _ | _ | _ | j <;> first | rfl | exact absurd rfl hj) hq1
      have hO := hO.tr (mO.put (k := 0) (by decide) hz1 hq1)
      refine lv_aload_n hx hb d_M_first_19 rfl (lv_at hl 0 rfl) ?_
      refine va_get hx hb hts (fun w h => hT w (uM_in w h)) hown hK hM 0 rfl rfl 0 (by decide) (hts _ (hT _ k_M_43)) (fun _ h => h) rfl d_M_first_20 ?_
      refine lv_if_ne hx hb d_M_first_23 (tgt := 38) (by decide) (fun _ => ?_) (fun hno => absurd hno (by decide))
      refine lv_iconst hx hb d_M_first_38 (v := (nI 0)) rfl ?_
      exact W.iret hx hb hr (fun t ht hW => ⟨_, rfl, rfl, by rw [ht]; exact hM, by rw [ht]; exact hO⟩) hL d_M_first_39
set_option maxHeartbeats 4000000 in
set_option maxRecDepth 100000 in
theorem c_M_year (l : Launch) (D : va_G) (ci : Nat → ClassId) (am : Nat → Nat) (g : TS) (th fo sz : Int32) (hs mi hi tx : Nat → Int32) {mm : Nat} (hm : mm < tt_fst g 10) : Met l y_M_year (wT y_M_year b_M_year 2 (some .int)) (rP 2 45) (tb (wMD D ci am g th fo sz hs mi hi tx) [.ref (am 0), .int (nI mm)]) (qM D ci am g (nI 0) fo sz hs mi hi tx (some (.int (nI (tt_yr g mm))))) 0 0 (mF am) := by
  refine Met.ofW (cc := b_M_year) (maxL := 2) (ret := (some .int)) (by decide) rfl ?_
  intro p e s m args below meth c s₁ B hml hv
  obtain ⟨rfl, hK, hg, hM, hD⟩ := hv
  have hx := B.exec
  have hb := B.bytes
  have hr := B.returns
  have hts := atoms_spec (ws := wT y_M_year b_M_year 2 (some .int)) B.pre
  have hT : ∀ w ∈ TT, w ∈ wT y_M_year b_M_year 2 (some .int) := wT_T
  have hown : s.vm.findClass RM = some m.cls := findClass_of_methodNamed B.named
  have hlocks := B.notSynchronized
  have hl := lv_entry ([.ref (am 0), .int (nI mm)]) (n := 2) (Nat.le_of_ble_eq_true rfl)
  rw [lg_entry_eq]
  generalize (lg_sl ([.ref (am 0), .int (nI mm)]) ++ List.replicate (2 - (lg_sl ([.ref (am 0), .int (nI mm)])).length) Slot.unset).toArray = ls at hl ⊢
  have hl : lv_has ls 2 [(0, .ref (am 0)), (1, .int (nI mm))] := hl
  have hL : ∀ q ∈ ([] : List Loc), mF am q.base := fun q hq => nomatch hq
  have hO : mO am s.heap s.heap := mO.rf
  have hdb := tt_db_in hg.2.2.2 10 (Nat.le_refl _)
  have hf10 : tt_fst g 10 = 1440 * tt_db (tt_day g) 10 := rfl
  have ev : (nI mm).toInt = mm := nI_toInt (by omega)
  refine lv_aload_n hx hb d_M_year_0 rfl (lv_at hl 0 rfl) ?_
  refine lv_aload_n hx hb d_M_year_1 rfl (lv_at hl 0 rfl) ?_
  refine lv_iload_n hx hb d_M_year_2 rfl (lv_at hl 1 rfl) ?_
  refine tq_V ⟨hx, hb, hml, hown, hts⟩ hT (c_M_isMinute l D ci am g th fo sz hs mi hi tx (nI mm)) lk_M_73 wM_mv ⟨hK, hg, hM⟩ (wM_rc hK hM) rfl hl.1 rfl (Nat.le_of_ble_eq_true rfl) d_M_year_3 ⟨rfl, rfl, Nat.le_of_ble_eq_true rfl, Nat.le_of_ble_eq_true rfl⟩ ⟨Nat.zero_le _, Nat.zero_le _⟩ ?_
  refine lv_if_eq hx hb d_M_year_6 (tgt := 13) (by decide) (fun q1 => ?_) (fun q1 => ?_)
  · have q1 := zb_f q1
    refine lv_iconst hx hb d_M_year_13 (v := (nI 1)) rfl ?_
    exfalso
    omega
  · have q1 := zb_t q1
    refine lv_iconst hx hb d_M_year_9 (v := (nI 0)) rfl ?_
    refine lv_goto hx hb d_M_year_10 (tgt := 14) (by decide) ?_
    refine tq_put (F := mF am) hx hb hts (fun w h => hT w (uM_in w h)) tM tM_ok nM hown hK (tm_one hM 0 rfl) (ci := 1) rfl 0 (by decide) (hts _ (hT _ k_M_43)) (fun _ h => h) rfl (ty := .int) rfl rfl rfl (Nat.le_of_ble_eq_true rfl) ⟨0, by decide, rfl⟩ hL d_M_year_14 (fun H1 locs1 hP1 hz1 hq1 hL => ?_)
    have hM : tm D ci am g (nI 0) fo sz hs mi hi tx H1 := tm_set hD hM 0 (by decide) rfl hP1 (fun j hj => by rcases j with _ | _ | _ | _ | _ | _ | _ | _ | _ | _ | _ | j <;> first | rfl | exact absurd rfl hj) hq1
    have hO := hO.tr (mO.put (k := 0) (by decide) hz1 hq1)
    refine lv_aload_n hx hb d_M_year_17 rfl (lv_at hl 0 rfl) ?_
    refine va_get hx hb hts (fun w h => hT w (uM_in w h)) hown hK hM 0 rfl rfl 0 (by decide) (hts _ (hT _ k_M_43)) (fun _ h => h) rfl d_M_year_18 ?_
    refine lv_if_ne hx hb d_M_year_21 (tgt := 36) (by decide) (fun hyes => absurd (by decide) hyes) (fun _ => ?_)
    refine lv_aload_n hx hb d_M_year_24 rfl (lv_at hl 0 rfl) ?_
    refine lv_iload_n hx hb d_M_year_25 rfl (lv_at hl 1 rfl) ?_
    refine lv_sipush hx hb d_M_year_26 (v := (nI 1440)) rfl ?_
    refine lv_idiv hx hb d_M_year_29 (by decide) ?_
    refine tq_ti (show _ = (nI (mm / 1440)) from pk_div (by omega) (by decide) (by decide)) ?_
    refine tq_V ⟨hx, hb, hml, hown, hts⟩ hT (c_M_yearOfDay l D ci am g (nI 0) fo sz hs mi hi tx (d := mm / 1440) (by omega)) lk_M_76 wM_mv ⟨hK, hg, hM⟩ (wM_rc hK hM) rfl hl.1 rfl (Nat.le_of_ble_eq_true rfl) d_M_year_30 ⟨rfl, rfl, Nat.le_of_ble_eq_true rfl, Nat.le_of_ble_eq_true rfl⟩ ⟨Nat.zero_le _, Nat.zero_le _⟩ ?_
    refine tq_ti (show _ = (nI (tt_yr g mm)) from (by rw [← tt_yr_day])) ?_
    refine lv_goto hx hb d_M_year_33 (tgt := 37) (by decide) ?_
    exact W.iret hx hb hr (fun t ht hW => ⟨_, rfl, rfl, by rw [ht]; exact hM, by rw [ht]; exact hO⟩) hL d_M_year_37
set_option maxHeartbeats 4000000 in
set_option maxRecDepth 100000 in
theorem x_M_year (l : Launch) (D : va_G) (ci : Nat → ClassId) (am : Nat → Nat) (g : TS) (th fo sz : Int32) (hs mi hi tx : Nat → Int32) (v : Int32) (hv0 : ¬ (0 ≤ v.toInt ∧ v.toInt < (tt_fst g 10 : Nat))) : Met l y_M_year (wT y_M_year b_M_year 2 (some .int)) (rP 2 45) (tb (wMD D ci am g th fo sz hs mi hi tx) [.ref (am 0), .int v]) (qM D ci am g (nI 1) fo sz hs mi hi tx (some (.int (nI 0)))) 0 0 (mF am) := by
  refine Met.ofW (cc := b_M_year) (maxL := 2) (ret := (some .int)) (by decide) rfl ?_
  intro p e s m args below meth c s₁ B hml hv
  obtain ⟨rfl, hK, hg, hM, hD⟩ := hv
  have hx := B.exec
  have hb := B.bytes
  have hr := B.returns
  have hts := atoms_spec (ws := wT y_M_year b_M_year 2 (some .int)) B.pre
  have hT : ∀ w ∈ TT, w ∈ wT y_M_year b_M_year 2 (some .int) := wT_T
  have hown : s.vm.findClass RM = some m.cls := findClass_of_methodNamed B.named
  have hlocks := B.notSynchronized
  have hl := lv_entry ([.ref (am 0), .int v]) (n := 2) (Nat.le_of_ble_eq_true rfl)
  rw [lg_entry_eq]
  generalize (lg_sl ([.ref (am 0), .int v]) ++ List.replicate (2 - (lg_sl ([.ref (am 0), .int v])).length) Slot.unset).toArray = ls at hl ⊢
  have hl : lv_has ls 2 [(0, .ref (am 0)), (1, .int v)] := hl
  have hL : ∀ q ∈ ([] : List Loc), mF am q.base := fun q hq => nomatch hq
  have hO : mO am s.heap s.heap := mO.rf
  refine lv_aload_n hx hb d_M_year_0 rfl (lv_at hl 0 rfl) ?_
  refine lv_aload_n hx hb d_M_year_1 rfl (lv_at hl 0 rfl) ?_
  refine lv_iload_n hx hb d_M_year_2 rfl (lv_at hl 1 rfl) ?_
  refine tq_V ⟨hx, hb, hml, hown, hts⟩ hT (c_M_isMinute l D ci am g th fo sz hs mi hi tx v) lk_M_73 wM_mv ⟨hK, hg, hM⟩ (wM_rc hK hM) rfl hl.1 rfl (Nat.le_of_ble_eq_true rfl) d_M_year_3 ⟨rfl, rfl, Nat.le_of_ble_eq_true rfl, Nat.le_of_ble_eq_true rfl⟩ ⟨Nat.zero_le _, Nat.zero_le _⟩ ?_
  refine lv_if_eq hx hb d_M_year_6 (tgt := 13) (by decide) (fun q1 => ?_) (fun q1 => ?_)
  · have q1 := zb_f q1
    refine lv_iconst hx hb d_M_year_13 (v := (nI 1)) rfl ?_
    refine tq_put (F := mF am) hx hb hts (fun w h => hT w (uM_in w h)) tM tM_ok nM hown hK (tm_one hM 0 rfl) (ci := 1) rfl 0 (by decide) (hts _ (hT _ k_M_43)) (fun _ h => h) rfl (ty := .int) rfl rfl rfl (Nat.le_of_ble_eq_true rfl) ⟨0, by decide, rfl⟩ hL d_M_year_14 (fun H1 locs1 hP1 hz1 hq1 hL => ?_)
    have hM : tm D ci am g (nI 1) fo sz hs mi hi tx H1 := tm_set hD hM 0 (by decide) rfl hP1 (fun j hj => by rcases j with _ | _ | _ | _ | _ | _ | _ | _ | _ | _ | _ | j <;> first | rfl | exact absurd rfl hj) hq1
    have hO := hO.tr (mO.put (k := 0) (by decide) hz1 hq1)
    refine lv_aload_n hx hb d_M_year_17 rfl (lv_at hl 0 rfl) ?_
    refine va_get hx hb hts (fun w h => hT w (uM_in w h)) hown hK hM 0 rfl rfl 0 (by decide) (hts _ (hT _ k_M_43)) (fun _ h => h) rfl d_M_year_18 ?_
    refine lv_if_ne hx hb d_M_year_21 (tgt := 36) (by decide) (fun _ => ?_) (fun hno => absurd hno (by decide))
    refine lv_iconst hx hb d_M_year_36 (v := (nI 0)) rfl ?_
    exact W.iret hx hb hr (fun t ht hW => ⟨_, rfl, rfl, by rw [ht]; exact hM, by rw [ht]; exact hO⟩) hL d_M_year_37
  · have q1 := zb_t q1
    refine lv_iconst hx hb d_M_year_9 (v := (nI 0)) rfl ?_
    refine lv_goto hx hb d_M_year_10 (tgt := 14) (by decide) ?_
    exfalso
    omega
set_option maxHeartbeats 4000000 in
set_option maxRecDepth 100000 in
theorem c_M_position (l : Launch) (D : va_G) (ci : Nat → ClassId) (am : Nat → Nat) (g : TS) (th fo sz : Int32) (hs mi hi tx : Nat → Int32) {i mm : Nat} (hi8 : i < 8) (hm : mm < tt_fst g 10) : Met l y_M_position (wT y_M_position b_M_position 3 (some .long)) (rP 2 45) (tb (wMD D ci am g th fo sz hs mi hi tx) [.ref (am 0), .int (nI i), .int (nI mm)]) (qM D ci am g (nI 0) fo sz hs mi hi tx (some (.long (lN (tt_pos g i mm (tt_yr g mm)))))) 0 0 (mF am) := by
  refine Met.ofW (cc := b_M_position) (maxL := 3) (ret := (some .long)) (by decide) rfl ?_
  intro p e s m args below meth c s₁ B hml hv
  obtain ⟨rfl, hK, hg, hM, hD⟩ := hv
  have hx := B.exec
  have hb := B.bytes
  have hr := B.returns
  have hts := atoms_spec (ws := wT y_M_position b_M_position 3 (some .long)) B.pre
  have hT : ∀ w ∈ TT, w ∈ wT y_M_position b_M_position 3 (some .long) := wT_T
  have hown : s.vm.findClass RM = some m.cls := findClass_of_methodNamed B.named
  have hlocks := B.notSynchronized
  have hl := lv_entry ([.ref (am 0), .int (nI i), .int (nI mm)]) (n := 3) (Nat.le_of_ble_eq_true rfl)
  rw [lg_entry_eq]
  generalize (lg_sl ([.ref (am 0), .int (nI i), .int (nI mm)]) ++ List.replicate (3 - (lg_sl ([.ref (am 0), .int (nI i), .int (nI mm)])).length) Slot.unset).toArray = ls at hl ⊢
  have hl : lv_has ls 3 [(0, .ref (am 0)), (1, .int (nI i)), (2, .int (nI mm))] := hl
  have hL : ∀ q ∈ ([] : List Loc), mF am q.base := fun q hq => nomatch hq
  have hO : mO am s.heap s.heap := mO.rf
  have hdb := tt_db_in hg.2.2.2 10 (Nat.le_refl _)
  have hf10 : tt_fst g 10 = 1440 * tt_db (tt_day g) 10 := rfl
  have ev : (nI mm).toInt = mm := nI_toInt (by omega)
  have ei : (nI i).toInt = i := nI_toInt (by omega)
  refine lv_aload_n hx hb d_M_position_0 rfl (lv_at hl 0 rfl) ?_
  refine lv_iload_n hx hb d_M_position_1 rfl (lv_at hl 1 rfl) ?_
  refine tq_S ⟨hx, hb, hml, hown, hts⟩ hT (c_M_isOne l (nI i)) lk_M_61 wN_mv trivial rfl hl.1 rfl (Nat.le_of_ble_eq_true rfl) d_M_position_2 ⟨rfl, rfl, Nat.le_of_ble_eq_true rfl, Nat.le_of_ble_eq_true rfl⟩ ⟨Nat.zero_le _, Nat.zero_le _⟩ ?_
  refine lv_if_eq hx hb d_M_position_5 (tgt := 20) (by decide) (fun q1 => ?_) (fun q1 => ?_)
  · have q1 := zb_f q1
    refine lv_iconst hx hb d_M_position_20 (v := (nI 1)) rfl ?_
    exfalso
    omega
  · have q1 := zb_t q1
    refine lv_aload_n hx hb d_M_position_8 rfl (lv_at hl 0 rfl) ?_
    refine lv_iload_n hx hb d_M_position_9 rfl (lv_at hl 2 rfl) ?_
    refine tq_V ⟨hx, hb, hml, hown, hts⟩ hT (c_M_isMinute l D ci am g th fo sz hs mi hi tx (nI mm)) lk_M_73 wM_mv ⟨hK, hg, hM⟩ (wM_rc hK hM) rfl hl.1 rfl (Nat.le_of_ble_eq_true rfl) d_M_position_10 ⟨rfl, rfl, Nat.le_of_ble_eq_true rfl, Nat.le_of_ble_eq_true rfl⟩ ⟨Nat.zero_le _, Nat.zero_le _⟩ ?_
    refine lv_if_eq hx hb d_M_position_13 (tgt := 20) (by decide) (fun q2 => ?_) (fun q2 => ?_)
    · have q2 := zb_f q2
      refine lv_iconst hx hb d_M_position_20 (v := (nI 1)) rfl ?_
      exfalso
      omega
    · have q2 := zb_t q2
      refine lv_iconst hx hb d_M_position_16 (v := (nI 0)) rfl ?_
      refine lv_goto hx hb d_M_position_17 (tgt := 21) (by decide) ?_
      refine tq_put (F := mF am) hx hb hts (fun w h => hT w (uM_in w h)) tM tM_ok nM hown hK (tm_one hM 0 rfl) (ci := 1) rfl 0 (by decide) (hts _ (hT _ k_M_43)) (fun _ h => h) rfl (ty := .int) rfl rfl rfl (Nat.le_of_ble_eq_true rfl) ⟨0, by decide, rfl⟩ hL d_M_position_21 (fun H1 locs1 hP1 hz1 hq1 hL => ?_)
      have hM : tm D ci am g (nI 0) fo sz hs mi hi tx H1 := tm_set hD hM 0 (by decide) rfl hP1 (fun j hj => by rcases j with _ | _ | _ | _ | _ | _ | _ | _ | _ | _ | _ | j <;> first | rfl | exact absurd rfl hj) hq1
      have hO := hO.tr (mO.put (k := 0) (by decide) hz1 hq1)
      refine lv_aload_n hx hb d_M_position_24 rfl (lv_at hl 0 rfl) ?_
      refine va_get hx hb hts (fun w h => hT w (uM_in w h)) hown hK hM 0 rfl rfl 0 (by decide) (hts _ (hT _ k_M_43)) (fun _ h => h) rfl d_M_position_25 ?_
      refine lv_if_ne hx hb d_M_position_28 (tgt := 49) (by decide) (fun hyes => absurd (by decide) hyes) (fun _ => ?_)
      refine lv_aload_n hx hb d_M_position_31 rfl (lv_at hl 0 rfl) ?_
      refine lv_iload_n hx hb d_M_position_32 rfl (lv_at hl 1 rfl) ?_
      refine lv_iload_n hx hb d_M_position_33 rfl (lv_at hl 2 rfl) ?_
      refine lv_aload_n hx hb d_M_position_34 rfl (lv_at hl 0 rfl) ?_
      refine lv_iload_n hx hb d_M_position_35 rfl (lv_at hl 2 rfl) ?_
      refine lv_sipush hx hb d_M_position_36 (v := (nI 1440)) rfl ?_
      refine lv_idiv hx hb d_M_position_39 (by decide) ?_
      refine tq_ti (show _ = (nI (mm / 1440)) from pk_div (by omega) (by decide) (by decide)) ?_
      refine tq_V ⟨hx, hb, hml, hown, hts⟩ hT (c_M_yearOfDay l D ci am g (nI 0) fo sz hs mi hi tx (d := mm / 1440) (by omega)) lk_M_76 wM_mv ⟨hK, hg, hM⟩ (wM_rc hK hM) rfl hl.1 rfl (Nat.le_of_ble_eq_true rfl) d_M_position_40 ⟨rfl, rfl, Nat.le_of_ble_eq_true rfl, Nat.le_of_ble_eq_true rfl⟩ ⟨Nat.zero_le _, Nat.zero_le _⟩ ?_
      refine tq_ti (show _ = (nI (tt_yr g mm)) from (by rw [← tt_yr_day])) ?_
      refine tq_V ⟨hx, hb, hml, hown, hts⟩ hT (c_M_positionOf l D ci am g (nI 0) fo sz hs mi hi tx hi8 (mm := mm) (by omega) (tt_yr_lt g mm)) lk_M_79 wM_mv ⟨hK, hg, hM⟩ (wM_rc hK hM) rfl hl.1 rfl (Nat.le_of_ble_eq_true rfl) d_M_position_43 ⟨rfl, rfl, Nat.le_of_ble_eq_true rfl, Nat.le_of_ble_eq_true rfl⟩ ⟨Nat.zero_le _, Nat.zero_le _⟩ ?_
      refine lv_goto hx hb d_M_position_46 (tgt := 50) (by decide) ?_
      exact W.lret hx hb hr (fun t ht hW => ⟨_, rfl, rfl, by rw [ht]; exact hM, by rw [ht]; exact hO⟩) hL d_M_position_50
set_option maxHeartbeats 4000000 in
set_option maxRecDepth 100000 in
theorem x_M_position (l : Launch) (D : va_G) (ci : Nat → ClassId) (am : Nat → Nat) (g : TS) (th fo sz : Int32) (hs mi hi tx : Nat → Int32) (u v : Int32) (hv0 : ¬ ((0 ≤ u.toInt ∧ u.toInt < 8) ∧ 0 ≤ v.toInt ∧ v.toInt < (tt_fst g 10 : Nat))) : Met l y_M_position (wT y_M_position b_M_position 3 (some .long)) (rP 2 45) (tb (wMD D ci am g th fo sz hs mi hi tx) [.ref (am 0), .int u, .int v]) (qM D ci am g (nI 1) fo sz hs mi hi tx (some (.long (lN 0)))) 0 0 (mF am) := by
  refine Met.ofW (cc := b_M_position) (maxL := 3) (ret := (some .long)) (by decide) rfl ?_
  intro p e s m args below meth c s₁ B hml hv
  obtain ⟨rfl, hK, hg, hM, hD⟩ := hv
  have hx := B.exec
  have hb := B.bytes
  have hr := B.returns
  have hts := atoms_spec (ws := wT y_M_position b_M_position 3 (some .long)) B.pre
  have hT : ∀ w ∈ TT, w ∈ wT y_M_position b_M_position 3 (some .long) := wT_T
  have hown : s.vm.findClass RM = some m.cls := findClass_of_methodNamed B.named
  have hlocks := B.notSynchronized
  have hl := lv_entry ([.ref (am 0), .int u, .int v]) (n := 3) (Nat.le_of_ble_eq_true rfl)
  rw [lg_entry_eq]
  generalize (lg_sl ([.ref (am 0), .int u, .int v]) ++ List.replicate (3 - (lg_sl ([.ref (am 0), .int u, .int v])).length) Slot.unset).toArray = ls at hl ⊢
  have hl : lv_has ls 3 [(0, .ref (am 0)), (1, .int u), (2, .int v)] := hl
  have hL : ∀ q ∈ ([] : List Loc), mF am q.base := fun q hq => nomatch hq
  have hO : mO am s.heap s.heap := mO.rf
  refine lv_aload_n hx hb d_M_position_0 rfl (lv_at hl 0 rfl) ?_
  refine lv_iload_n hx hb d_M_position_1 rfl (lv_at hl 1 rfl) ?_
  refine tq_S ⟨hx, hb, hml, hown, hts⟩ hT (c_M_isOne l u) lk_M_61 wN_mv trivial rfl hl.1 rfl (Nat.le_of_ble_eq_true rfl) d_M_position_2 ⟨rfl, rfl, Nat.le_of_ble_eq_true rfl, Nat.le_of_ble_eq_true rfl⟩ ⟨Nat.zero_le _, Nat.zero_le _⟩ ?_
  refine lv_if_eq hx hb d_M_position_5 (tgt := 20) (by decide) (fun q1 => ?_) (fun q1 => ?_)
  · have q1 := zb_f q1
    refine lv_iconst hx hb d_M_position_20 (v := (nI 1)) rfl ?_
    refine tq_put (F := mF am) hx hb hts (fun w h => hT w (uM_in w h)) tM tM_ok nM hown hK (tm_one hM 0 rfl) (ci := 1) rfl 0 (by decide) (hts _ (hT _ k_M_43)) (fun _ h => h) rfl (ty := .int) rfl rfl rfl (Nat.le_of_ble_eq_true rfl) ⟨0, by decide, rfl⟩ hL d_M_position_21 (fun H1 locs1 hP1 hz1 hq1 hL => ?_)
    have hM : tm D ci am g (nI 1) fo sz hs mi hi tx H1 := tm_set hD hM 0 (by decide) rfl hP1 (fun j hj => by rcases j with _ | _ | _ | _ | _ | _ | _ | _ | _ | _ | _ | j <;> first | rfl | exact absurd rfl hj) hq1
    have hO := hO.tr (mO.put (k := 0) (by decide) hz1 hq1)
    refine lv_aload_n hx hb d_M_position_24 rfl (lv_at hl 0 rfl) ?_
    refine va_get hx hb hts (fun w h => hT w (uM_in w h)) hown hK hM 0 rfl rfl 0 (by decide) (hts _ (hT _ k_M_43)) (fun _ h => h) rfl d_M_position_25 ?_
    refine lv_if_ne hx hb d_M_position_28 (tgt := 49) (by decide) (fun _ => ?_) (fun hno => absurd hno (by decide))
    refine lv_lconst hx hb d_M_position_49 (v := (lN 0)) rfl ?_
    exact W.lret hx hb hr (fun t ht hW => ⟨_, rfl, rfl, by rw [ht]; exact hM, by rw [ht]; exact hO⟩) hL d_M_position_50
  · have q1 := zb_t q1
    refine lv_aload_n hx hb d_M_position_8 rfl (lv_at hl 0 rfl) ?_
    refine lv_iload_n hx hb d_M_position_9 rfl (lv_at hl 2 rfl) ?_
    refine tq_V ⟨hx, hb, hml, hown, hts⟩ hT (c_M_isMinute l D ci am g th fo sz hs mi hi tx v) lk_M_73 wM_mv ⟨hK, hg, hM⟩ (wM_rc hK hM) rfl hl.1 rfl (Nat.le_of_ble_eq_true rfl) d_M_position_10 ⟨rfl, rfl, Nat.le_of_ble_eq_true rfl, Nat.le_of_ble_eq_true rfl⟩ ⟨Nat.zero_le _, Nat.zero_le _⟩ ?_
    refine lv_if_eq hx hb d_M_position_13 (tgt := 20) (by decide) (fun q2 => ?_) (fun q2 => ?_)
    · have q2 := zb_f q2
      refine lv_iconst hx hb d_M_position_20 (v := (nI 1)) rfl ?_
      refine tq_put (F := mF am) hx hb hts (fun w h => hT w (uM_in w h)) tM tM_ok nM hown hK (tm_one hM 0 rfl) (ci := 1) rfl 0 (by decide) (hts _ (hT _ k_M_43)) (fun _ h => h) rfl (ty := .int) rfl rfl rfl (Nat.le_of_ble_eq_true rfl) ⟨0, by decide, rfl⟩ hL d_M_position_21 (fun H1 locs1 hP1 hz1 hq1 hL => ?_)
      have hM : tm D ci am g (nI 1) fo sz hs mi hi tx H1 := tm_set hD hM 0 (by decide) rfl hP1 (fun j hj => by rcases j with _ | _ | _ | _ | _ | _ | _ | _ | _ | _ | _ | j <;> first | rfl | exact absurd rfl hj) hq1
      have hO := hO.tr (mO.put (k := 0) (by decide) hz1 hq1)
      refine lv_aload_n hx hb d_M_position_24 rfl (lv_at hl 0 rfl) ?_
      refine va_get hx hb hts (fun w h => hT w (uM_in w h)) hown hK hM 0 rfl rfl 0 (by decide) (hts _ (hT _ k_M_43)) (fun _ h => h) rfl d_M_position_25 ?_
      refine lv_if_ne hx hb d_M_position_28 (tgt := 49) (by decide) (fun _ => ?_) (fun hno => absurd hno (by decide))
      refine lv_lconst hx hb d_M_position_49 (v := (lN 0)) rfl ?_
      exact W.lret hx hb hr (fun t ht hW => ⟨_, rfl, rfl, by rw [ht]; exact hM, by rw [ht]; exact hO⟩) hL d_M_position_50
    · have q2 := zb_t q2
      refine lv_iconst hx hb d_M_position_16 (v := (nI 0)) rfl ?_
      refine lv_goto hx hb d_M_position_17 (tgt := 21) (by decide) ?_
      exfalso
      omega
set_option maxHeartbeats 4000000 in
set_option maxRecDepth 100000 in
theorem c_M_cosine (l : Launch) (D : va_G) (ci : Nat → ClassId) (am : Nat → Nat) (g : TS) (th fo sz : Int32) (hs mi hi tx : Nat → Int32) {n : Nat} (hn : n < 281474976710656) : Met l y_M_cosine (wT y_M_cosine b_M_cosine 3 (some .int)) (rP 1 35) (tb (wMD D ci am g th fo sz hs mi hi tx) [.ref (am 0), .long (lN n)]) (qM D ci am g (nI 0) fo sz hs mi hi tx (some (.int (iZ (tt_cos n))))) 0 0 (mF am) := by
  refine Met.ofW (cc := b_M_cosine) (maxL := 3) (ret := (some .int)) (by decide) rfl ?_
  intro p e s m args below meth c s₁ B hml hv
  obtain ⟨rfl, hK, hg, hM, hD⟩ := hv
  have hx := B.exec
  have hb := B.bytes
  have hr := B.returns
  have hts := atoms_spec (ws := wT y_M_cosine b_M_cosine 3 (some .int)) B.pre
  have hT : ∀ w ∈ TT, w ∈ wT y_M_cosine b_M_cosine 3 (some .int) := wT_T
  have hown : s.vm.findClass RM = some m.cls := findClass_of_methodNamed B.named
  have hlocks := B.notSynchronized
  have hl := lv_entry ([.ref (am 0), .long (lN n)]) (n := 3) (Nat.le_of_ble_eq_true rfl)
  rw [lg_entry_eq]
  generalize (lg_sl ([.ref (am 0), .long (lN n)]) ++ List.replicate (3 - (lg_sl ([.ref (am 0), .long (lN n)])).length) Slot.unset).toArray = ls at hl ⊢
  have hl : lv_has ls 3 [(0, .ref (am 0)), (1, .long (lN n))] := hl
  have hL : ∀ q ∈ ([] : List Loc), mF am q.base := fun q hq => nomatch hq
  have hO : mO am s.heap s.heap := mO.rf
  have ev : (lN n).toInt = n := pk_lT (by omega)
  refine lv_aload_n hx hb d_M_cosine_0 rfl (lv_at hl 0 rfl) ?_
  refine lv_lload_n hx hb d_M_cosine_1 rfl (lv_at hl 1 rfl) ?_
  refine tq_S ⟨hx, hb, hml, hown, hts⟩ hT (c_M_isTurn l (lN n)) lk_M_57 wN_mv trivial rfl hl.1 rfl (Nat.le_of_ble_eq_true rfl) d_M_cosine_2 ⟨rfl, rfl, Nat.le_of_ble_eq_true rfl, Nat.le_of_ble_eq_true rfl⟩ ⟨Nat.zero_le _, Nat.zero_le _⟩ ?_
  refine lv_if_eq hx hb d_M_cosine_5 (tgt := 12) (by decide) (fun q1 => ?_) (fun q1 => ?_)
  · have q1 := zb_f q1
    refine lv_iconst hx hb d_M_cosine_12 (v := (nI 1)) rfl ?_
    exfalso
    omega
  · have q1 := zb_t q1
    refine lv_iconst hx hb d_M_cosine_8 (v := (nI 0)) rfl ?_
    refine lv_goto hx hb d_M_cosine_9 (tgt := 13) (by decide) ?_
    refine tq_put (F := mF am) hx hb hts (fun w h => hT w (uM_in w h)) tM tM_ok nM hown hK (tm_one hM 0 rfl) (ci := 1) rfl 0 (by decide) (hts _ (hT _ k_M_43)) (fun _ h => h) rfl (ty := .int) rfl rfl rfl (Nat.le_of_ble_eq_true rfl) ⟨0, by decide, rfl⟩ hL d_M_cosine_13 (fun H1 locs1 hP1 hz1 hq1 hL => ?_)
    have hM : tm D ci am g (nI 0) fo sz hs mi hi tx H1 := tm_set hD hM 0 (by decide) rfl hP1 (fun j hj => by rcases j with _ | _ | _ | _ | _ | _ | _ | _ | _ | _ | _ | j <;> first | rfl | exact absurd rfl hj) hq1
    have hO := hO.tr (mO.put (k := 0) (by decide) hz1 hq1)
    refine lv_aload_n hx hb d_M_cosine_16 rfl (lv_at hl 0 rfl) ?_
    refine va_get hx hb hts (fun w h => hT w (uM_in w h)) hown hK hM 0 rfl rfl 0 (by decide) (hts _ (hT _ k_M_43)) (fun _ h => h) rfl d_M_cosine_17 ?_
    refine lv_if_ne hx hb d_M_cosine_20 (tgt := 31) (by decide) (fun hyes => absurd (by decide) hyes) (fun _ => ?_)
    refine lv_lload_n hx hb d_M_cosine_23 rfl (lv_at hl 1 rfl) ?_
    refine tq_S ⟨hx, hb, hml, hown, hts⟩ hT (c_M_cosineOf l hn) lk_M_99 wN_mv trivial rfl hl.1 rfl (Nat.le_of_ble_eq_true rfl) d_M_cosine_24 ⟨rfl, rfl, Nat.le_of_ble_eq_true rfl, Nat.le_of_ble_eq_true rfl⟩ ⟨Nat.zero_le _, Nat.zero_le _⟩ ?_
    refine lv_l2i hx hb d_M_cosine_27 (v := (lZ (tt_cos n)).toInt32) rfl ?_
    refine tq_ti (show _ = (iZ (tt_cos n)) from lZ_i _) ?_
    refine lv_goto hx hb d_M_cosine_28 (tgt := 32) (by decide) ?_
    exact W.iret hx hb hr (fun t ht hW => ⟨_, rfl, rfl, by rw [ht]; exact hM, by rw [ht]; exact hO⟩) hL d_M_cosine_32
set_option maxHeartbeats 4000000 in
set_option maxRecDepth 100000 in
theorem x_M_cosine (l : Launch) (D : va_G) (ci : Nat → ClassId) (am : Nat → Nat) (g : TS) (th fo sz : Int32) (hs mi hi tx : Nat → Int32) (v : Int64) (hv0 : ¬ (0 ≤ v.toInt ∧ v.toInt < 281474976710656)) : Met l y_M_cosine (wT y_M_cosine b_M_cosine 3 (some .int)) (rP 1 35) (tb (wMD D ci am g th fo sz hs mi hi tx) [.ref (am 0), .long v]) (qM D ci am g (nI 1) fo sz hs mi hi tx (some (.int (nI 0)))) 0 0 (mF am) := by
  refine Met.ofW (cc := b_M_cosine) (maxL := 3) (ret := (some .int)) (by decide) rfl ?_
  intro p e s m args below meth c s₁ B hml hv
  obtain ⟨rfl, hK, hg, hM, hD⟩ := hv
  have hx := B.exec
  have hb := B.bytes
  have hr := B.returns
  have hts := atoms_spec (ws := wT y_M_cosine b_M_cosine 3 (some .int)) B.pre
  have hT : ∀ w ∈ TT, w ∈ wT y_M_cosine b_M_cosine 3 (some .int) := wT_T
  have hown : s.vm.findClass RM = some m.cls := findClass_of_methodNamed B.named
  have hlocks := B.notSynchronized
  have hl := lv_entry ([.ref (am 0), .long v]) (n := 3) (Nat.le_of_ble_eq_true rfl)
  rw [lg_entry_eq]
  generalize (lg_sl ([.ref (am 0), .long v]) ++ List.replicate (3 - (lg_sl ([.ref (am 0), .long v])).length) Slot.unset).toArray = ls at hl ⊢
  have hl : lv_has ls 3 [(0, .ref (am 0)), (1, .long v)] := hl
  have hL : ∀ q ∈ ([] : List Loc), mF am q.base := fun q hq => nomatch hq
  have hO : mO am s.heap s.heap := mO.rf
  refine lv_aload_n hx hb d_M_cosine_0 rfl (lv_at hl 0 rfl) ?_
  refine lv_lload_n hx hb d_M_cosine_1 rfl (lv_at hl 1 rfl) ?_
  refine tq_S ⟨hx, hb, hml, hown, hts⟩ hT (c_M_isTurn l v) lk_M_57 wN_mv trivial rfl hl.1 rfl (Nat.le_of_ble_eq_true rfl) d_M_cosine_2 ⟨rfl, rfl, Nat.le_of_ble_eq_true rfl, Nat.le_of_ble_eq_true rfl⟩ ⟨Nat.zero_le _, Nat.zero_le _⟩ ?_
  refine lv_if_eq hx hb d_M_cosine_5 (tgt := 12) (by decide) (fun q1 => ?_) (fun q1 => ?_)
  · have q1 := zb_f q1
    refine lv_iconst hx hb d_M_cosine_12 (v := (nI 1)) rfl ?_
    refine tq_put (F := mF am) hx hb hts (fun w h => hT w (uM_in w h)) tM tM_ok nM hown hK (tm_one hM 0 rfl) (ci := 1) rfl 0 (by decide) (hts _ (hT _ k_M_43)) (fun _ h => h) rfl (ty := .int) rfl rfl rfl (Nat.le_of_ble_eq_true rfl) ⟨0, by decide, rfl⟩ hL d_M_cosine_13 (fun H1 locs1 hP1 hz1 hq1 hL => ?_)
    have hM : tm D ci am g (nI 1) fo sz hs mi hi tx H1 := tm_set hD hM 0 (by decide) rfl hP1 (fun j hj => by rcases j with _ | _ | _ | _ | _ | _ | _ | _ | _ | _ | _ | j <;> first | rfl | exact absurd rfl hj) hq1
    have hO := hO.tr (mO.put (k := 0) (by decide) hz1 hq1)
    refine lv_aload_n hx hb d_M_cosine_16 rfl (lv_at hl 0 rfl) ?_
    refine va_get hx hb hts (fun w h => hT w (uM_in w h)) hown hK hM 0 rfl rfl 0 (by decide) (hts _ (hT _ k_M_43)) (fun _ h => h) rfl d_M_cosine_17 ?_
    refine lv_if_ne hx hb d_M_cosine_20 (tgt := 31) (by decide) (fun _ => ?_) (fun hno => absurd hno (by decide))
    refine lv_iconst hx hb d_M_cosine_31 (v := (nI 0)) rfl ?_
    exact W.iret hx hb hr (fun t ht hW => ⟨_, rfl, rfl, by rw [ht]; exact hM, by rw [ht]; exact hO⟩) hL d_M_cosine_32
  · have q1 := zb_t q1
    refine lv_iconst hx hb d_M_cosine_8 (v := (nI 0)) rfl ?_
    refine lv_goto hx hb d_M_cosine_9 (tgt := 13) (by decide) ?_
    exfalso
    omega
set_option maxHeartbeats 4000000 in
set_option maxRecDepth 100000 in
theorem c_M_height (l : Launch) (D : va_G) (ci : Nat → ClassId) (am : Nat → Nat) (g : TS) (th fo sz : Int32) (hs mi hi tx : Nat → Int32) {mm : Nat} (hm : mm < tt_fst g 10) : Met l y_M_height (wT y_M_height b_M_height 2 (some .int)) (rP 3 70) (tb (wMD D ci am g th fo sz hs mi hi tx) [.ref (am 0), .int (nI mm)]) (qM D ci am g (nI 0) fo sz hs mi hi tx (some (.int (iZ (tt_hgt g mm))))) 0 0 (mF am) := by
  refine Met.ofW (cc := b_M_height) (maxL := 2) (ret := (some .int)) (by decide) rfl ?_
  intro p e s m args below meth c s₁ B hml hv
  obtain ⟨rfl, hK, hg, hM, hD⟩ := hv
  have hx := B.exec
  have hb := B.bytes
  have hr := B.returns
  have hts := atoms_spec (ws := wT y_M_height b_M_height 2 (some .int)) B.pre
  have hT : ∀ w ∈ TT, w ∈ wT y_M_height b_M_height 2 (some .int) := wT_T
  have hown : s.vm.findClass RM = some m.cls := findClass_of_methodNamed B.named
  have hlocks := B.notSynchronized
  have hl := lv_entry ([.ref (am 0), .int (nI mm)]) (n := 2) (Nat.le_of_ble_eq_true rfl)
  rw [lg_entry_eq]
  generalize (lg_sl ([.ref (am 0), .int (nI mm)]) ++ List.replicate (2 - (lg_sl ([.ref (am 0), .int (nI mm)])).length) Slot.unset).toArray = ls at hl ⊢
  have hl : lv_has ls 2 [(0, .ref (am 0)), (1, .int (nI mm))] := hl
  have hL : ∀ q ∈ ([] : List Loc), mF am q.base := fun q hq => nomatch hq
  have hO : mO am s.heap s.heap := mO.rf
  have hdb := tt_db_in hg.2.2.2 10 (Nat.le_refl _)
  have hf10 : tt_fst g 10 = 1440 * tt_db (tt_day g) 10 := rfl
  have ev : (nI mm).toInt = mm := nI_toInt (by omega)
  refine lv_aload_n hx hb d_M_height_0 rfl (lv_at hl 0 rfl) ?_
  refine lv_aload_n hx hb d_M_height_1 rfl (lv_at hl 0 rfl) ?_
  refine lv_iload_n hx hb d_M_height_2 rfl (lv_at hl 1 rfl) ?_
  refine tq_V ⟨hx, hb, hml, hown, hts⟩ hT (c_M_isMinute l D ci am g th fo sz hs mi hi tx (nI mm)) lk_M_73 wM_mv ⟨hK, hg, hM⟩ (wM_rc hK hM) rfl hl.1 rfl (Nat.le_of_ble_eq_true rfl) d_M_height_3 ⟨rfl, rfl, Nat.le_of_ble_eq_true rfl, Nat.le_of_ble_eq_true rfl⟩ ⟨Nat.zero_le _, Nat.zero_le _⟩ ?_
  refine lv_if_eq hx hb d_M_height_6 (tgt := 13) (by decide) (fun q1 => ?_) (fun q1 => ?_)
  · have q1 := zb_f q1
    refine lv_iconst hx hb d_M_height_13 (v := (nI 1)) rfl ?_
    exfalso
    omega
  · have q1 := zb_t q1
    refine lv_iconst hx hb d_M_height_9 (v := (nI 0)) rfl ?_
    refine lv_goto hx hb d_M_height_10 (tgt := 14) (by decide) ?_
    refine tq_put (F := mF am) hx hb hts (fun w h => hT w (uM_in w h)) tM tM_ok nM hown hK (tm_one hM 0 rfl) (ci := 1) rfl 0 (by decide) (hts _ (hT _ k_M_43)) (fun _ h => h) rfl (ty := .int) rfl rfl rfl (Nat.le_of_ble_eq_true rfl) ⟨0, by decide, rfl⟩ hL d_M_height_14 (fun H1 locs1 hP1 hz1 hq1 hL => ?_)
    have hM : tm D ci am g (nI 0) fo sz hs mi hi tx H1 := tm_set hD hM 0 (by decide) rfl hP1 (fun j hj => by rcases j with _ | _ | _ | _ | _ | _ | _ | _ | _ | _ | _ | j <;> first | rfl | exact absurd rfl hj) hq1
    have hO := hO.tr (mO.put (k := 0) (by decide) hz1 hq1)
    refine lv_aload_n hx hb d_M_height_17 rfl (lv_at hl 0 rfl) ?_
    refine va_get hx hb hts (fun w h => hT w (uM_in w h)) hown hK hM 0 rfl rfl 0 (by decide) (hts _ (hT _ k_M_43)) (fun _ h => h) rfl d_M_height_18 ?_
    refine lv_if_ne hx hb d_M_height_21 (tgt := 32) (by decide) (fun hyes => absurd (by decide) hyes) (fun _ => ?_)
    refine lv_aload_n hx hb d_M_height_24 rfl (lv_at hl 0 rfl) ?_
    refine lv_iload_n hx hb d_M_height_25 rfl (lv_at hl 1 rfl) ?_
    refine tq_V ⟨hx, hb, hml, hown, hts⟩ hT (c_M_heightAt l D ci am g (nI 0) fo sz hs mi hi tx (mm := mm) (by omega)) lk_M_109 wM_mv ⟨hK, hg, hM⟩ (wM_rc hK hM) rfl hl.1 rfl (Nat.le_of_ble_eq_true rfl) d_M_height_26 ⟨rfl, rfl, Nat.le_of_ble_eq_true rfl, Nat.le_of_ble_eq_true rfl⟩ ⟨Nat.zero_le _, Nat.zero_le _⟩ ?_
    refine lv_goto hx hb d_M_height_29 (tgt := 33) (by decide) ?_
    exact W.iret hx hb hr (fun t ht hW => ⟨_, rfl, rfl, by rw [ht]; exact hM, by rw [ht]; exact hO⟩) hL d_M_height_33
set_option maxHeartbeats 4000000 in
set_option maxRecDepth 100000 in
theorem x_M_height (l : Launch) (D : va_G) (ci : Nat → ClassId) (am : Nat → Nat) (g : TS) (th fo sz : Int32) (hs mi hi tx : Nat → Int32) (v : Int32) (hv0 : ¬ (0 ≤ v.toInt ∧ v.toInt < (tt_fst g 10 : Nat))) : Met l y_M_height (wT y_M_height b_M_height 2 (some .int)) (rP 3 70) (tb (wMD D ci am g th fo sz hs mi hi tx) [.ref (am 0), .int v]) (qM D ci am g (nI 1) fo sz hs mi hi tx (some (.int (nI 0)))) 0 0 (mF am) := by
  refine Met.ofW (cc := b_M_height) (maxL := 2) (ret := (some .int)) (by decide) rfl ?_
  intro p e s m args below meth c s₁ B hml hv
  obtain ⟨rfl, hK, hg, hM, hD⟩ := hv
  have hx := B.exec
  have hb := B.bytes
  have hr := B.returns
  have hts := atoms_spec (ws := wT y_M_height b_M_height 2 (some .int)) B.pre
  have hT : ∀ w ∈ TT, w ∈ wT y_M_height b_M_height 2 (some .int) := wT_T
  have hown : s.vm.findClass RM = some m.cls := findClass_of_methodNamed B.named
  have hlocks := B.notSynchronized
  have hl := lv_entry ([.ref (am 0), .int v]) (n := 2) (Nat.le_of_ble_eq_true rfl)
  rw [lg_entry_eq]
  generalize (lg_sl ([.ref (am 0), .int v]) ++ List.replicate (2 - (lg_sl ([.ref (am 0), .int v])).length) Slot.unset).toArray = ls at hl ⊢
  have hl : lv_has ls 2 [(0, .ref (am 0)), (1, .int v)] := hl
  have hL : ∀ q ∈ ([] : List Loc), mF am q.base := fun q hq => nomatch hq
  have hO : mO am s.heap s.heap := mO.rf
  refine lv_aload_n hx hb d_M_height_0 rfl (lv_at hl 0 rfl) ?_
  refine lv_aload_n hx hb d_M_height_1 rfl (lv_at hl 0 rfl) ?_
  refine lv_iload_n hx hb d_M_height_2 rfl (lv_at hl 1 rfl) ?_
  refine tq_V ⟨hx, hb, hml, hown, hts⟩ hT (c_M_isMinute l D ci am g th fo sz hs mi hi tx v) lk_M_73 wM_mv ⟨hK, hg, hM⟩ (wM_rc hK hM) rfl hl.1 rfl (Nat.le_of_ble_eq_true rfl) d_M_height_3 ⟨rfl, rfl, Nat.le_of_ble_eq_true rfl, Nat.le_of_ble_eq_true rfl⟩ ⟨Nat.zero_le _, Nat.zero_le _⟩ ?_
  refine lv_if_eq hx hb d_M_height_6 (tgt := 13) (by decide) (fun q1 => ?_) (fun q1 => ?_)
  · have q1 := zb_f q1
    refine lv_iconst hx hb d_M_height_13 (v := (nI 1)) rfl ?_
    refine tq_put (F := mF am) hx hb hts (fun w h => hT w (uM_in w h)) tM tM_ok nM hown hK (tm_one hM 0 rfl) (ci := 1) rfl 0 (by decide) (hts _ (hT _ k_M_43)) (fun _ h => h) rfl (ty := .int) rfl rfl rfl (Nat.le_of_ble_eq_true rfl) ⟨0, by decide, rfl⟩ hL d_M_height_14 (fun H1 locs1 hP1 hz1 hq1 hL => ?_)
    have hM : tm D ci am g (nI 1) fo sz hs mi hi tx H1 := tm_set hD hM 0 (by decide) rfl hP1 (fun j hj => by rcases j with _ | _ | _ | _ | _ | _ | _ | _ | _ | _ | _ | j <;> first | rfl | exact absurd rfl hj) hq1
    have hO := hO.tr (mO.put (k := 0) (by decide) hz1 hq1)
    refine lv_aload_n hx hb d_M_height_17 rfl (lv_at hl 0 rfl) ?_
    refine va_get hx hb hts (fun w h => hT w (uM_in w h)) hown hK hM 0 rfl rfl 0 (by decide) (hts _ (hT _ k_M_43)) (fun _ h => h) rfl d_M_height_18 ?_
    refine lv_if_ne hx hb d_M_height_21 (tgt := 32) (by decide) (fun _ => ?_) (fun hno => absurd hno (by decide))
    refine lv_iconst hx hb d_M_height_32 (v := (nI 0)) rfl ?_
    exact W.iret hx hb hr (fun t ht hW => ⟨_, rfl, rfl, by rw [ht]; exact hM, by rw [ht]; exact hO⟩) hL d_M_height_33
  · have q1 := zb_t q1
    refine lv_iconst hx hb d_M_height_9 (v := (nI 0)) rfl ?_
    refine lv_goto hx hb d_M_height_10 (tgt := 14) (by decide) ?_
    exfalso
    omega
end
